set_option maxRecDepth 20000 in
theorem ggX1_refusalIn_Jx29ce0_ordinal_8abf5 : GoodIn wsX1_refusalIn wsJx29ce0_ordinal_8abf5 := goodIn_r _ [7, 8] (by decide +kernel) (by decide +kernel)
set_option maxRecDepth 20000 in
theorem gX1_refusalIn_Jx29ce0_ordinal_8abf5_u74X1 : GoodIn wsX1_refusalIn (va_wsU RX1 74 RX1 "java/lang/Enum" ⟨"HatReservations$Command", "ordinal", "()I"⟩ yJx29ce0_ordinal_8abf5 wsJx29ce0_ordinal_8abf5) := goodIn_app (goodIn_of _ (by decide +kernel)) ggX1_refusalIn_Jx29ce0_ordinal_8abf5
set_option maxRecDepth 20000 in
theorem ggX1_refusalIn_X3_refusalOfGuest : GoodIn wsX1_refusalIn wsX3_refusalOfGuest := goodIn_r _ [13, 14, 70, 71, 72, 73, 74, 75, 76, 77, 78, 79, 80, 81, 82, 83, 84] (by decide +kernel) (by decide +kernel)
set_option maxRecDepth 20000 in
theorem gX1_refusalIn_X3_refusalOfGuest : GoodIn wsX1_refusalIn (wsV RX1 78 RX3 yX3_refusalOfGuest wsX3_refusalOfGuest) := goodIn_app (goodIn_of _ (by decide +kernel)) ggX1_refusalIn_X3_refusalOfGuest
set_option maxRecDepth 20000 in
theorem ggX1_refusalIn_X3_refusalOfHat : GoodIn wsX1_refusalIn wsX3_refusalOfHat := goodIn_ca (goodIn_r _ [18, 19, 20, 21, 12, 22, 14, 23, 24, 25, 26, 27, 28, 29, 30, 31, 32, 33, 34, 35, 70, 71, 72, 73, 74, 75, 76, 77, 78, 79, 80, 81, 82, 83, 84] (by decide +kernel) (by decide +kernel)) (goodIn_sub (fun _ h => List.mem_cons_of_mem _ (List.mem_append_right _ h)) (by decide +kernel))
set_option maxRecDepth 20000 in
theorem gX1_refusalIn_X3_refusalOfHat : GoodIn wsX1_refusalIn (wsV RX1 84 RX3 yX3_refusalOfHat wsX3_refusalOfHat) := goodIn_app (goodIn_of _ (by decide +kernel)) ggX1_refusalIn_X3_refusalOfHat
set_option maxRecDepth 20000 in
theorem ggX1_refusalIn_X3_refusalWithoutHat : GoodIn wsX1_refusalIn wsX3_refusalWithoutHat := goodIn_ca (goodIn_r _ [39, 19, 20, 21, 12, 22, 14, 26, 27, 28, 29, 30, 70, 71, 72, 73, 74, 75, 76, 77, 78, 79, 80, 81, 82, 83, 84] (by decide +kernel) (by decide +kernel)) (goodIn_sub (fun _ h => List.mem_cons_of_mem _ (List.mem_append_right _ h)) (by decide +kernel))
set_option maxRecDepth 20000 in
theorem gX1_refusalIn_X3_refusalWithoutHat : GoodIn wsX1_refusalIn (wsV RX1 87 RX3 yX3_refusalWithoutHat wsX3_refusalWithoutHat) := goodIn_app (goodIn_of _ (by decide +kernel)) ggX1_refusalIn_X3_refusalWithoutHat
set_option maxRecDepth 20000 in
theorem ggX1_refusalIn_X3_refusalOfCoat : GoodIn wsX1_refusalIn wsX3_refusalOfCoat := goodIn_ca (goodIn_r _ [43, 44, 19, 20, 21, 12, 22, 14, 23, 24, 25, 31, 32, 33, 34, 35, 45, 46, 47, 48, 70, 71, 72, 73, 74, 75, 76, 77, 78, 79, 80, 81, 82, 83, 84] (by decide +kernel) (by decide +kernel)) (goodIn_sub (fun _ h => List.mem_cons_of_mem _ (List.mem_append_right _ h)) (by decide +kernel))
set_option maxRecDepth 20000 in
theorem gX1_refusalIn_X3_refusalOfCoat : GoodIn wsX1_refusalIn (wsV RX1 91 RX3 yX3_refusalOfCoat wsX3_refusalOfCoat) := goodIn_app (goodIn_of _ (by decide +kernel)) ggX1_refusalIn_X3_refusalOfCoat
set_option maxRecDepth 20000 in
theorem ggX1_refusalIn_X3_refusalWithoutCoat : GoodIn wsX1_refusalIn wsX3_refusalWithoutCoat := goodIn_ca (goodIn_r _ [52, 44, 19, 20, 21, 12, 22, 14, 70, 71, 72, 73, 74, 75, 76, 77, 78, 79, 80, 81, 82, 83, 84] (by decide +kernel) (by decide +kernel)) (goodIn_sub (fun _ h => List.mem_cons_of_mem _ (List.mem_append_right _ h)) (by decide +kernel))
set_option maxRecDepth 20000 in
theorem gX1_refusalIn_X3_refusalWithoutCoat : GoodIn wsX1_refusalIn (wsV RX1 94 RX3 yX3_refusalWithoutCoat wsX3_refusalWithoutCoat) := goodIn_app (goodIn_of _ (by decide +kernel)) ggX1_refusalIn_X3_refusalWithoutCoat
set_option maxRecDepth 20000 in
theorem ggX1_refusalIn_X3_refusalOfContest : GoodIn wsX1_refusalIn wsX3_refusalOfContest := goodIn_ca (goodIn_r _ [56, 19, 20, 21, 12, 22, 14, 23, 24, 25, 31, 32, 33, 34, 35, 26, 27, 28, 29, 30, 70, 71, 72, 73, 74, 75, 76, 77, 78, 79, 80, 81, 82, 83, 84] (by decide +kernel) (by decide +kernel)) (goodIn_sub (fun _ h => List.mem_cons_of_mem _ (List.mem_append_right _ h)) (by decide +kernel))
set_option maxRecDepth 20000 in
theorem gX1_refusalIn_X3_refusalOfContest : GoodIn wsX1_refusalIn (wsV RX1 97 RX3 yX3_refusalOfContest wsX3_refusalOfContest) := goodIn_app (goodIn_of _ (by decide +kernel)) ggX1_refusalIn_X3_refusalOfContest
set_option maxRecDepth 20000 in
theorem ggX1_refusalIn_X3_refusalOfPass : GoodIn wsX1_refusalIn wsX3_refusalOfPass := goodIn_r _ [60] (by decide +kernel) (by decide +kernel)
set_option maxRecDepth 20000 in
theorem gX1_refusalIn_X3_refusalOfPass : GoodIn wsX1_refusalIn (wsV RX1 100 RX3 yX3_refusalOfPass wsX3_refusalOfPass) := goodIn_app (goodIn_of _ (by decide +kernel)) ggX1_refusalIn_X3_refusalOfPass
set_option maxRecDepth 20000 in
theorem ggX1_refusalIn_X3_refusalOfSweep : GoodIn wsX1_refusalIn wsX3_refusalOfSweep := goodIn_r _ [64] (by decide +kernel) (by decide +kernel)
set_option maxRecDepth 20000 in
theorem gX1_refusalIn_X3_refusalOfSweep : GoodIn wsX1_refusalIn (wsV RX1 103 RX3 yX3_refusalOfSweep wsX3_refusalOfSweep) := goodIn_app (goodIn_of _ (by decide +kernel)) ggX1_refusalIn_X3_refusalOfSweep
set_option maxRecDepth 20000 in
theorem ggX1_refusalIn_X3_refusalOfFeather : GoodIn wsX1_refusalIn wsX3_refusalOfFeather := goodIn_ca (goodIn_r _ [68, 69, 19, 20, 21, 12, 22, 14, 70, 71, 72, 73, 74, 75, 76, 77, 78, 79, 80, 81, 82, 83, 84] (by decide +kernel) (by decide +kernel)) (goodIn_sub (fun _ h => List.mem_cons_of_mem _ (List.mem_append_right _ h)) (by decide +kernel))
set_option maxRecDepth 20000 in
theorem gX1_refusalIn_X3_refusalOfFeather : GoodIn wsX1_refusalIn (wsV RX1 106 RX3 yX3_refusalOfFeather wsX3_refusalOfFeather) := goodIn_app (goodIn_of _ (by decide +kernel)) ggX1_refusalIn_X3_refusalOfFeather
theorem dX1_refusalIn_0 : decode cX1_refusalIn 0 = .ok (.getstatic 68, 3) := by decide +kernel
theorem dX1_refusalIn_3 : decode cX1_refusalIn 3 = .ok (.aload_n 0, 1) := by decide +kernel
theorem dX1_refusalIn_4 : decode cX1_refusalIn 4 = .ok (.invokevirtual 74, 3) := by decide +kernel
theorem dX1_refusalIn_7 : decode cX1_refusalIn 7 = .ok (.iaload, 1) := by decide +kernel
theorem dX1_refusalIn_8 : decode cX1_refusalIn 8 = .ok (.tableswitch 104 1 9 #[52, 59, 66, 66, 72, 79, 85, 92, 98], 52) := by decide +kernel
theorem dX1_refusalIn_60 : decode cX1_refusalIn 60 = .ok (.aload_n 1, 1) := by decide +kernel
theorem dX1_refusalIn_61 : decode cX1_refusalIn 61 = .ok (.iload_n 2, 1) := by decide +kernel
theorem dX1_refusalIn_62 : decode cX1_refusalIn 62 = .ok (.iload_n 3, 1) := by decide +kernel
theorem dX1_refusalIn_63 : decode cX1_refusalIn 63 = .ok (.invokevirtual 78, 3) := by decide +kernel
theorem dX1_refusalIn_66 : decode cX1_refusalIn 66 = .ok (.ireturn, 1) := by decide +kernel
theorem dX1_refusalIn_67 : decode cX1_refusalIn 67 = .ok (.aload_n 1, 1) := by decide +kernel
theorem dX1_refusalIn_68 : decode cX1_refusalIn 68 = .ok (.iload_n 2, 1) := by decide +kernel
theorem dX1_refusalIn_69 : decode cX1_refusalIn 69 = .ok (.iload_n 3, 1) := by decide +kernel
theorem dX1_refusalIn_70 : decode cX1_refusalIn 70 = .ok (.invokevirtual 84, 3) := by decide +kernel
theorem dX1_refusalIn_73 : decode cX1_refusalIn 73 = .ok (.ireturn, 1) := by decide +kernel
theorem dX1_refusalIn_74 : decode cX1_refusalIn 74 = .ok (.aload_n 1, 1) := by decide +kernel
theorem dX1_refusalIn_75 : decode cX1_refusalIn 75 = .ok (.iload_n 2, 1) := by decide +kernel
theorem dX1_refusalIn_76 : decode cX1_refusalIn 76 = .ok (.invokevirtual 87, 3) := by decide +kernel
theorem dX1_refusalIn_79 : decode cX1_refusalIn 79 = .ok (.ireturn, 1) := by decide +kernel
theorem dX1_refusalIn_80 : decode cX1_refusalIn 80 = .ok (.aload_n 1, 1) := by decide +kernel
theorem dX1_refusalIn_81 : decode cX1_refusalIn 81 = .ok (.iload_n 2, 1) := by decide +kernel
theorem dX1_refusalIn_82 : decode cX1_refusalIn 82 = .ok (.iload_n 3, 1) := by decide +kernel
theorem dX1_refusalIn_83 : decode cX1_refusalIn 83 = .ok (.invokevirtual 91, 3) := by decide +kernel
theorem dX1_refusalIn_86 : decode cX1_refusalIn 86 = .ok (.ireturn, 1) := by decide +kernel
theorem dX1_refusalIn_87 : decode cX1_refusalIn 87 = .ok (.aload_n 1, 1) := by decide +kernel
theorem dX1_refusalIn_88 : decode cX1_refusalIn 88 = .ok (.iload_n 2, 1) := by decide +kernel
theorem dX1_refusalIn_89 : decode cX1_refusalIn 89 = .ok (.invokevirtual 94, 3) := by decide +kernel
theorem dX1_refusalIn_92 : decode cX1_refusalIn 92 = .ok (.ireturn, 1) := by decide +kernel
theorem dX1_refusalIn_93 : decode cX1_refusalIn 93 = .ok (.aload_n 1, 1) := by decide +kernel
theorem dX1_refusalIn_94 : decode cX1_refusalIn 94 = .ok (.iload_n 2, 1) := by decide +kernel
theorem dX1_refusalIn_95 : decode cX1_refusalIn 95 = .ok (.iload_n 3, 1) := by decide +kernel
theorem dX1_refusalIn_96 : decode cX1_refusalIn 96 = .ok (.invokevirtual 97, 3) := by decide +kernel
theorem dX1_refusalIn_99 : decode cX1_refusalIn 99 = .ok (.ireturn, 1) := by decide +kernel
theorem dX1_refusalIn_100 : decode cX1_refusalIn 100 = .ok (.aload_n 1, 1) := by decide +kernel
theorem dX1_refusalIn_101 : decode cX1_refusalIn 101 = .ok (.iload_n 2, 1) := by decide +kernel
theorem dX1_refusalIn_102 : decode cX1_refusalIn 102 = .ok (.invokevirtual 100, 3) := by decide +kernel
theorem dX1_refusalIn_105 : decode cX1_refusalIn 105 = .ok (.ireturn, 1) := by decide +kernel
theorem dX1_refusalIn_106 : decode cX1_refusalIn 106 = .ok (.aload_n 1, 1) := by decide +kernel
theorem dX1_refusalIn_107 : decode cX1_refusalIn 107 = .ok (.iload_n 2, 1) := by decide +kernel
theorem dX1_refusalIn_108 : decode cX1_refusalIn 108 = .ok (.invokevirtual 103, 3) := by decide +kernel
theorem dX1_refusalIn_111 : decode cX1_refusalIn 111 = .ok (.ireturn, 1) := by decide +kernel
theorem dX1_refusalIn_112 : decode cX1_refusalIn 112 = .ok (.aload_n 1, 1) := by decide +kernel
theorem dX1_refusalIn_113 : decode cX1_refusalIn 113 = .ok (.iload_n 2, 1) := by decide +kernel
theorem dX1_refusalIn_114 : decode cX1_refusalIn 114 = .ok (.invokevirtual 106, 3) := by decide +kernel
theorem dX1_refusalIn_117 : decode cX1_refusalIn 117 = .ok (.ireturn, 1) := by decide +kernel
set_option maxRecDepth 20000 in
theorem ggX1_carryOutIn_Jx29ce0_ordinal_8abf5 : GoodIn wsX1_carryOutIn wsJx29ce0_ordinal_8abf5 := goodIn_r _ [7, 8] (by decide +kernel) (by decide +kernel)
set_option maxRecDepth 20000 in
theorem gX1_carryOutIn_Jx29ce0_ordinal_8abf5_u74X1 : GoodIn wsX1_carryOutIn (va_wsU RX1 74 RX1 "java/lang/Enum" ⟨"HatReservations$Command", "ordinal", "()I"⟩ yJx29ce0_ordinal_8abf5 wsJx29ce0_ordinal_8abf5) := goodIn_app (goodIn_of _ (by decide +kernel)) ggX1_carryOutIn_Jx29ce0_ordinal_8abf5
set_option maxRecDepth 20000 in
theorem ggX1_carryOutIn_X3_welcome : GoodIn wsX1_carryOutIn wsX3_welcome := goodIn_ca (goodIn_r _ [13, 14, 15, 16, 126, 127, 128, 129, 130, 131, 132, 133, 134, 135, 136, 137, 138, 139, 140] (by decide +kernel) (by decide +kernel)) (goodIn_sub (fun _ h => List.mem_cons_of_mem _ (List.mem_append_right _ h)) (by decide +kernel))
set_option maxRecDepth 20000 in
theorem gX1_carryOutIn_X3_welcome : GoodIn wsX1_carryOutIn (wsV RX1 109 RX3 yX3_welcome wsX3_welcome) := goodIn_app (goodIn_of _ (by decide +kernel)) ggX1_carryOutIn_X3_welcome
set_option maxRecDepth 20000 in
theorem ggX1_carryOutIn_X3_putHat : GoodIn wsX1_carryOutIn wsX3_putHat := goodIn_ca (goodIn_r _ [20, 21, 22, 23, 24, 16, 25, 26, 27, 12, 28, 29, 30, 31, 32, 33, 34, 35, 36, 37, 38, 126, 127, 128, 129, 130, 131, 132, 133, 134, 135, 136, 137, 138, 139, 140] (by decide +kernel) (by decide +kernel)) (goodIn_sub (fun _ h => List.mem_cons_of_mem _ (List.mem_append_right _ h)) (by decide +kernel))
set_option maxRecDepth 20000 in
theorem gX1_carryOutIn_X3_putHat : GoodIn wsX1_carryOutIn (wsV RX1 112 RX3 yX3_putHat wsX3_putHat) := goodIn_app (goodIn_of _ (by decide +kernel)) ggX1_carryOutIn_X3_putHat
set_option maxRecDepth 20000 in
theorem ggX1_carryOutIn_X3_giveChairsBack : GoodIn wsX1_carryOutIn wsX3_giveChairsBack := goodIn_ca (goodIn_r _ [42, 43, 44, 45, 12, 46, 24, 21, 47, 48, 49, 50, 51, 52, 53, 54, 55, 56, 57, 58, 59, 60, 61, 62, 63, 64, 65, 66, 67, 68, 69, 70, 71, 72, 73, 74, 75, 18, 19, 20, 22, 23, 16, 25, 26, 27, 28, 29, 30, 31, 32, 33, 34, 35, 36, 37, 38, 126, 127, 128, 129, 130, 131, 132, 133, 134, 135, 136, 137, 138, 139, 140] (by decide +kernel) (by decide +kernel)) (goodIn_sub (fun _ h => List.mem_cons_of_mem _ (List.mem_append_right _ h)) (by decide +kernel))
set_option maxRecDepth 20000 in
theorem gX1_carryOutIn_X3_giveChairsBack : GoodIn wsX1_carryOutIn (wsV RX1 115 RX3 yX3_giveChairsBack wsX3_giveChairsBack) := goodIn_app (goodIn_of _ (by decide +kernel)) ggX1_carryOutIn_X3_giveChairsBack
set_option maxRecDepth 20000 in
theorem ggX1_carryOutIn_X3_startIdleTimeAgain : GoodIn wsX1_carryOutIn wsX3_startIdleTimeAgain := goodIn_ca (goodIn_r _ [79, 22, 23, 80, 81, 82, 12, 83, 126, 127, 128, 129, 130, 131, 132, 133, 134, 135, 136, 137, 138, 139, 140] (by decide +kernel) (by decide +kernel)) (goodIn_sub (fun _ h => List.mem_cons_of_mem _ (List.mem_append_right _ h)) (by decide +kernel))
set_option maxRecDepth 20000 in
theorem gX1_carryOutIn_X3_startIdleTimeAgain : GoodIn wsX1_carryOutIn (wsV RX1 118 RX3 yX3_startIdleTimeAgain wsX3_startIdleTimeAgain) := goodIn_app (goodIn_of _ (by decide +kernel)) ggX1_carryOutIn_X3_startIdleTimeAgain
set_option maxRecDepth 20000 in
theorem ggX1_carryOutIn_X3_putCoat : GoodIn wsX1_carryOutIn wsX3_putCoat := goodIn_ca (goodIn_r _ [87, 88, 89, 66, 65, 90, 91, 92, 12, 93, 126, 127, 128, 129, 130, 131, 132, 133, 134, 135, 136, 137, 138, 139, 140] (by decide +kernel) (by decide +kernel)) (goodIn_sub (fun _ h => List.mem_cons_of_mem _ (List.mem_append_right _ h)) (by decide +kernel))
set_option maxRecDepth 20000 in
theorem gX1_carryOutIn_X3_putCoat : GoodIn wsX1_carryOutIn (wsV RX1 121 RX3 yX3_putCoat wsX3_putCoat) := goodIn_app (goodIn_of _ (by decide +kernel)) ggX1_carryOutIn_X3_putCoat
set_option maxRecDepth 20000 in
theorem ggX1_carryOutIn_X3_pullCoat : GoodIn wsX1_carryOutIn wsX3_pullCoat := goodIn_ca (goodIn_r _ [70, 65, 66, 126, 127, 128, 129, 130, 131, 132, 133, 134, 135, 136, 137, 138, 139, 140] (by decide +kernel) (by decide +kernel)) (goodIn_sub (fun _ h => List.mem_cons_of_mem _ (List.mem_append_right _ h)) (by decide +kernel))
set_option maxRecDepth 20000 in
theorem gX1_carryOutIn_X3_pullCoat : GoodIn wsX1_carryOutIn (wsV RX1 124 RX3 yX3_pullCoat wsX3_pullCoat) := goodIn_app (goodIn_of _ (by decide +kernel)) ggX1_carryOutIn_X3_pullCoat
set_option maxRecDepth 20000 in
theorem ggX1_carryOutIn_X3_fightFor : GoodIn wsX1_carryOutIn wsX3_fightFor := goodIn_ca (goodIn_r _ [98, 15, 99, 100, 101, 102, 103, 51, 52, 53, 12, 54, 24, 104, 105, 106, 107, 108, 109, 110, 111, 21, 112, 43, 44, 45, 46, 75, 18, 19, 20, 22, 23, 16, 25, 26, 27, 28, 29, 30, 31, 32, 33, 34, 35, 36, 37, 38, 47, 48, 49, 50, 55, 56, 57, 58, 59, 60, 61, 62, 63, 64, 65, 66, 67, 68, 69, 70, 71, 72, 73, 74, 126, 127, 128, 129, 130, 131, 132, 133, 134, 135, 136, 137, 138, 139, 140] (by decide +kernel) (by decide +kernel)) (goodIn_sub (fun _ h => List.mem_cons_of_mem _ (List.mem_append_right _ h)) (by decide +kernel))
set_option maxRecDepth 20000 in
theorem gX1_carryOutIn_X3_fightFor : GoodIn wsX1_carryOutIn (wsV RX1 127 RX3 yX3_fightFor wsX3_fightFor) := goodIn_app (goodIn_of _ (by decide +kernel)) ggX1_carryOutIn_X3_fightFor
set_option maxRecDepth 20000 in
theorem ggX1_carryOutIn_X3_letPass : GoodIn wsX1_carryOutIn wsX3_letPass := goodIn_r _ [116, 23, 126, 127, 128, 129, 130, 131, 132, 133, 134, 135, 136, 137, 138, 139, 140] (by decide +kernel) (by decide +kernel)
set_option maxRecDepth 20000 in
theorem gX1_carryOutIn_X3_letPass : GoodIn wsX1_carryOutIn (wsV RX1 131 RX3 yX3_letPass wsX3_letPass) := goodIn_app (goodIn_of _ (by decide +kernel)) ggX1_carryOutIn_X3_letPass
set_option maxRecDepth 20000 in
theorem ggX1_carryOutIn_X3_sweepHats : GoodIn wsX1_carryOutIn wsX3_sweepHats := goodIn_ca (goodIn_r _ [120, 121, 71, 72, 73, 12, 74, 21, 80, 81, 82, 83, 23, 22, 43, 44, 45, 46, 24, 47, 48, 49, 50, 51, 52, 53, 54, 55, 56, 57, 58, 59, 60, 61, 62, 63, 64, 65, 66, 67, 68, 69, 70, 75, 18, 19, 20, 16, 25, 26, 27, 28, 29, 30, 31, 32, 33, 34, 35, 36, 37, 38, 126, 127, 128, 129, 130, 131, 132, 133, 134, 135, 136, 137, 138, 139, 140] (by decide +kernel) (by decide +kernel)) (goodIn_sub (fun _ h => List.mem_cons_of_mem _ (List.mem_append_right _ h)) (by decide +kernel))
set_option maxRecDepth 20000 in
theorem gX1_carryOutIn_X3_sweepHats : GoodIn wsX1_carryOutIn (wsV RX1 134 RX3 yX3_sweepHats wsX3_sweepHats) := goodIn_app (goodIn_of _ (by decide +kernel)) ggX1_carryOutIn_X3_sweepHats
set_option maxRecDepth 20000 in
theorem ggX1_carryOutIn_X3_gainFeather : GoodIn wsX1_carryOutIn wsX3_gainFeather := goodIn_ca (goodIn_r _ [125, 15, 126, 127, 128, 129, 130, 131, 132, 133, 134, 135, 136, 137, 138, 139, 140] (by decide +kernel) (by decide +kernel)) (goodIn_sub (fun _ h => List.mem_cons_of_mem _ (List.mem_append_right _ h)) (by decide +kernel))
set_option maxRecDepth 20000 in
theorem gX1_carryOutIn_X3_gainFeather : GoodIn wsX1_carryOutIn (wsV RX1 137 RX3 yX3_gainFeather wsX3_gainFeather) := goodIn_app (goodIn_of _ (by decide +kernel)) ggX1_carryOutIn_X3_gainFeather
theorem dX1_carryOutIn_0 : decode cX1_carryOutIn 0 = .ok (.getstatic 68, 3) := by decide +kernel
theorem dX1_carryOutIn_3 : decode cX1_carryOutIn 3 = .ok (.aload_n 0, 1) := by decide +kernel
theorem dX1_carryOutIn_4 : decode cX1_carryOutIn 4 = .ok (.invokevirtual 74, 3) := by decide +kernel
theorem dX1_carryOutIn_7 : decode cX1_carryOutIn 7 = .ok (.iaload, 1) := by decide +kernel
theorem dX1_carryOutIn_8 : decode cX1_carryOutIn 8 = .ok (.tableswitch 137 1 9 #[52, 62, 72, 81, 90, 100, 109, 119, 128], 52) := by decide +kernel
theorem dX1_carryOutIn_60 : decode cX1_carryOutIn 60 = .ok (.aload_n 1, 1) := by decide +kernel
theorem dX1_carryOutIn_61 : decode cX1_carryOutIn 61 = .ok (.iload_n 2, 1) := by decide +kernel
theorem dX1_carryOutIn_62 : decode cX1_carryOutIn 62 = .ok (.iload_n 3, 1) := by decide +kernel
theorem dX1_carryOutIn_63 : decode cX1_carryOutIn 63 = .ok (.invokevirtual 109, 3) := by decide +kernel
theorem dX1_carryOutIn_66 : decode cX1_carryOutIn 66 = .ok (.pop, 1) := by decide +kernel
theorem dX1_carryOutIn_67 : decode cX1_carryOutIn 67 = .ok (.goto 84, 3) := by decide +kernel
theorem dX1_carryOutIn_70 : decode cX1_carryOutIn 70 = .ok (.aload_n 1, 1) := by decide +kernel
theorem dX1_carryOutIn_71 : decode cX1_carryOutIn 71 = .ok (.iload_n 2, 1) := by decide +kernel
theorem dX1_carryOutIn_72 : decode cX1_carryOutIn 72 = .ok (.iload_n 3, 1) := by decide +kernel
theorem dX1_carryOutIn_73 : decode cX1_carryOutIn 73 = .ok (.invokevirtual 112, 3) := by decide +kernel
theorem dX1_carryOutIn_76 : decode cX1_carryOutIn 76 = .ok (.pop, 1) := by decide +kernel
theorem dX1_carryOutIn_77 : decode cX1_carryOutIn 77 = .ok (.goto 74, 3) := by decide +kernel
theorem dX1_carryOutIn_80 : decode cX1_carryOutIn 80 = .ok (.aload_n 1, 1) := by decide +kernel
theorem dX1_carryOutIn_81 : decode cX1_carryOutIn 81 = .ok (.iload_n 2, 1) := by decide +kernel
theorem dX1_carryOutIn_82 : decode cX1_carryOutIn 82 = .ok (.invokevirtual 115, 3) := by decide +kernel
theorem dX1_carryOutIn_85 : decode cX1_carryOutIn 85 = .ok (.pop, 1) := by decide +kernel
theorem dX1_carryOutIn_86 : decode cX1_carryOutIn 86 = .ok (.goto 65, 3) := by decide +kernel
theorem dX1_carryOutIn_89 : decode cX1_carryOutIn 89 = .ok (.aload_n 1, 1) := by decide +kernel
theorem dX1_carryOutIn_90 : decode cX1_carryOutIn 90 = .ok (.iload_n 2, 1) := by decide +kernel
theorem dX1_carryOutIn_91 : decode cX1_carryOutIn 91 = .ok (.invokevirtual 118, 3) := by decide +kernel
theorem dX1_carryOutIn_94 : decode cX1_carryOutIn 94 = .ok (.pop, 1) := by decide +kernel
theorem dX1_carryOutIn_95 : decode cX1_carryOutIn 95 = .ok (.goto 56, 3) := by decide +kernel
theorem dX1_carryOutIn_98 : decode cX1_carryOutIn 98 = .ok (.aload_n 1, 1) := by decide +kernel
theorem dX1_carryOutIn_99 : decode cX1_carryOutIn 99 = .ok (.iload_n 2, 1) := by decide +kernel
theorem dX1_carryOutIn_100 : decode cX1_carryOutIn 100 = .ok (.iload_n 3, 1) := by decide +kernel
theorem dX1_carryOutIn_101 : decode cX1_carryOutIn 101 = .ok (.invokevirtual 121, 3) := by decide +kernel
theorem dX1_carryOutIn_104 : decode cX1_carryOutIn 104 = .ok (.pop, 1) := by decide +kernel
theorem dX1_carryOutIn_105 : decode cX1_carryOutIn 105 = .ok (.goto 46, 3) := by decide +kernel
theorem dX1_carryOutIn_108 : decode cX1_carryOutIn 108 = .ok (.aload_n 1, 1) := by decide +kernel
theorem dX1_carryOutIn_109 : decode cX1_carryOutIn 109 = .ok (.iload_n 2, 1) := by decide +kernel
theorem dX1_carryOutIn_110 : decode cX1_carryOutIn 110 = .ok (.invokevirtual 124, 3) := by decide +kernel
theorem dX1_carryOutIn_113 : decode cX1_carryOutIn 113 = .ok (.pop, 1) := by decide +kernel
theorem dX1_carryOutIn_114 : decode cX1_carryOutIn 114 = .ok (.goto 37, 3) := by decide +kernel
theorem dX1_carryOutIn_117 : decode cX1_carryOutIn 117 = .ok (.aload_n 1, 1) := by decide +kernel
theorem dX1_carryOutIn_118 : decode cX1_carryOutIn 118 = .ok (.iload_n 2, 1) := by decide +kernel
theorem dX1_carryOutIn_119 : decode cX1_carryOutIn 119 = .ok (.iload_n 3, 1) := by decide +kernel
theorem dX1_carryOutIn_120 : decode cX1_carryOutIn 120 = .ok (.invokevirtual 127, 3) := by decide +kernel
theorem dX1_carryOutIn_123 : decode cX1_carryOutIn 123 = .ok (.pop, 1) := by decide +kernel
theorem dX1_carryOutIn_124 : decode cX1_carryOutIn 124 = .ok (.goto 27, 3) := by decide +kernel
theorem dX1_carryOutIn_127 : decode cX1_carryOutIn 127 = .ok (.aload_n 1, 1) := by decide +kernel
theorem dX1_carryOutIn_128 : decode cX1_carryOutIn 128 = .ok (.iload_n 2, 1) := by decide +kernel
theorem dX1_carryOutIn_129 : decode cX1_carryOutIn 129 = .ok (.invokevirtual 131, 3) := by decide +kernel
theorem dX1_carryOutIn_132 : decode cX1_carryOutIn 132 = .ok (.pop, 1) := by decide +kernel
theorem dX1_carryOutIn_133 : decode cX1_carryOutIn 133 = .ok (.goto 18, 3) := by decide +kernel
theorem dX1_carryOutIn_136 : decode cX1_carryOutIn 136 = .ok (.aload_n 1, 1) := by decide +kernel
theorem dX1_carryOutIn_137 : decode cX1_carryOutIn 137 = .ok (.iload_n 2, 1) := by decide +kernel
theorem dX1_carryOutIn_138 : decode cX1_carryOutIn 138 = .ok (.invokevirtual 134, 3) := by decide +kernel
theorem dX1_carryOutIn_141 : decode cX1_carryOutIn 141 = .ok (.pop, 1) := by decide +kernel
theorem dX1_carryOutIn_142 : decode cX1_carryOutIn 142 = .ok (.goto 9, 3) := by decide +kernel
theorem dX1_carryOutIn_145 : decode cX1_carryOutIn 145 = .ok (.aload_n 1, 1) := by decide +kernel
theorem dX1_carryOutIn_146 : decode cX1_carryOutIn 146 = .ok (.iload_n 2, 1) := by decide +kernel
theorem dX1_carryOutIn_147 : decode cX1_carryOutIn 147 = .ok (.invokevirtual 137, 3) := by decide +kernel
theorem dX1_carryOutIn_150 : decode cX1_carryOutIn 150 = .ok (.pop, 1) := by decide +kernel
theorem dX1_carryOutIn_151 : decode cX1_carryOutIn 151 = .ok (.return_, 1) := by decide +kernel
theorem dX2_init_0 : decode cX2_init 0 = .ok (.aload_n 0, 1) := by decide +kernel
theorem dX2_init_1 : decode cX2_init 1 = .ok (.invokespecial 3, 3) := by decide +kernel
theorem dX2_init_4 : decode cX2_init 4 = .ok (.aload_n 0, 1) := by decide +kernel
theorem dX2_init_5 : decode cX2_init 5 = .ok (.bipush 60, 2) := by decide +kernel
theorem dX2_init_7 : decode cX2_init 7 = .ok (.newarray .char, 2) := by decide +kernel
theorem dX2_init_9 : decode cX2_init 9 = .ok (.putfield 9, 3) := by decide +kernel
theorem dX2_init_12 : decode cX2_init 12 = .ok (.aload_n 0, 1) := by decide +kernel
theorem dX2_init_13 : decode cX2_init 13 = .ok (.iconst 0, 1) := by decide +kernel
theorem dX2_init_14 : decode cX2_init 14 = .ok (.putfield 15, 3) := by decide +kernel
theorem dX2_init_17 : decode cX2_init 17 = .ok (.aload_n 0, 1) := by decide +kernel
theorem dX2_init_18 : decode cX2_init 18 = .ok (.bipush 10, 2) := by decide +kernel
theorem dX2_init_20 : decode cX2_init 20 = .ok (.anewarray 19, 3) := by decide +kernel
theorem dX2_init_23 : decode cX2_init 23 = .ok (.putfield 21, 3) := by decide +kernel
theorem dX2_init_26 : decode cX2_init 26 = .ok (.aload_n 0, 1) := by decide +kernel
theorem dX2_init_27 : decode cX2_init 27 = .ok (.bipush 10, 2) := by decide +kernel
theorem dX2_init_29 : decode cX2_init 29 = .ok (.newarray .int, 2) := by decide +kernel
theorem dX2_init_31 : decode cX2_init 31 = .ok (.putfield 25, 3) := by decide +kernel
theorem dX2_init_34 : decode cX2_init 34 = .ok (.aload_n 0, 1) := by decide +kernel
theorem dX2_init_35 : decode cX2_init 35 = .ok (.bipush 10, 2) := by decide +kernel
theorem dX2_init_37 : decode cX2_init 37 = .ok (.newarray .int, 2) := by decide +kernel
theorem dX2_init_39 : decode cX2_init 39 = .ok (.putfield 29, 3) := by decide +kernel
theorem dX2_init_42 : decode cX2_init 42 = .ok (.aload_n 0, 1) := by decide +kernel
theorem dX2_init_43 : decode cX2_init 43 = .ok (.iconst 0, 1) := by decide +kernel
theorem dX2_init_44 : decode cX2_init 44 = .ok (.putfield 32, 3) := by decide +kernel
theorem dX2_init_47 : decode cX2_init 47 = .ok (.aload_n 0, 1) := by decide +kernel
theorem dX2_init_48 : decode cX2_init 48 = .ok (.iconst 0, 1) := by decide +kernel
theorem dX2_init_49 : decode cX2_init 49 = .ok (.putfield 35, 3) := by decide +kernel
theorem dX2_init_52 : decode cX2_init 52 = .ok (.iconst 0, 1) := by decide +kernel
theorem dX2_init_53 : decode cX2_init 53 = .ok (.istore_n 1, 1) := by decide +kernel
theorem dX2_init_54 : decode cX2_init 54 = .ok (.iload_n 1, 1) := by decide +kernel
theorem dX2_init_55 : decode cX2_init 55 = .ok (.bipush 10, 2) := by decide +kernel
theorem dX2_init_57 : decode cX2_init 57 = .ok (.if_icmp .ge 18, 3) := by decide +kernel
theorem dX2_init_60 : decode cX2_init 60 = .ok (.aload_n 0, 1) := by decide +kernel
theorem dX2_init_61 : decode cX2_init 61 = .ok (.getfield 21, 3) := by decide +kernel
theorem dX2_init_64 : decode cX2_init 64 = .ok (.iload_n 1, 1) := by decide +kernel
theorem dX2_init_65 : decode cX2_init 65 = .ok (.getstatic 38, 3) := by decide +kernel
theorem dX2_init_68 : decode cX2_init 68 = .ok (.aastore, 1) := by decide +kernel
theorem dX2_init_69 : decode cX2_init 69 = .ok (.iinc 1 1, 3) := by decide +kernel
theorem dX2_init_72 : decode cX2_init 72 = .ok (.goto (-18), 3) := by decide +kernel
theorem dX2_init_75 : decode cX2_init 75 = .ok (.return_, 1) := by decide +kernel
theorem dX2_isFull_0 : decode cX2_isFull 0 = .ok (.aload_n 0, 1) := by decide +kernel
theorem dX2_isFull_1 : decode cX2_isFull 1 = .ok (.getfield 15, 3) := by decide +kernel
theorem dX2_isFull_4 : decode cX2_isFull 4 = .ok (.bipush 60, 2) := by decide +kernel
theorem dX2_isFull_6 : decode cX2_isFull 6 = .ok (.if_icmp .lt 7, 3) := by decide +kernel
theorem dX2_isFull_9 : decode cX2_isFull 9 = .ok (.iconst 1, 1) := by decide +kernel
theorem dX2_isFull_10 : decode cX2_isFull 10 = .ok (.goto 4, 3) := by decide +kernel
theorem dX2_isFull_13 : decode cX2_isFull 13 = .ok (.iconst 0, 1) := by decide +kernel
theorem dX2_isFull_14 : decode cX2_isFull 14 = .ok (.ireturn, 1) := by decide +kernel
theorem dX2_add_0 : decode cX2_add 0 = .ok (.aload_n 0, 1) := by decide +kernel
theorem dX2_add_1 : decode cX2_add 1 = .ok (.getfield 9, 3) := by decide +kernel
theorem dX2_add_4 : decode cX2_add 4 = .ok (.aload_n 0, 1) := by decide +kernel
theorem dX2_add_5 : decode cX2_add 5 = .ok (.getfield 15, 3) := by decide +kernel
theorem dX2_add_8 : decode cX2_add 8 = .ok (.iload_n 1, 1) := by decide +kernel
theorem dX2_add_9 : decode cX2_add 9 = .ok (.castore, 1) := by decide +kernel
theorem dX2_add_10 : decode cX2_add 10 = .ok (.aload_n 0, 1) := by decide +kernel
theorem dX2_add_11 : decode cX2_add 11 = .ok (.dup, 1) := by decide +kernel
theorem dX2_add_12 : decode cX2_add 12 = .ok (.getfield 15, 3) := by decide +kernel
theorem dX2_add_15 : decode cX2_add 15 = .ok (.iconst 1, 1) := by decide +kernel
theorem dX2_add_16 : decode cX2_add 16 = .ok (.iadd, 1) := by decide +kernel
theorem dX2_add_17 : decode cX2_add 17 = .ok (.putfield 15, 3) := by decide +kernel
theorem dX2_add_20 : decode cX2_add 20 = .ok (.aload_n 0, 1) := by decide +kernel
theorem dX2_add_21 : decode cX2_add 21 = .ok (.getfield 15, 3) := by decide +kernel
theorem dX2_add_24 : decode cX2_add 24 = .ok (.ireturn, 1) := by decide +kernel
theorem dX2_empty_0 : decode cX2_empty 0 = .ok (.aload_n 0, 1) := by decide +kernel
theorem dX2_empty_1 : decode cX2_empty 1 = .ok (.iconst 0, 1) := by decide +kernel
theorem dX2_empty_2 : decode cX2_empty 2 = .ok (.putfield 15, 3) := by decide +kernel
theorem dX2_empty_5 : decode cX2_empty 5 = .ok (.return_, 1) := by decide +kernel
set_option maxRecDepth 20000 in
theorem ggX2_read_X2_readCommand : GoodIn wsX2_read wsX2_readCommand := goodIn_ca (goodIn_r _ [8, 9, 10, 11, 12, 13, 14, 15, 16, 17, 7, 18, 1, 19, 20, 21, 22, 23, 24, 25, 26, 27, 3, 28, 29, 30, 31, 32, 33, 34, 35, 36, 37, 38, 39, 40, 41, 42, 43, 44, 45, 46, 47, 48, 49, 50, 51, 52, 53, 54, 55, 56, 57, 58, 59, 60, 61, 62, 63, 64, 65, 66, 67, 68, 69, 70, 71, 72, 73, 74, 75, 76, 77, 78, 79, 80, 81, 82, 83, 84, 85, 86, 87, 88, 89, 90, 91, 92, 93, 94, 95, 96, 97, 98, 99, 100] (by decide +kernel) (by decide +kernel)) (goodIn_sub (fun _ h => List.mem_cons_of_mem _ (List.mem_append_right _ h)) (by decide +kernel))
set_option maxRecDepth 20000 in
theorem gX2_read_X2_readCommand : GoodIn wsX2_read (wsV RX2 42 RX2 yX2_readCommand wsX2_readCommand) := goodIn_app (goodIn_of _ (by decide +kernel)) ggX2_read_X2_readCommand
set_option maxRecDepth 20000 in
theorem ggX2_read_X2_readSign : GoodIn wsX2_read wsX2_readSign := goodIn_ca (goodIn_r _ [89, 1, 3, 28, 90, 91, 92, 93, 94, 95, 96] (by decide +kernel) (by decide +kernel)) (goodIn_sub (fun _ h => List.mem_cons_of_mem _ (List.mem_append_right _ h)) (by decide +kernel))
set_option maxRecDepth 20000 in
theorem gX2_read_X2_readSign : GoodIn wsX2_read (wsV RX2 46 RX2 yX2_readSign wsX2_readSign) := goodIn_app (goodIn_of _ (by decide +kernel)) ggX2_read_X2_readSign
theorem dX2_read_0 : decode cX2_read 0 = .ok (.aload_n 0, 1) := by decide +kernel
theorem dX2_read_1 : decode cX2_read 1 = .ok (.iconst 0, 1) := by decide +kernel
theorem dX2_read_2 : decode cX2_read 2 = .ok (.putfield 35, 3) := by decide +kernel
theorem dX2_read_5 : decode cX2_read 5 = .ok (.aload_n 0, 1) := by decide +kernel
theorem dX2_read_6 : decode cX2_read 6 = .ok (.iconst 0, 1) := by decide +kernel
theorem dX2_read_7 : decode cX2_read 7 = .ok (.putfield 32, 3) := by decide +kernel
theorem dX2_read_10 : decode cX2_read 10 = .ok (.iconst 0, 1) := by decide +kernel
theorem dX2_read_11 : decode cX2_read 11 = .ok (.istore_n 1, 1) := by decide +kernel
theorem dX2_read_12 : decode cX2_read 12 = .ok (.iload_n 1, 1) := by decide +kernel
theorem dX2_read_13 : decode cX2_read 13 = .ok (.bipush 10, 2) := by decide +kernel
theorem dX2_read_15 : decode cX2_read 15 = .ok (.if_icmp .ge 53, 3) := by decide +kernel
theorem dX2_read_18 : decode cX2_read 18 = .ok (.aload_n 0, 1) := by decide +kernel
theorem dX2_read_19 : decode cX2_read 19 = .ok (.iload_n 1, 1) := by decide +kernel
theorem dX2_read_20 : decode cX2_read 20 = .ok (.invokevirtual 42, 3) := by decide +kernel
theorem dX2_read_23 : decode cX2_read 23 = .ok (.ifCond .ne 5, 3) := by decide +kernel
theorem dX2_read_26 : decode cX2_read 26 = .ok (.iconst 0, 1) := by decide +kernel
theorem dX2_read_27 : decode cX2_read 27 = .ok (.ireturn, 1) := by decide +kernel
theorem dX2_read_28 : decode cX2_read 28 = .ok (.aload_n 0, 1) := by decide +kernel
theorem dX2_read_29 : decode cX2_read 29 = .ok (.dup, 1) := by decide +kernel
theorem dX2_read_30 : decode cX2_read 30 = .ok (.getfield 32, 3) := by decide +kernel
theorem dX2_read_33 : decode cX2_read 33 = .ok (.iconst 1, 1) := by decide +kernel
theorem dX2_read_34 : decode cX2_read 34 = .ok (.iadd, 1) := by decide +kernel
theorem dX2_read_35 : decode cX2_read 35 = .ok (.putfield 32, 3) := by decide +kernel
theorem dX2_read_38 : decode cX2_read 38 = .ok (.aload_n 0, 1) := by decide +kernel
theorem dX2_read_39 : decode cX2_read 39 = .ok (.getfield 35, 3) := by decide +kernel
theorem dX2_read_42 : decode cX2_read 42 = .ok (.aload_n 0, 1) := by decide +kernel
theorem dX2_read_43 : decode cX2_read 43 = .ok (.getfield 15, 3) := by decide +kernel
theorem dX2_read_46 : decode cX2_read 46 = .ok (.if_icmp .ne 5, 3) := by decide +kernel
theorem dX2_read_49 : decode cX2_read 49 = .ok (.iconst 1, 1) := by decide +kernel
theorem dX2_read_50 : decode cX2_read 50 = .ok (.ireturn, 1) := by decide +kernel
theorem dX2_read_51 : decode cX2_read 51 = .ok (.aload_n 0, 1) := by decide +kernel
theorem dX2_read_52 : decode cX2_read 52 = .ok (.bipush 59, 2) := by decide +kernel
theorem dX2_read_54 : decode cX2_read 54 = .ok (.invokevirtual 46, 3) := by decide +kernel
theorem dX2_read_57 : decode cX2_read 57 = .ok (.ifCond .ne 5, 3) := by decide +kernel
theorem dX2_read_60 : decode cX2_read 60 = .ok (.iconst 0, 1) := by decide +kernel
theorem dX2_read_61 : decode cX2_read 61 = .ok (.ireturn, 1) := by decide +kernel
theorem dX2_read_62 : decode cX2_read 62 = .ok (.iinc 1 1, 3) := by decide +kernel
theorem dX2_read_65 : decode cX2_read 65 = .ok (.goto (-53), 3) := by decide +kernel
theorem dX2_read_68 : decode cX2_read 68 = .ok (.iconst 0, 1) := by decide +kernel
theorem dX2_read_69 : decode cX2_read 69 = .ok (.ireturn, 1) := by decide +kernel
set_option maxRecDepth 20000 in
theorem ggX2_readCommand_X2_readKeyword : GoodIn wsX2_readCommand wsX2_readKeyword := goodIn_ca (goodIn_r _ [11, 12, 13, 14, 15, 16, 17, 18, 19, 20, 10, 21, 22, 23, 24, 25, 26, 27, 28, 29, 30, 31, 32, 33, 34, 35, 36, 37, 38, 39, 40, 41, 42, 43, 44, 45, 46, 47, 48, 49, 50, 51, 52, 53, 54, 55, 56, 57, 58, 59, 60, 61, 62, 63, 64, 65, 66, 67, 68, 69, 70, 71, 72, 85, 86, 87, 88, 89, 90, 91, 92, 93, 94, 95] (by decide +kernel) (by decide +kernel)) (goodIn_sub (fun _ h => List.mem_cons_of_mem _ (List.mem_append_right _ h)) (by decide +kernel))
set_option maxRecDepth 20000 in
theorem gX2_readCommand_X2_readKeyword : GoodIn wsX2_readCommand (wsV RX2 50 RX2 yX2_readKeyword wsX2_readKeyword) := goodIn_app (goodIn_of _ (by decide +kernel)) ggX2_readCommand_X2_readKeyword
set_option maxRecDepth 20000 in
theorem ggX2_readCommand_X2_readNumber : GoodIn wsX2_readCommand wsX2_readNumber := goodIn_ca (goodIn_r _ [76, 23, 12, 77, 78, 79, 10, 80, 22, 85, 86, 87, 88, 89, 90, 91] (by decide +kernel) (by decide +kernel)) (goodIn_sub (fun _ h => List.mem_cons_of_mem _ (List.mem_append_right _ h)) (by decide +kernel))
set_option maxRecDepth 20000 in
theorem gX2_readCommand_X2_readNumber : GoodIn wsX2_readCommand (wsV RX2 57 RX2 yX2_readNumber wsX2_readNumber) := goodIn_app (goodIn_of _ (by decide +kernel)) ggX2_readCommand_X2_readNumber
set_option maxRecDepth 20000 in
theorem ggX2_readCommand_X2_readSign : GoodIn wsX2_readCommand wsX2_readSign := goodIn_ca (goodIn_r _ [84, 12, 22, 23, 85, 86, 87, 88, 89, 90, 91] (by decide +kernel) (by decide +kernel)) (goodIn_sub (fun _ h => List.mem_cons_of_mem _ (List.mem_append_right _ h)) (by decide +kernel))
set_option maxRecDepth 20000 in
theorem gX2_readCommand_X2_readSign : GoodIn wsX2_readCommand (wsV RX2 46 RX2 yX2_readSign wsX2_readSign) := goodIn_app (goodIn_of _ (by decide +kernel)) ggX2_readCommand_X2_readSign
theorem dX2_readCommand_0 : decode cX2_readCommand 0 = .ok (.aload_n 0, 1) := by decide +kernel
theorem dX2_readCommand_1 : decode cX2_readCommand 1 = .ok (.invokevirtual 50, 3) := by decide +kernel
theorem dX2_readCommand_4 : decode cX2_readCommand 4 = .ok (.astore_n 2, 1) := by decide +kernel
theorem dX2_readCommand_5 : decode cX2_readCommand 5 = .ok (.aload_n 2, 1) := by decide +kernel
theorem dX2_readCommand_6 : decode cX2_readCommand 6 = .ok (.ifnonnull 5, 3) := by decide +kernel
theorem dX2_readCommand_9 : decode cX2_readCommand 9 = .ok (.iconst 0, 1) := by decide +kernel
theorem dX2_readCommand_10 : decode cX2_readCommand 10 = .ok (.ireturn, 1) := by decide +kernel
theorem dX2_readCommand_11 : decode cX2_readCommand 11 = .ok (.aload_n 0, 1) := by decide +kernel
theorem dX2_readCommand_12 : decode cX2_readCommand 12 = .ok (.aload_n 2, 1) := by decide +kernel
theorem dX2_readCommand_13 : decode cX2_readCommand 13 = .ok (.getfield 54, 3) := by decide +kernel
theorem dX2_readCommand_16 : decode cX2_readCommand 16 = .ok (.invokevirtual 57, 3) := by decide +kernel
theorem dX2_readCommand_19 : decode cX2_readCommand 19 = .ok (.istore_n 3, 1) := by decide +kernel
theorem dX2_readCommand_20 : decode cX2_readCommand 20 = .ok (.iload_n 3, 1) := by decide +kernel
theorem dX2_readCommand_21 : decode cX2_readCommand 21 = .ok (.iconst (-1), 1) := by decide +kernel
theorem dX2_readCommand_22 : decode cX2_readCommand 22 = .ok (.if_icmp .eq 19, 3) := by decide +kernel
theorem dX2_readCommand_25 : decode cX2_readCommand 25 = .ok (.aload_n 2, 1) := by decide +kernel
theorem dX2_readCommand_26 : decode cX2_readCommand 26 = .ok (.getfield 61, 3) := by decide +kernel
theorem dX2_readCommand_29 : decode cX2_readCommand 29 = .ok (.ifCond .eq 14, 3) := by decide +kernel
theorem dX2_readCommand_32 : decode cX2_readCommand 32 = .ok (.aload_n 0, 1) := by decide +kernel
theorem dX2_readCommand_33 : decode cX2_readCommand 33 = .ok (.bipush 32, 2) := by decide +kernel
theorem dX2_readCommand_35 : decode cX2_readCommand 35 = .ok (.invokevirtual 46, 3) := by decide +kernel
theorem dX2_readCommand_38 : decode cX2_readCommand 38 = .ok (.ifCond .ne 5, 3) := by decide +kernel
theorem dX2_readCommand_41 : decode cX2_readCommand 41 = .ok (.iconst 0, 1) := by decide +kernel
theorem dX2_readCommand_42 : decode cX2_readCommand 42 = .ok (.ireturn, 1) := by decide +kernel
theorem dX2_readCommand_43 : decode cX2_readCommand 43 = .ok (.aload_n 2, 1) := by decide +kernel
theorem dX2_readCommand_44 : decode cX2_readCommand 44 = .ok (.getfield 65, 3) := by decide +kernel
theorem dX2_readCommand_47 : decode cX2_readCommand 47 = .ok (.ifCond .ne 7, 3) := by decide +kernel
theorem dX2_readCommand_50 : decode cX2_readCommand 50 = .ok (.iconst 0, 1) := by decide +kernel
theorem dX2_readCommand_51 : decode cX2_readCommand 51 = .ok (.goto 11, 3) := by decide +kernel
theorem dX2_readCommand_54 : decode cX2_readCommand 54 = .ok (.aload_n 0, 1) := by decide +kernel
theorem dX2_readCommand_55 : decode cX2_readCommand 55 = .ok (.aload_n 2, 1) := by decide +kernel
theorem dX2_readCommand_56 : decode cX2_readCommand 56 = .ok (.getfield 65, 3) := by decide +kernel
theorem dX2_readCommand_59 : decode cX2_readCommand 59 = .ok (.invokevirtual 57, 3) := by decide +kernel
theorem dX2_readCommand_62 : decode cX2_readCommand 62 = .ok (.istore 4, 2) := by decide +kernel
theorem dX2_readCommand_64 : decode cX2_readCommand 64 = .ok (.iload 4, 2) := by decide +kernel
theorem dX2_readCommand_66 : decode cX2_readCommand 66 = .ok (.iconst (-1), 1) := by decide +kernel
theorem dX2_readCommand_67 : decode cX2_readCommand 67 = .ok (.if_icmp .ne 5, 3) := by decide +kernel
theorem dX2_readCommand_70 : decode cX2_readCommand 70 = .ok (.iconst 0, 1) := by decide +kernel
theorem dX2_readCommand_71 : decode cX2_readCommand 71 = .ok (.ireturn, 1) := by decide +kernel
theorem dX2_readCommand_72 : decode cX2_readCommand 72 = .ok (.aload_n 0, 1) := by decide +kernel
theorem dX2_readCommand_73 : decode cX2_readCommand 73 = .ok (.getfield 21, 3) := by decide +kernel
theorem dX2_readCommand_76 : decode cX2_readCommand 76 = .ok (.iload_n 1, 1) := by decide +kernel
theorem dX2_readCommand_77 : decode cX2_readCommand 77 = .ok (.aload_n 2, 1) := by decide +kernel
theorem dX2_readCommand_78 : decode cX2_readCommand 78 = .ok (.aastore, 1) := by decide +kernel
theorem dX2_readCommand_79 : decode cX2_readCommand 79 = .ok (.aload_n 0, 1) := by decide +kernel
theorem dX2_readCommand_80 : decode cX2_readCommand 80 = .ok (.getfield 25, 3) := by decide +kernel
theorem dX2_readCommand_83 : decode cX2_readCommand 83 = .ok (.iload_n 1, 1) := by decide +kernel
theorem dX2_readCommand_84 : decode cX2_readCommand 84 = .ok (.iload_n 3, 1) := by decide +kernel
theorem dX2_readCommand_85 : decode cX2_readCommand 85 = .ok (.iastore, 1) := by decide +kernel
theorem dX2_readCommand_86 : decode cX2_readCommand 86 = .ok (.aload_n 0, 1) := by decide +kernel
theorem dX2_readCommand_87 : decode cX2_readCommand 87 = .ok (.getfield 29, 3) := by decide +kernel
theorem dX2_readCommand_90 : decode cX2_readCommand 90 = .ok (.iload_n 1, 1) := by decide +kernel
theorem dX2_readCommand_91 : decode cX2_readCommand 91 = .ok (.iload 4, 2) := by decide +kernel
theorem dX2_readCommand_93 : decode cX2_readCommand 93 = .ok (.iastore, 1) := by decide +kernel
theorem dX2_readCommand_94 : decode cX2_readCommand 94 = .ok (.iconst 1, 1) := by decide +kernel
theorem dX2_readCommand_95 : decode cX2_readCommand 95 = .ok (.ireturn, 1) := by decide +kernel
set_option maxRecDepth 20000 in
theorem ggX2_readKeyword_X2_countMatched : GoodIn wsX2_readKeyword wsX2_countMatched := goodIn_ca (goodIn_r _ [11, 12, 13, 14, 15, 16, 17, 18, 19, 20, 21, 22, 23, 24, 25, 26, 27, 28, 29, 30, 31, 32, 33, 34, 35, 36, 37, 38, 39, 40, 41, 42, 43, 44, 45, 46, 47, 48, 49, 50, 51, 52, 53, 54, 55, 56, 57, 58, 59, 60, 61, 62, 63, 64, 65, 66, 67, 68, 69, 70, 71, 72, 73] (by decide +kernel) (by decide +kernel)) (goodIn_sub (fun _ h => List.mem_cons_of_mem _ (List.mem_append_right _ h)) (by decide +kernel))
set_option maxRecDepth 20000 in
theorem gX2_readKeyword_X2_countMatched : GoodIn wsX2_readKeyword (wsV RX2 75 RX2 yX2_countMatched wsX2_countMatched) := goodIn_app (goodIn_of _ (by decide +kernel)) ggX2_readKeyword_X2_countMatched
set_option maxRecDepth 20000 in
theorem ggX2_readKeyword_J0_length_8abf5 : GoodIn wsX2_readKeyword wsJ0_length_8abf5 := goodIn_r _ [18, 19, 20, 21, 22, 17, 23, 24, 25, 70, 71, 72, 73] (by decide +kernel) (by decide +kernel)
set_option maxRecDepth 20000 in
theorem gX2_readKeyword_J0_length_8abf5 : GoodIn wsX2_readKeyword (wsV RX2 85 RJ0 yJ0_length_8abf5 wsJ0_length_8abf5) := goodIn_app (goodIn_of _ (by decide +kernel)) ggX2_readKeyword_J0_length_8abf5
theorem dX2_readKeyword_0 : decode cX2_readKeyword 0 = .ok (.aload_n 0, 1) := by decide +kernel
theorem dX2_readKeyword_1 : decode cX2_readKeyword 1 = .ok (.getfield 35, 3) := by decide +kernel
theorem dX2_readKeyword_4 : decode cX2_readKeyword 4 = .ok (.istore_n 1, 1) := by decide +kernel
theorem dX2_readKeyword_5 : decode cX2_readKeyword 5 = .ok (.iconst 0, 1) := by decide +kernel
theorem dX2_readKeyword_6 : decode cX2_readKeyword 6 = .ok (.istore_n 2, 1) := by decide +kernel
theorem dX2_readKeyword_7 : decode cX2_readKeyword 7 = .ok (.iload_n 2, 1) := by decide +kernel
theorem dX2_readKeyword_8 : decode cX2_readKeyword 8 = .ok (.getstatic 68, 3) := by decide +kernel
theorem dX2_readKeyword_11 : decode cX2_readKeyword 11 = .ok (.arraylength, 1) := by decide +kernel
theorem dX2_readKeyword_12 : decode cX2_readKeyword 12 = .ok (.if_icmp .ge 55, 3) := by decide +kernel
theorem dX2_readKeyword_15 : decode cX2_readKeyword 15 = .ok (.getstatic 68, 3) := by decide +kernel
theorem dX2_readKeyword_18 : decode cX2_readKeyword 18 = .ok (.iload_n 2, 1) := by decide +kernel
theorem dX2_readKeyword_19 : decode cX2_readKeyword 19 = .ok (.aaload, 1) := by decide +kernel
theorem dX2_readKeyword_20 : decode cX2_readKeyword 20 = .ok (.astore_n 3, 1) := by decide +kernel
theorem dX2_readKeyword_21 : decode cX2_readKeyword 21 = .ok (.aload_n 0, 1) := by decide +kernel
theorem dX2_readKeyword_22 : decode cX2_readKeyword 22 = .ok (.aload_n 3, 1) := by decide +kernel
theorem dX2_readKeyword_23 : decode cX2_readKeyword 23 = .ok (.getfield 71, 3) := by decide +kernel
theorem dX2_readKeyword_26 : decode cX2_readKeyword 26 = .ok (.iload_n 1, 1) := by decide +kernel
theorem dX2_readKeyword_27 : decode cX2_readKeyword 27 = .ok (.invokevirtual 75, 3) := by decide +kernel
theorem dX2_readKeyword_30 : decode cX2_readKeyword 30 = .ok (.istore 4, 2) := by decide +kernel
theorem dX2_readKeyword_32 : decode cX2_readKeyword 32 = .ok (.aload_n 0, 1) := by decide +kernel
theorem dX2_readKeyword_33 : decode cX2_readKeyword 33 = .ok (.aload_n 0, 1) := by decide +kernel
theorem dX2_readKeyword_34 : decode cX2_readKeyword 34 = .ok (.getfield 35, 3) := by decide +kernel
theorem dX2_readKeyword_37 : decode cX2_readKeyword 37 = .ok (.iload_n 1, 1) := by decide +kernel
theorem dX2_readKeyword_38 : decode cX2_readKeyword 38 = .ok (.iload 4, 2) := by decide +kernel
theorem dX2_readKeyword_40 : decode cX2_readKeyword 40 = .ok (.iadd, 1) := by decide +kernel
theorem dX2_readKeyword_41 : decode cX2_readKeyword 41 = .ok (.invokestatic 79, 3) := by decide +kernel
theorem dX2_readKeyword_44 : decode cX2_readKeyword 44 = .ok (.putfield 35, 3) := by decide +kernel
theorem dX2_readKeyword_47 : decode cX2_readKeyword 47 = .ok (.iload 4, 2) := by decide +kernel
theorem dX2_readKeyword_49 : decode cX2_readKeyword 49 = .ok (.aload_n 3, 1) := by decide +kernel
theorem dX2_readKeyword_50 : decode cX2_readKeyword 50 = .ok (.getfield 71, 3) := by decide +kernel
theorem dX2_readKeyword_53 : decode cX2_readKeyword 53 = .ok (.invokevirtual 85, 3) := by decide +kernel
theorem dX2_readKeyword_56 : decode cX2_readKeyword 56 = .ok (.if_icmp .ne 5, 3) := by decide +kernel
theorem dX2_readKeyword_59 : decode cX2_readKeyword 59 = .ok (.aload_n 3, 1) := by decide +kernel
theorem dX2_readKeyword_60 : decode cX2_readKeyword 60 = .ok (.areturn, 1) := by decide +kernel
theorem dX2_readKeyword_61 : decode cX2_readKeyword 61 = .ok (.iinc 2 1, 3) := by decide +kernel
theorem dX2_readKeyword_64 : decode cX2_readKeyword 64 = .ok (.goto (-57), 3) := by decide +kernel
theorem dX2_readKeyword_67 : decode cX2_readKeyword 67 = .ok (.aconst_null, 1) := by decide +kernel
theorem dX2_readKeyword_68 : decode cX2_readKeyword 68 = .ok (.areturn, 1) := by decide +kernel
set_option maxRecDepth 20000 in
theorem ggX2_countMatched_J0_length_8abf5 : GoodIn wsX2_countMatched wsJ0_length_8abf5 := goodIn_r _ [7, 8, 9, 10, 11, 6, 12, 13, 14, 59, 60, 61, 62] (by decide +kernel) (by decide +kernel)
set_option maxRecDepth 20000 in
theorem gX2_countMatched_J0_length_8abf5 : GoodIn wsX2_countMatched (wsV RX2 85 RJ0 yJ0_length_8abf5 wsJ0_length_8abf5) := goodIn_app (goodIn_of _ (by decide +kernel)) ggX2_countMatched_J0_length_8abf5
set_option maxRecDepth 20000 in
theorem ggX2_countMatched_J0_charAt_5068e : GoodIn wsX2_countMatched wsJ0_charAt_5068e := goodIn_r _ [18, 8, 19, 20, 21, 6, 22, 13, 14, 23, 24, 25, 26, 27, 28, 29, 30, 31, 32, 33, 34, 35, 36, 37, 38, 39, 40, 41, 42, 43, 44, 45, 46, 47, 48, 49, 50, 51, 59, 60, 61, 62] (by decide +kernel) (by decide +kernel)
set_option maxRecDepth 20000 in
theorem gX2_countMatched_J0_charAt_5068e : GoodIn wsX2_countMatched (wsV RX2 90 RJ0 yJ0_charAt_5068e wsJ0_charAt_5068e) := goodIn_app (goodIn_of _ (by decide +kernel)) ggX2_countMatched_J0_charAt_5068e
theorem dX2_countMatched_0 : decode cX2_countMatched 0 = .ok (.iconst 0, 1) := by decide +kernel
theorem dX2_countMatched_1 : decode cX2_countMatched 1 = .ok (.istore_n 3, 1) := by decide +kernel
theorem dX2_countMatched_2 : decode cX2_countMatched 2 = .ok (.iconst 0, 1) := by decide +kernel
theorem dX2_countMatched_3 : decode cX2_countMatched 3 = .ok (.istore 4, 2) := by decide +kernel
theorem dX2_countMatched_5 : decode cX2_countMatched 5 = .ok (.iload 4, 2) := by decide +kernel
theorem dX2_countMatched_7 : decode cX2_countMatched 7 = .ok (.aload_n 1, 1) := by decide +kernel
theorem dX2_countMatched_8 : decode cX2_countMatched 8 = .ok (.invokevirtual 85, 3) := by decide +kernel
theorem dX2_countMatched_11 : decode cX2_countMatched 11 = .ok (.if_icmp .ge 45, 3) := by decide +kernel
theorem dX2_countMatched_14 : decode cX2_countMatched 14 = .ok (.iload_n 2, 1) := by decide +kernel
theorem dX2_countMatched_15 : decode cX2_countMatched 15 = .ok (.iload 4, 2) := by decide +kernel
theorem dX2_countMatched_17 : decode cX2_countMatched 17 = .ok (.iadd, 1) := by decide +kernel
theorem dX2_countMatched_18 : decode cX2_countMatched 18 = .ok (.istore 5, 2) := by decide +kernel
theorem dX2_countMatched_20 : decode cX2_countMatched 20 = .ok (.iload 5, 2) := by decide +kernel
theorem dX2_countMatched_22 : decode cX2_countMatched 22 = .ok (.aload_n 0, 1) := by decide +kernel
theorem dX2_countMatched_23 : decode cX2_countMatched 23 = .ok (.getfield 15, 3) := by decide +kernel
theorem dX2_countMatched_26 : decode cX2_countMatched 26 = .ok (.if_icmp .ge 19, 3) := by decide +kernel
theorem dX2_countMatched_29 : decode cX2_countMatched 29 = .ok (.aload_n 0, 1) := by decide +kernel
theorem dX2_countMatched_30 : decode cX2_countMatched 30 = .ok (.getfield 9, 3) := by decide +kernel
theorem dX2_countMatched_33 : decode cX2_countMatched 33 = .ok (.iload 5, 2) := by decide +kernel
theorem dX2_countMatched_35 : decode cX2_countMatched 35 = .ok (.caload, 1) := by decide +kernel
theorem dX2_countMatched_36 : decode cX2_countMatched 36 = .ok (.aload_n 1, 1) := by decide +kernel
theorem dX2_countMatched_37 : decode cX2_countMatched 37 = .ok (.iload 4, 2) := by decide +kernel
theorem dX2_countMatched_39 : decode cX2_countMatched 39 = .ok (.invokevirtual 90, 3) := by decide +kernel
theorem dX2_countMatched_42 : decode cX2_countMatched 42 = .ok (.if_icmp .eq 5, 3) := by decide +kernel
theorem dX2_countMatched_45 : decode cX2_countMatched 45 = .ok (.iload_n 3, 1) := by decide +kernel
theorem dX2_countMatched_46 : decode cX2_countMatched 46 = .ok (.ireturn, 1) := by decide +kernel
theorem dX2_countMatched_47 : decode cX2_countMatched 47 = .ok (.iinc 3 1, 3) := by decide +kernel
theorem dX2_countMatched_50 : decode cX2_countMatched 50 = .ok (.iinc 4 1, 3) := by decide +kernel
theorem dX2_countMatched_53 : decode cX2_countMatched 53 = .ok (.goto (-48), 3) := by decide +kernel
theorem dX2_countMatched_56 : decode cX2_countMatched 56 = .ok (.iload_n 3, 1) := by decide +kernel
theorem dX2_countMatched_57 : decode cX2_countMatched 57 = .ok (.ireturn, 1) := by decide +kernel
set_option maxRecDepth 20000 in
theorem ggX2_readNumber_X2_standsOnDigit : GoodIn wsX2_readNumber wsX2_standsOnDigit := goodIn_ca (goodIn_r _ [7, 2, 8, 1, 9, 10, 11, 12, 13, 14, 15] (by decide +kernel) (by decide +kernel)) (goodIn_sub (fun _ h => List.mem_cons_of_mem _ (List.mem_append_right _ h)) (by decide +kernel))
set_option maxRecDepth 20000 in
theorem gX2_readNumber_X2_standsOnDigit : GoodIn wsX2_readNumber (wsV RX2 94 RX2 yX2_standsOnDigit wsX2_standsOnDigit) := goodIn_app (goodIn_of _ (by decide +kernel)) ggX2_readNumber_X2_standsOnDigit
theorem dX2_readNumber_0 : decode cX2_readNumber 0 = .ok (.iconst (-1), 1) := by decide +kernel
theorem dX2_readNumber_1 : decode cX2_readNumber 1 = .ok (.istore_n 2, 1) := by decide +kernel
theorem dX2_readNumber_2 : decode cX2_readNumber 2 = .ok (.iconst 0, 1) := by decide +kernel
theorem dX2_readNumber_3 : decode cX2_readNumber 3 = .ok (.istore_n 3, 1) := by decide +kernel
theorem dX2_readNumber_4 : decode cX2_readNumber 4 = .ok (.iload_n 3, 1) := by decide +kernel
theorem dX2_readNumber_5 : decode cX2_readNumber 5 = .ok (.iload_n 1, 1) := by decide +kernel
theorem dX2_readNumber_6 : decode cX2_readNumber 6 = .ok (.if_icmp .ge 52, 3) := by decide +kernel
theorem dX2_readNumber_9 : decode cX2_readNumber 9 = .ok (.aload_n 0, 1) := by decide +kernel
theorem dX2_readNumber_10 : decode cX2_readNumber 10 = .ok (.invokevirtual 94, 3) := by decide +kernel
theorem dX2_readNumber_13 : decode cX2_readNumber 13 = .ok (.ifCond .eq 45, 3) := by decide +kernel
theorem dX2_readNumber_16 : decode cX2_readNumber 16 = .ok (.iload_n 3, 1) := by decide +kernel
theorem dX2_readNumber_17 : decode cX2_readNumber 17 = .ok (.ifCond .ne 7, 3) := by decide +kernel
theorem dX2_readNumber_20 : decode cX2_readNumber 20 = .ok (.iconst 0, 1) := by decide +kernel
theorem dX2_readNumber_21 : decode cX2_readNumber 21 = .ok (.goto 7, 3) := by decide +kernel
theorem dX2_readNumber_24 : decode cX2_readNumber 24 = .ok (.iload_n 2, 1) := by decide +kernel
theorem dX2_readNumber_25 : decode cX2_readNumber 25 = .ok (.bipush 10, 2) := by decide +kernel
theorem dX2_readNumber_27 : decode cX2_readNumber 27 = .ok (.imul, 1) := by decide +kernel
theorem dX2_readNumber_28 : decode cX2_readNumber 28 = .ok (.aload_n 0, 1) := by decide +kernel
theorem dX2_readNumber_29 : decode cX2_readNumber 29 = .ok (.getfield 9, 3) := by decide +kernel
theorem dX2_readNumber_32 : decode cX2_readNumber 32 = .ok (.aload_n 0, 1) := by decide +kernel
theorem dX2_readNumber_33 : decode cX2_readNumber 33 = .ok (.getfield 35, 3) := by decide +kernel
theorem dX2_readNumber_36 : decode cX2_readNumber 36 = .ok (.caload, 1) := by decide +kernel
theorem dX2_readNumber_37 : decode cX2_readNumber 37 = .ok (.bipush 48, 2) := by decide +kernel
theorem dX2_readNumber_39 : decode cX2_readNumber 39 = .ok (.isub, 1) := by decide +kernel
theorem dX2_readNumber_40 : decode cX2_readNumber 40 = .ok (.iadd, 1) := by decide +kernel
theorem dX2_readNumber_41 : decode cX2_readNumber 41 = .ok (.istore_n 2, 1) := by decide +kernel
theorem dX2_readNumber_42 : decode cX2_readNumber 42 = .ok (.aload_n 0, 1) := by decide +kernel
theorem dX2_readNumber_43 : decode cX2_readNumber 43 = .ok (.dup, 1) := by decide +kernel
theorem dX2_readNumber_44 : decode cX2_readNumber 44 = .ok (.getfield 35, 3) := by decide +kernel
theorem dX2_readNumber_47 : decode cX2_readNumber 47 = .ok (.iconst 1, 1) := by decide +kernel
theorem dX2_readNumber_48 : decode cX2_readNumber 48 = .ok (.iadd, 1) := by decide +kernel
theorem dX2_readNumber_49 : decode cX2_readNumber 49 = .ok (.putfield 35, 3) := by decide +kernel
theorem dX2_readNumber_52 : decode cX2_readNumber 52 = .ok (.iinc 3 1, 3) := by decide +kernel
theorem dX2_readNumber_55 : decode cX2_readNumber 55 = .ok (.goto (-51), 3) := by decide +kernel
theorem dX2_readNumber_58 : decode cX2_readNumber 58 = .ok (.iload_n 2, 1) := by decide +kernel
theorem dX2_readNumber_59 : decode cX2_readNumber 59 = .ok (.ireturn, 1) := by decide +kernel
theorem dX2_standsOnDigit_0 : decode cX2_standsOnDigit 0 = .ok (.aload_n 0, 1) := by decide +kernel
theorem dX2_standsOnDigit_1 : decode cX2_standsOnDigit 1 = .ok (.getfield 35, 3) := by decide +kernel
theorem dX2_standsOnDigit_4 : decode cX2_standsOnDigit 4 = .ok (.aload_n 0, 1) := by decide +kernel
theorem dX2_standsOnDigit_5 : decode cX2_standsOnDigit 5 = .ok (.getfield 15, 3) := by decide +kernel
theorem dX2_standsOnDigit_8 : decode cX2_standsOnDigit 8 = .ok (.if_icmp .ge 35, 3) := by decide +kernel
theorem dX2_standsOnDigit_11 : decode cX2_standsOnDigit 11 = .ok (.aload_n 0, 1) := by decide +kernel
theorem dX2_standsOnDigit_12 : decode cX2_standsOnDigit 12 = .ok (.getfield 9, 3) := by decide +kernel
theorem dX2_standsOnDigit_15 : decode cX2_standsOnDigit 15 = .ok (.aload_n 0, 1) := by decide +kernel
theorem dX2_standsOnDigit_16 : decode cX2_standsOnDigit 16 = .ok (.getfield 35, 3) := by decide +kernel
theorem dX2_standsOnDigit_19 : decode cX2_standsOnDigit 19 = .ok (.caload, 1) := by decide +kernel
theorem dX2_standsOnDigit_20 : decode cX2_standsOnDigit 20 = .ok (.bipush 48, 2) := by decide +kernel
theorem dX2_standsOnDigit_22 : decode cX2_standsOnDigit 22 = .ok (.if_icmp .lt 21, 3) := by decide +kernel
theorem dX2_standsOnDigit_25 : decode cX2_standsOnDigit 25 = .ok (.aload_n 0, 1) := by decide +kernel
theorem dX2_standsOnDigit_26 : decode cX2_standsOnDigit 26 = .ok (.getfield 9, 3) := by decide +kernel
theorem dX2_standsOnDigit_29 : decode cX2_standsOnDigit 29 = .ok (.aload_n 0, 1) := by decide +kernel
theorem dX2_standsOnDigit_30 : decode cX2_standsOnDigit 30 = .ok (.getfield 35, 3) := by decide +kernel
theorem dX2_standsOnDigit_33 : decode cX2_standsOnDigit 33 = .ok (.caload, 1) := by decide +kernel
theorem dX2_standsOnDigit_34 : decode cX2_standsOnDigit 34 = .ok (.bipush 57, 2) := by decide +kernel
theorem dX2_standsOnDigit_36 : decode cX2_standsOnDigit 36 = .ok (.if_icmp .gt 7, 3) := by decide +kernel
theorem dX2_standsOnDigit_39 : decode cX2_standsOnDigit 39 = .ok (.iconst 1, 1) := by decide +kernel
theorem dX2_standsOnDigit_40 : decode cX2_standsOnDigit 40 = .ok (.goto 4, 3) := by decide +kernel
theorem dX2_standsOnDigit_43 : decode cX2_standsOnDigit 43 = .ok (.iconst 0, 1) := by decide +kernel
theorem dX2_standsOnDigit_44 : decode cX2_standsOnDigit 44 = .ok (.ireturn, 1) := by decide +kernel
theorem dX2_readSign_0 : decode cX2_readSign 0 = .ok (.aload_n 0, 1) := by decide +kernel
theorem dX2_readSign_1 : decode cX2_readSign 1 = .ok (.getfield 35, 3) := by decide +kernel
theorem dX2_readSign_4 : decode cX2_readSign 4 = .ok (.aload_n 0, 1) := by decide +kernel
theorem dX2_readSign_5 : decode cX2_readSign 5 = .ok (.getfield 15, 3) := by decide +kernel
theorem dX2_readSign_8 : decode cX2_readSign 8 = .ok (.if_icmp .ge 16, 3) := by decide +kernel
theorem dX2_readSign_11 : decode cX2_readSign 11 = .ok (.aload_n 0, 1) := by decide +kernel
theorem dX2_readSign_12 : decode cX2_readSign 12 = .ok (.getfield 9, 3) := by decide +kernel
theorem dX2_readSign_15 : decode cX2_readSign 15 = .ok (.aload_n 0, 1) := by decide +kernel
theorem dX2_readSign_16 : decode cX2_readSign 16 = .ok (.getfield 35, 3) := by decide +kernel
theorem dX2_readSign_19 : decode cX2_readSign 19 = .ok (.caload, 1) := by decide +kernel
theorem dX2_readSign_20 : decode cX2_readSign 20 = .ok (.iload_n 1, 1) := by decide +kernel
theorem dX2_readSign_21 : decode cX2_readSign 21 = .ok (.if_icmp .eq 5, 3) := by decide +kernel
theorem dX2_readSign_24 : decode cX2_readSign 24 = .ok (.iconst 0, 1) := by decide +kernel
theorem dX2_readSign_25 : decode cX2_readSign 25 = .ok (.ireturn, 1) := by decide +kernel
theorem dX2_readSign_26 : decode cX2_readSign 26 = .ok (.aload_n 0, 1) := by decide +kernel
theorem dX2_readSign_27 : decode cX2_readSign 27 = .ok (.dup, 1) := by decide +kernel
theorem dX2_readSign_28 : decode cX2_readSign 28 = .ok (.getfield 35, 3) := by decide +kernel
theorem dX2_readSign_31 : decode cX2_readSign 31 = .ok (.iconst 1, 1) := by decide +kernel
theorem dX2_readSign_32 : decode cX2_readSign 32 = .ok (.iadd, 1) := by decide +kernel
theorem dX2_readSign_33 : decode cX2_readSign 33 = .ok (.putfield 35, 3) := by decide +kernel
theorem dX2_readSign_36 : decode cX2_readSign 36 = .ok (.iconst 1, 1) := by decide +kernel
theorem dX2_readSign_37 : decode cX2_readSign 37 = .ok (.ireturn, 1) := by decide +kernel
theorem dX3_init_0 : decode cX3_init 0 = .ok (.aload_n 0, 1) := by decide +kernel
theorem dX3_init_1 : decode cX3_init 1 = .ok (.invokespecial 3, 3) := by decide +kernel
theorem dX3_init_4 : decode cX3_init 4 = .ok (.aload_n 0, 1) := by decide +kernel
theorem dX3_init_5 : decode cX3_init 5 = .ok (.bipush 8, 2) := by decide +kernel
theorem dX3_init_7 : decode cX3_init 7 = .ok (.newarray .int, 2) := by decide +kernel
theorem dX3_init_9 : decode cX3_init 9 = .ok (.putfield 9, 3) := by decide +kernel
theorem dX3_init_12 : decode cX3_init 12 = .ok (.aload_n 0, 1) := by decide +kernel
theorem dX3_init_13 : decode cX3_init 13 = .ok (.bipush 8, 2) := by decide +kernel
theorem dX3_init_15 : decode cX3_init 15 = .ok (.newarray .int, 2) := by decide +kernel
theorem dX3_init_17 : decode cX3_init 17 = .ok (.putfield 15, 3) := by decide +kernel
theorem dX3_init_20 : decode cX3_init 20 = .ok (.aload_n 0, 1) := by decide +kernel
theorem dX3_init_21 : decode cX3_init 21 = .ok (.bipush 8, 2) := by decide +kernel
theorem dX3_init_23 : decode cX3_init 23 = .ok (.newarray .int, 2) := by decide +kernel
theorem dX3_init_25 : decode cX3_init 25 = .ok (.putfield 18, 3) := by decide +kernel
theorem dX3_init_28 : decode cX3_init 28 = .ok (.aload_n 0, 1) := by decide +kernel
theorem dX3_init_29 : decode cX3_init 29 = .ok (.bipush 8, 2) := by decide +kernel
theorem dX3_init_31 : decode cX3_init 31 = .ok (.newarray .int, 2) := by decide +kernel
theorem dX3_init_33 : decode cX3_init 33 = .ok (.putfield 21, 3) := by decide +kernel
theorem dX3_init_36 : decode cX3_init 36 = .ok (.aload_n 0, 1) := by decide +kernel
theorem dX3_init_37 : decode cX3_init 37 = .ok (.bipush 8, 2) := by decide +kernel
theorem dX3_init_39 : decode cX3_init 39 = .ok (.newarray .long, 2) := by decide +kernel
theorem dX3_init_41 : decode cX3_init 41 = .ok (.putfield 24, 3) := by decide +kernel
theorem dX3_init_44 : decode cX3_init 44 = .ok (.aload_n 0, 1) := by decide +kernel
theorem dX3_init_45 : decode cX3_init 45 = .ok (.bipush 8, 2) := by decide +kernel
theorem dX3_init_47 : decode cX3_init 47 = .ok (.newarray .int, 2) := by decide +kernel
theorem dX3_init_49 : decode cX3_init 49 = .ok (.putfield 28, 3) := by decide +kernel
theorem dX3_init_52 : decode cX3_init 52 = .ok (.aload_n 0, 1) := by decide +kernel
theorem dX3_init_53 : decode cX3_init 53 = .ok (.bipush 8, 2) := by decide +kernel
theorem dX3_init_55 : decode cX3_init 55 = .ok (.newarray .int, 2) := by decide +kernel
theorem dX3_init_57 : decode cX3_init 57 = .ok (.putfield 31, 3) := by decide +kernel
theorem dX3_init_60 : decode cX3_init 60 = .ok (.aload_n 0, 1) := by decide +kernel
theorem dX3_init_61 : decode cX3_init 61 = .ok (.bipush 8, 2) := by decide +kernel
theorem dX3_init_63 : decode cX3_init 63 = .ok (.newarray .int, 2) := by decide +kernel
theorem dX3_init_65 : decode cX3_init 65 = .ok (.putfield 34, 3) := by decide +kernel
theorem dX3_init_68 : decode cX3_init 68 = .ok (.aload_n 0, 1) := by decide +kernel
theorem dX3_init_69 : decode cX3_init 69 = .ok (.iconst 0, 1) := by decide +kernel
theorem dX3_init_70 : decode cX3_init 70 = .ok (.putfield 37, 3) := by decide +kernel
theorem dX3_init_73 : decode cX3_init 73 = .ok (.aload_n 0, 1) := by decide +kernel
theorem dX3_init_74 : decode cX3_init 74 = .ok (.iconst 0, 1) := by decide +kernel
theorem dX3_init_75 : decode cX3_init 75 = .ok (.putfield 41, 3) := by decide +kernel
theorem dX3_init_78 : decode cX3_init 78 = .ok (.aload_n 0, 1) := by decide +kernel
theorem dX3_init_79 : decode cX3_init 79 = .ok (.iconst 0, 1) := by decide +kernel
theorem dX3_init_80 : decode cX3_init 80 = .ok (.putfield 44, 3) := by decide +kernel
theorem dX3_init_83 : decode cX3_init 83 = .ok (.aload_n 0, 1) := by decide +kernel
theorem dX3_init_84 : decode cX3_init 84 = .ok (.iconst 0, 1) := by decide +kernel
theorem dX3_init_85 : decode cX3_init 85 = .ok (.putfield 47, 3) := by decide +kernel
theorem dX3_init_88 : decode cX3_init 88 = .ok (.aload_n 0, 1) := by decide +kernel
theorem dX3_init_89 : decode cX3_init 89 = .ok (.iconst 0, 1) := by decide +kernel
theorem dX3_init_90 : decode cX3_init 90 = .ok (.putfield 50, 3) := by decide +kernel
theorem dX3_init_93 : decode cX3_init 93 = .ok (.aload_n 0, 1) := by decide +kernel
theorem dX3_init_94 : decode cX3_init 94 = .ok (.iconst 0, 1) := by decide +kernel
theorem dX3_init_95 : decode cX3_init 95 = .ok (.putfield 53, 3) := by decide +kernel
theorem dX3_init_98 : decode cX3_init 98 = .ok (.aload_n 0, 1) := by decide +kernel
theorem dX3_init_99 : decode cX3_init 99 = .ok (.iconst 0, 1) := by decide +kernel
theorem dX3_init_100 : decode cX3_init 100 = .ok (.putfield 56, 3) := by decide +kernel
theorem dX3_init_103 : decode cX3_init 103 = .ok (.iconst 0, 1) := by decide +kernel
theorem dX3_init_104 : decode cX3_init 104 = .ok (.istore_n 1, 1) := by decide +kernel
theorem dX3_init_105 : decode cX3_init 105 = .ok (.iload_n 1, 1) := by decide +kernel
theorem dX3_init_106 : decode cX3_init 106 = .ok (.bipush 8, 2) := by decide +kernel
theorem dX3_init_108 : decode cX3_init 108 = .ok (.if_icmp .ge 23, 3) := by decide +kernel
theorem dX3_init_111 : decode cX3_init 111 = .ok (.aload_n 0, 1) := by decide +kernel
theorem dX3_init_112 : decode cX3_init 112 = .ok (.getfield 18, 3) := by decide +kernel
theorem dX3_init_115 : decode cX3_init 115 = .ok (.iload_n 1, 1) := by decide +kernel
theorem dX3_init_116 : decode cX3_init 116 = .ok (.iconst (-1), 1) := by decide +kernel
theorem dX3_init_117 : decode cX3_init 117 = .ok (.iastore, 1) := by decide +kernel
theorem dX3_init_118 : decode cX3_init 118 = .ok (.aload_n 0, 1) := by decide +kernel
theorem dX3_init_119 : decode cX3_init 119 = .ok (.getfield 28, 3) := by decide +kernel
theorem dX3_init_122 : decode cX3_init 122 = .ok (.iload_n 1, 1) := by decide +kernel
theorem dX3_init_123 : decode cX3_init 123 = .ok (.iconst (-1), 1) := by decide +kernel
theorem dX3_init_124 : decode cX3_init 124 = .ok (.iastore, 1) := by decide +kernel
theorem dX3_init_125 : decode cX3_init 125 = .ok (.iinc 1 1, 3) := by decide +kernel
theorem dX3_init_128 : decode cX3_init 128 = .ok (.goto (-23), 3) := by decide +kernel
theorem dX3_init_131 : decode cX3_init 131 = .ok (.return_, 1) := by decide +kernel
theorem dX3_become_0 : decode cX3_become 0 = .ok (.aload_n 1, 1) := by decide +kernel
theorem dX3_become_1 : decode cX3_become 1 = .ok (.getfield 9, 3) := by decide +kernel
theorem dX3_become_4 : decode cX3_become 4 = .ok (.iconst 0, 1) := by decide +kernel
theorem dX3_become_5 : decode cX3_become 5 = .ok (.aload_n 0, 1) := by decide +kernel
theorem dX3_become_6 : decode cX3_become 6 = .ok (.getfield 9, 3) := by decide +kernel
theorem dX3_become_9 : decode cX3_become 9 = .ok (.iconst 0, 1) := by decide +kernel
theorem dX3_become_10 : decode cX3_become 10 = .ok (.bipush 8, 2) := by decide +kernel
theorem dX3_become_12 : decode cX3_become 12 = .ok (.invokestatic 59, 3) := by decide +kernel
theorem dX3_become_15 : decode cX3_become 15 = .ok (.aload_n 1, 1) := by decide +kernel
theorem dX3_become_16 : decode cX3_become 16 = .ok (.getfield 15, 3) := by decide +kernel
theorem dX3_become_19 : decode cX3_become 19 = .ok (.iconst 0, 1) := by decide +kernel
theorem dX3_become_20 : decode cX3_become 20 = .ok (.aload_n 0, 1) := by decide +kernel
theorem dX3_become_21 : decode cX3_become 21 = .ok (.getfield 15, 3) := by decide +kernel
theorem dX3_become_24 : decode cX3_become 24 = .ok (.iconst 0, 1) := by decide +kernel
theorem dX3_become_25 : decode cX3_become 25 = .ok (.bipush 8, 2) := by decide +kernel
theorem dX3_become_27 : decode cX3_become 27 = .ok (.invokestatic 59, 3) := by decide +kernel
theorem dX3_become_30 : decode cX3_become 30 = .ok (.aload_n 1, 1) := by decide +kernel
theorem dX3_become_31 : decode cX3_become 31 = .ok (.getfield 18, 3) := by decide +kernel
theorem dX3_become_34 : decode cX3_become 34 = .ok (.iconst 0, 1) := by decide +kernel
theorem dX3_become_35 : decode cX3_become 35 = .ok (.aload_n 0, 1) := by decide +kernel
theorem dX3_become_36 : decode cX3_become 36 = .ok (.getfield 18, 3) := by decide +kernel
theorem dX3_become_39 : decode cX3_become 39 = .ok (.iconst 0, 1) := by decide +kernel
theorem dX3_become_40 : decode cX3_become 40 = .ok (.bipush 8, 2) := by decide +kernel
theorem dX3_become_42 : decode cX3_become 42 = .ok (.invokestatic 59, 3) := by decide +kernel
theorem dX3_become_45 : decode cX3_become 45 = .ok (.aload_n 1, 1) := by decide +kernel
theorem dX3_become_46 : decode cX3_become 46 = .ok (.getfield 21, 3) := by decide +kernel
theorem dX3_become_49 : decode cX3_become 49 = .ok (.iconst 0, 1) := by decide +kernel
theorem dX3_become_50 : decode cX3_become 50 = .ok (.aload_n 0, 1) := by decide +kernel
theorem dX3_become_51 : decode cX3_become 51 = .ok (.getfield 21, 3) := by decide +kernel
theorem dX3_become_54 : decode cX3_become 54 = .ok (.iconst 0, 1) := by decide +kernel
theorem dX3_become_55 : decode cX3_become 55 = .ok (.bipush 8, 2) := by decide +kernel
theorem dX3_become_57 : decode cX3_become 57 = .ok (.invokestatic 59, 3) := by decide +kernel
theorem dX3_become_60 : decode cX3_become 60 = .ok (.aload_n 1, 1) := by decide +kernel
theorem dX3_become_61 : decode cX3_become 61 = .ok (.getfield 24, 3) := by decide +kernel
theorem dX3_become_64 : decode cX3_become 64 = .ok (.iconst 0, 1) := by decide +kernel
theorem dX3_become_65 : decode cX3_become 65 = .ok (.aload_n 0, 1) := by decide +kernel
theorem dX3_become_66 : decode cX3_become 66 = .ok (.getfield 24, 3) := by decide +kernel
theorem dX3_become_69 : decode cX3_become 69 = .ok (.iconst 0, 1) := by decide +kernel
theorem dX3_become_70 : decode cX3_become 70 = .ok (.bipush 8, 2) := by decide +kernel
theorem dX3_become_72 : decode cX3_become 72 = .ok (.invokestatic 59, 3) := by decide +kernel
theorem dX3_become_75 : decode cX3_become 75 = .ok (.aload_n 1, 1) := by decide +kernel
theorem dX3_become_76 : decode cX3_become 76 = .ok (.getfield 28, 3) := by decide +kernel
theorem dX3_become_79 : decode cX3_become 79 = .ok (.iconst 0, 1) := by decide +kernel
theorem dX3_become_80 : decode cX3_become 80 = .ok (.aload_n 0, 1) := by decide +kernel
theorem dX3_become_81 : decode cX3_become 81 = .ok (.getfield 28, 3) := by decide +kernel
theorem dX3_become_84 : decode cX3_become 84 = .ok (.iconst 0, 1) := by decide +kernel
theorem dX3_become_85 : decode cX3_become 85 = .ok (.bipush 8, 2) := by decide +kernel
theorem dX3_become_87 : decode cX3_become 87 = .ok (.invokestatic 59, 3) := by decide +kernel
theorem dX3_become_90 : decode cX3_become 90 = .ok (.aload_n 1, 1) := by decide +kernel
theorem dX3_become_91 : decode cX3_become 91 = .ok (.getfield 31, 3) := by decide +kernel
theorem dX3_become_94 : decode cX3_become 94 = .ok (.iconst 0, 1) := by decide +kernel
theorem dX3_become_95 : decode cX3_become 95 = .ok (.aload_n 0, 1) := by decide +kernel
theorem dX3_become_96 : decode cX3_become 96 = .ok (.getfield 31, 3) := by decide +kernel
theorem dX3_become_99 : decode cX3_become 99 = .ok (.iconst 0, 1) := by decide +kernel
theorem dX3_become_100 : decode cX3_become 100 = .ok (.bipush 8, 2) := by decide +kernel
theorem dX3_become_102 : decode cX3_become 102 = .ok (.invokestatic 59, 3) := by decide +kernel
theorem dX3_become_105 : decode cX3_become 105 = .ok (.aload_n 1, 1) := by decide +kernel
theorem dX3_become_106 : decode cX3_become 106 = .ok (.getfield 34, 3) := by decide +kernel
theorem dX3_become_109 : decode cX3_become 109 = .ok (.iconst 0, 1) := by decide +kernel
theorem dX3_become_110 : decode cX3_become 110 = .ok (.aload_n 0, 1) := by decide +kernel
theorem dX3_become_111 : decode cX3_become 111 = .ok (.getfield 34, 3) := by decide +kernel
theorem dX3_become_114 : decode cX3_become 114 = .ok (.iconst 0, 1) := by decide +kernel
theorem dX3_become_115 : decode cX3_become 115 = .ok (.bipush 8, 2) := by decide +kernel
theorem dX3_become_117 : decode cX3_become 117 = .ok (.invokestatic 59, 3) := by decide +kernel
theorem dX3_become_120 : decode cX3_become 120 = .ok (.aload_n 0, 1) := by decide +kernel
theorem dX3_become_121 : decode cX3_become 121 = .ok (.aload_n 1, 1) := by decide +kernel
theorem dX3_become_122 : decode cX3_become 122 = .ok (.getfield 37, 3) := by decide +kernel
theorem dX3_become_125 : decode cX3_become 125 = .ok (.putfield 37, 3) := by decide +kernel
theorem dX3_become_128 : decode cX3_become 128 = .ok (.aload_n 0, 1) := by decide +kernel
theorem dX3_become_129 : decode cX3_become 129 = .ok (.aload_n 1, 1) := by decide +kernel
theorem dX3_become_130 : decode cX3_become 130 = .ok (.getfield 41, 3) := by decide +kernel
theorem dX3_become_133 : decode cX3_become 133 = .ok (.putfield 41, 3) := by decide +kernel
theorem dX3_become_136 : decode cX3_become 136 = .ok (.aload_n 0, 1) := by decide +kernel
theorem dX3_become_137 : decode cX3_become 137 = .ok (.aload_n 1, 1) := by decide +kernel
theorem dX3_become_138 : decode cX3_become 138 = .ok (.getfield 44, 3) := by decide +kernel
theorem dX3_become_141 : decode cX3_become 141 = .ok (.putfield 44, 3) := by decide +kernel
theorem dX3_become_144 : decode cX3_become 144 = .ok (.aload_n 0, 1) := by decide +kernel
theorem dX3_become_145 : decode cX3_become 145 = .ok (.aload_n 1, 1) := by decide +kernel
theorem dX3_become_146 : decode cX3_become 146 = .ok (.getfield 47, 3) := by decide +kernel
theorem dX3_become_149 : decode cX3_become 149 = .ok (.putfield 47, 3) := by decide +kernel
theorem dX3_become_152 : decode cX3_become 152 = .ok (.aload_n 0, 1) := by decide +kernel
theorem dX3_become_153 : decode cX3_become 153 = .ok (.aload_n 1, 1) := by decide +kernel
theorem dX3_become_154 : decode cX3_become 154 = .ok (.getfield 50, 3) := by decide +kernel
theorem dX3_become_157 : decode cX3_become 157 = .ok (.putfield 50, 3) := by decide +kernel
theorem dX3_become_160 : decode cX3_become 160 = .ok (.aload_n 0, 1) := by decide +kernel
theorem dX3_become_161 : decode cX3_become 161 = .ok (.aload_n 1, 1) := by decide +kernel
theorem dX3_become_162 : decode cX3_become 162 = .ok (.getfield 53, 3) := by decide +kernel
theorem dX3_become_165 : decode cX3_become 165 = .ok (.putfield 53, 3) := by decide +kernel
theorem dX3_become_168 : decode cX3_become 168 = .ok (.aload_n 0, 1) := by decide +kernel
theorem dX3_become_169 : decode cX3_become 169 = .ok (.aload_n 1, 1) := by decide +kernel
theorem dX3_become_170 : decode cX3_become 170 = .ok (.getfield 56, 3) := by decide +kernel
theorem dX3_become_173 : decode cX3_become 173 = .ok (.putfield 56, 3) := by decide +kernel
theorem dX3_become_176 : decode cX3_become 176 = .ok (.return_, 1) := by decide +kernel
theorem dX3_hasGuest_0 : decode cX3_hasGuest 0 = .ok (.iload_n 1, 1) := by decide +kernel
theorem dX3_hasGuest_1 : decode cX3_hasGuest 1 = .ok (.ifCond .lt 15, 3) := by decide +kernel
theorem dX3_hasGuest_4 : decode cX3_hasGuest 4 = .ok (.iload_n 1, 1) := by decide +kernel
theorem dX3_hasGuest_5 : decode cX3_hasGuest 5 = .ok (.aload_n 0, 1) := by decide +kernel
theorem dX3_hasGuest_6 : decode cX3_hasGuest 6 = .ok (.getfield 41, 3) := by decide +kernel
theorem dX3_hasGuest_9 : decode cX3_hasGuest 9 = .ok (.if_icmp .ge 7, 3) := by decide +kernel
theorem dX3_hasGuest_12 : decode cX3_hasGuest 12 = .ok (.iconst 1, 1) := by decide +kernel
theorem dX3_hasGuest_13 : decode cX3_hasGuest 13 = .ok (.goto 4, 3) := by decide +kernel
theorem dX3_hasGuest_16 : decode cX3_hasGuest 16 = .ok (.iconst 0, 1) := by decide +kernel
theorem dX3_hasGuest_17 : decode cX3_hasGuest 17 = .ok (.ireturn, 1) := by decide +kernel
theorem dX3_hasChair_0 : decode cX3_hasChair 0 = .ok (.iload_n 0, 1) := by decide +kernel
theorem dX3_hasChair_1 : decode cX3_hasChair 1 = .ok (.ifCond .lt 13, 3) := by decide +kernel
theorem dX3_hasChair_4 : decode cX3_hasChair 4 = .ok (.iload_n 0, 1) := by decide +kernel
theorem dX3_hasChair_5 : decode cX3_hasChair 5 = .ok (.bipush 40, 2) := by decide +kernel
theorem dX3_hasChair_7 : decode cX3_hasChair 7 = .ok (.if_icmp .ge 7, 3) := by decide +kernel
theorem dX3_hasChair_10 : decode cX3_hasChair 10 = .ok (.iconst 1, 1) := by decide +kernel
theorem dX3_hasChair_11 : decode cX3_hasChair 11 = .ok (.goto 4, 3) := by decide +kernel
theorem dX3_hasChair_14 : decode cX3_hasChair 14 = .ok (.iconst 0, 1) := by decide +kernel
theorem dX3_hasChair_15 : decode cX3_hasChair 15 = .ok (.ireturn, 1) := by decide +kernel
theorem dX3_refusalOfGuest_0 : decode cX3_refusalOfGuest 0 = .ok (.iload_n 1, 1) := by decide +kernel
theorem dX3_refusalOfGuest_1 : decode cX3_refusalOfGuest 1 = .ok (.ifCond .lt 18, 3) := by decide +kernel
theorem dX3_refusalOfGuest_4 : decode cX3_refusalOfGuest 4 = .ok (.iload_n 1, 1) := by decide +kernel
theorem dX3_refusalOfGuest_5 : decode cX3_refusalOfGuest 5 = .ok (.bipush 9, 2) := by decide +kernel
theorem dX3_refusalOfGuest_7 : decode cX3_refusalOfGuest 7 = .ok (.if_icmp .gt 12, 3) := by decide +kernel
theorem dX3_refusalOfGuest_10 : decode cX3_refusalOfGuest 10 = .ok (.iload_n 2, 1) := by decide +kernel
theorem dX3_refusalOfGuest_11 : decode cX3_refusalOfGuest 11 = .ok (.ifCond .lt 8, 3) := by decide +kernel
theorem dX3_refusalOfGuest_14 : decode cX3_refusalOfGuest 14 = .ok (.iload_n 2, 1) := by decide +kernel
theorem dX3_refusalOfGuest_15 : decode cX3_refusalOfGuest 15 = .ok (.iconst 2, 1) := by decide +kernel
theorem dX3_refusalOfGuest_16 : decode cX3_refusalOfGuest 16 = .ok (.if_icmp .le 5, 3) := by decide +kernel
theorem dX3_refusalOfGuest_19 : decode cX3_refusalOfGuest 19 = .ok (.iconst 1, 1) := by decide +kernel
theorem dX3_refusalOfGuest_20 : decode cX3_refusalOfGuest 20 = .ok (.ireturn, 1) := by decide +kernel
theorem dX3_refusalOfGuest_21 : decode cX3_refusalOfGuest 21 = .ok (.aload_n 0, 1) := by decide +kernel
theorem dX3_refusalOfGuest_22 : decode cX3_refusalOfGuest 22 = .ok (.getfield 41, 3) := by decide +kernel
theorem dX3_refusalOfGuest_25 : decode cX3_refusalOfGuest 25 = .ok (.bipush 8, 2) := by decide +kernel
theorem dX3_refusalOfGuest_27 : decode cX3_refusalOfGuest 27 = .ok (.if_icmp .lt 7, 3) := by decide +kernel
theorem dX3_refusalOfGuest_30 : decode cX3_refusalOfGuest 30 = .ok (.iconst 2, 1) := by decide +kernel
theorem dX3_refusalOfGuest_31 : decode cX3_refusalOfGuest 31 = .ok (.goto 4, 3) := by decide +kernel
theorem dX3_refusalOfGuest_34 : decode cX3_refusalOfGuest 34 = .ok (.iconst 0, 1) := by decide +kernel
theorem dX3_refusalOfGuest_35 : decode cX3_refusalOfGuest 35 = .ok (.ireturn, 1) := by decide +kernel
set_option maxRecDepth 20000 in
theorem ggX3_refusalOfFeather_X3_hasGuest : GoodIn wsX3_refusalOfFeather wsX3_hasGuest := goodIn_r _ [6, 7, 8, 9, 10, 11, 12, 13, 14, 15, 16, 17, 18, 19, 20, 21, 22] (by decide +kernel) (by decide +kernel)
set_option maxRecDepth 20000 in
theorem gX3_refusalOfFeather_X3_hasGuest : GoodIn wsX3_refusalOfFeather (wsV RX3 65 RX3 yX3_hasGuest wsX3_hasGuest) := goodIn_app (goodIn_of _ (by decide +kernel)) ggX3_refusalOfFeather_X3_hasGuest
theorem dX3_refusalOfFeather_0 : decode cX3_refusalOfFeather 0 = .ok (.aload_n 0, 1) := by decide +kernel
theorem dX3_refusalOfFeather_1 : decode cX3_refusalOfFeather 1 = .ok (.iload_n 1, 1) := by decide +kernel
theorem dX3_refusalOfFeather_2 : decode cX3_refusalOfFeather 2 = .ok (.invokevirtual 65, 3) := by decide +kernel
theorem dX3_refusalOfFeather_5 : decode cX3_refusalOfFeather 5 = .ok (.ifCond .ne 5, 3) := by decide +kernel
theorem dX3_refusalOfFeather_8 : decode cX3_refusalOfFeather 8 = .ok (.iconst 1, 1) := by decide +kernel
theorem dX3_refusalOfFeather_9 : decode cX3_refusalOfFeather 9 = .ok (.ireturn, 1) := by decide +kernel
theorem dX3_refusalOfFeather_10 : decode cX3_refusalOfFeather 10 = .ok (.aload_n 0, 1) := by decide +kernel
theorem dX3_refusalOfFeather_11 : decode cX3_refusalOfFeather 11 = .ok (.getfield 9, 3) := by decide +kernel
theorem dX3_refusalOfFeather_14 : decode cX3_refusalOfFeather 14 = .ok (.iload_n 1, 1) := by decide +kernel
theorem dX3_refusalOfFeather_15 : decode cX3_refusalOfFeather 15 = .ok (.iaload, 1) := by decide +kernel
theorem dX3_refusalOfFeather_16 : decode cX3_refusalOfFeather 16 = .ok (.bipush 9, 2) := by decide +kernel
theorem dX3_refusalOfFeather_18 : decode cX3_refusalOfFeather 18 = .ok (.if_icmp .lt 7, 3) := by decide +kernel
theorem dX3_refusalOfFeather_21 : decode cX3_refusalOfFeather 21 = .ok (.iconst 2, 1) := by decide +kernel
theorem dX3_refusalOfFeather_22 : decode cX3_refusalOfFeather 22 = .ok (.goto 4, 3) := by decide +kernel
theorem dX3_refusalOfFeather_25 : decode cX3_refusalOfFeather 25 = .ok (.iconst 0, 1) := by decide +kernel
theorem dX3_refusalOfFeather_26 : decode cX3_refusalOfFeather 26 = .ok (.ireturn, 1) := by decide +kernel
set_option maxRecDepth 20000 in
theorem ggX3_refusalOfHat_X3_hasGuest : GoodIn wsX3_refusalOfHat wsX3_hasGuest := goodIn_r _ [5, 6, 20, 21, 22, 23, 24, 25, 26, 27, 28, 29, 30, 31, 32, 33, 34] (by decide +kernel) (by decide +kernel)
set_option maxRecDepth 20000 in
theorem gX3_refusalOfHat_X3_hasGuest : GoodIn wsX3_refusalOfHat (wsV RX3 65 RX3 yX3_hasGuest wsX3_hasGuest) := goodIn_app (goodIn_of _ (by decide +kernel)) ggX3_refusalOfHat_X3_hasGuest
set_option maxRecDepth 20000 in
theorem ggX3_refusalOfHat_X3_hasChair : GoodIn wsX3_refusalOfHat wsX3_hasChair := goodIn_r _ [9] (by decide +kernel) (by decide +kernel)
set_option maxRecDepth 20000 in
theorem gX3_refusalOfHat_X3_hasChair : GoodIn wsX3_refusalOfHat (va_wsS RX3 69 yX3_hasChair wsX3_hasChair) := goodIn_app (goodIn_of _ (by decide +kernel)) ggX3_refusalOfHat_X3_hasChair
set_option maxRecDepth 20000 in
theorem ggX3_refusalOfHat_X3_hatIsPlaced : GoodIn wsX3_refusalOfHat wsX3_hatIsPlaced := goodIn_ca (goodIn_r _ [13, 14, 20, 21, 22, 23, 24, 25, 26, 27, 28, 29, 30, 31, 32, 33, 34] (by decide +kernel) (by decide +kernel)) (goodIn_sub (fun _ h => List.mem_cons_of_mem _ (List.mem_append_right _ h)) (by decide +kernel))
set_option maxRecDepth 20000 in
theorem gX3_refusalOfHat_X3_hatIsPlaced : GoodIn wsX3_refusalOfHat (wsV RX3 72 RX3 yX3_hatIsPlaced wsX3_hatIsPlaced) := goodIn_app (goodIn_of _ (by decide +kernel)) ggX3_refusalOfHat_X3_hatIsPlaced
set_option maxRecDepth 20000 in
theorem ggX3_refusalOfHat_X3_covererAt : GoodIn wsX3_refusalOfHat wsX3_covererAt := goodIn_ca (goodIn_r _ [18, 19, 20, 21, 22, 23, 24, 25, 26, 27, 28, 29, 30, 31, 32, 33, 34] (by decide +kernel) (by decide +kernel)) (goodIn_sub (fun _ h => List.mem_cons_of_mem _ (List.mem_append_right _ h)) (by decide +kernel))
set_option maxRecDepth 20000 in
theorem gX3_refusalOfHat_X3_covererAt : GoodIn wsX3_refusalOfHat (wsV RX3 75 RX3 yX3_covererAt wsX3_covererAt) := goodIn_app (goodIn_of _ (by decide +kernel)) ggX3_refusalOfHat_X3_covererAt
theorem dX3_refusalOfHat_0 : decode cX3_refusalOfHat 0 = .ok (.aload_n 0, 1) := by decide +kernel
theorem dX3_refusalOfHat_1 : decode cX3_refusalOfHat 1 = .ok (.iload_n 1, 1) := by decide +kernel
theorem dX3_refusalOfHat_2 : decode cX3_refusalOfHat 2 = .ok (.invokevirtual 65, 3) := by decide +kernel
theorem dX3_refusalOfHat_5 : decode cX3_refusalOfHat 5 = .ok (.ifCond .eq 10, 3) := by decide +kernel
theorem dX3_refusalOfHat_8 : decode cX3_refusalOfHat 8 = .ok (.iload_n 2, 1) := by decide +kernel
theorem dX3_refusalOfHat_9 : decode cX3_refusalOfHat 9 = .ok (.invokestatic 69, 3) := by decide +kernel
theorem dX3_refusalOfHat_12 : decode cX3_refusalOfHat 12 = .ok (.ifCond .ne 5, 3) := by decide +kernel
theorem dX3_refusalOfHat_15 : decode cX3_refusalOfHat 15 = .ok (.iconst 1, 1) := by decide +kernel
theorem dX3_refusalOfHat_16 : decode cX3_refusalOfHat 16 = .ok (.ireturn, 1) := by decide +kernel
theorem dX3_refusalOfHat_17 : decode cX3_refusalOfHat 17 = .ok (.aload_n 0, 1) := by decide +kernel
theorem dX3_refusalOfHat_18 : decode cX3_refusalOfHat 18 = .ok (.iload_n 1, 1) := by decide +kernel
theorem dX3_refusalOfHat_19 : decode cX3_refusalOfHat 19 = .ok (.invokevirtual 72, 3) := by decide +kernel
theorem dX3_refusalOfHat_22 : decode cX3_refusalOfHat 22 = .ok (.ifCond .eq 5, 3) := by decide +kernel
theorem dX3_refusalOfHat_25 : decode cX3_refusalOfHat 25 = .ok (.iconst 2, 1) := by decide +kernel
theorem dX3_refusalOfHat_26 : decode cX3_refusalOfHat 26 = .ok (.ireturn, 1) := by decide +kernel
theorem dX3_refusalOfHat_27 : decode cX3_refusalOfHat 27 = .ok (.aload_n 0, 1) := by decide +kernel
theorem dX3_refusalOfHat_28 : decode cX3_refusalOfHat 28 = .ok (.iload_n 2, 1) := by decide +kernel
theorem dX3_refusalOfHat_29 : decode cX3_refusalOfHat 29 = .ok (.invokevirtual 75, 3) := by decide +kernel
theorem dX3_refusalOfHat_32 : decode cX3_refusalOfHat 32 = .ok (.iconst (-1), 1) := by decide +kernel
theorem dX3_refusalOfHat_33 : decode cX3_refusalOfHat 33 = .ok (.if_icmp .eq 7, 3) := by decide +kernel
theorem dX3_refusalOfHat_36 : decode cX3_refusalOfHat 36 = .ok (.iconst 3, 1) := by decide +kernel
theorem dX3_refusalOfHat_37 : decode cX3_refusalOfHat 37 = .ok (.goto 4, 3) := by decide +kernel
theorem dX3_refusalOfHat_40 : decode cX3_refusalOfHat 40 = .ok (.iconst 0, 1) := by decide +kernel
theorem dX3_refusalOfHat_41 : decode cX3_refusalOfHat 41 = .ok (.ireturn, 1) := by decide +kernel
set_option maxRecDepth 20000 in
theorem ggX3_refusalWithoutHat_X3_hasGuest : GoodIn wsX3_refusalWithoutHat wsX3_hasGuest := goodIn_r _ [5, 6, 12, 13, 14, 15, 16, 17, 18, 19, 20, 21, 22, 23, 24, 25, 26] (by decide +kernel) (by decide +kernel)
set_option maxRecDepth 20000 in
theorem gX3_refusalWithoutHat_X3_hasGuest : GoodIn wsX3_refusalWithoutHat (wsV RX3 65 RX3 yX3_hasGuest wsX3_hasGuest) := goodIn_app (goodIn_of _ (by decide +kernel)) ggX3_refusalWithoutHat_X3_hasGuest
set_option maxRecDepth 20000 in
theorem ggX3_refusalWithoutHat_X3_hatIsPlaced : GoodIn wsX3_refusalWithoutHat wsX3_hatIsPlaced := goodIn_ca (goodIn_r _ [10, 11, 12, 13, 14, 15, 16, 17, 18, 19, 20, 21, 22, 23, 24, 25, 26] (by decide +kernel) (by decide +kernel)) (goodIn_sub (fun _ h => List.mem_cons_of_mem _ (List.mem_append_right _ h)) (by decide +kernel))
set_option maxRecDepth 20000 in
theorem gX3_refusalWithoutHat_X3_hatIsPlaced : GoodIn wsX3_refusalWithoutHat (wsV RX3 72 RX3 yX3_hatIsPlaced wsX3_hatIsPlaced) := goodIn_app (goodIn_of _ (by decide +kernel)) ggX3_refusalWithoutHat_X3_hatIsPlaced
theorem dX3_refusalWithoutHat_0 : decode cX3_refusalWithoutHat 0 = .ok (.aload_n 0, 1) := by decide +kernel
theorem dX3_refusalWithoutHat_1 : decode cX3_refusalWithoutHat 1 = .ok (.iload_n 1, 1) := by decide +kernel
theorem dX3_refusalWithoutHat_2 : decode cX3_refusalWithoutHat 2 = .ok (.invokevirtual 65, 3) := by decide +kernel
theorem dX3_refusalWithoutHat_5 : decode cX3_refusalWithoutHat 5 = .ok (.ifCond .ne 5, 3) := by decide +kernel
theorem dX3_refusalWithoutHat_8 : decode cX3_refusalWithoutHat 8 = .ok (.iconst 1, 1) := by decide +kernel
theorem dX3_refusalWithoutHat_9 : decode cX3_refusalWithoutHat 9 = .ok (.ireturn, 1) := by decide +kernel
theorem dX3_refusalWithoutHat_10 : decode cX3_refusalWithoutHat 10 = .ok (.aload_n 0, 1) := by decide +kernel
theorem dX3_refusalWithoutHat_11 : decode cX3_refusalWithoutHat 11 = .ok (.iload_n 1, 1) := by decide +kernel
theorem dX3_refusalWithoutHat_12 : decode cX3_refusalWithoutHat 12 = .ok (.invokevirtual 72, 3) := by decide +kernel
theorem dX3_refusalWithoutHat_15 : decode cX3_refusalWithoutHat 15 = .ok (.ifCond .eq 7, 3) := by decide +kernel
theorem dX3_refusalWithoutHat_18 : decode cX3_refusalWithoutHat 18 = .ok (.iconst 0, 1) := by decide +kernel
theorem dX3_refusalWithoutHat_19 : decode cX3_refusalWithoutHat 19 = .ok (.goto 4, 3) := by decide +kernel
theorem dX3_refusalWithoutHat_22 : decode cX3_refusalWithoutHat 22 = .ok (.iconst 2, 1) := by decide +kernel
theorem dX3_refusalWithoutHat_23 : decode cX3_refusalWithoutHat 23 = .ok (.ireturn, 1) := by decide +kernel
set_option maxRecDepth 20000 in
theorem ggX3_refusalOfCoat_X3_hasGuest : GoodIn wsX3_refusalOfCoat wsX3_hasGuest := goodIn_r _ [6, 7, 20, 21, 22, 23, 24, 25, 26, 27, 28, 29, 30, 31, 32, 33, 34] (by decide +kernel) (by decide +kernel)
set_option maxRecDepth 20000 in
theorem gX3_refusalOfCoat_X3_hasGuest : GoodIn wsX3_refusalOfCoat (wsV RX3 65 RX3 yX3_hasGuest wsX3_hasGuest) := goodIn_app (goodIn_of _ (by decide +kernel)) ggX3_refusalOfCoat_X3_hasGuest
set_option maxRecDepth 20000 in
theorem ggX3_refusalOfCoat_X3_hasChair : GoodIn wsX3_refusalOfCoat wsX3_hasChair := goodIn_r _ [10] (by decide +kernel) (by decide +kernel)
set_option maxRecDepth 20000 in
theorem gX3_refusalOfCoat_X3_hasChair : GoodIn wsX3_refusalOfCoat (va_wsS RX3 69 yX3_hasChair wsX3_hasChair) := goodIn_app (goodIn_of _ (by decide +kernel)) ggX3_refusalOfCoat_X3_hasChair
set_option maxRecDepth 20000 in
theorem ggX3_refusalOfCoat_X3_covererAt : GoodIn wsX3_refusalOfCoat wsX3_covererAt := goodIn_ca (goodIn_r _ [14, 15, 20, 21, 22, 23, 24, 25, 26, 27, 28, 29, 30, 31, 32, 33, 34] (by decide +kernel) (by decide +kernel)) (goodIn_sub (fun _ h => List.mem_cons_of_mem _ (List.mem_append_right _ h)) (by decide +kernel))
set_option maxRecDepth 20000 in
theorem gX3_refusalOfCoat_X3_covererAt : GoodIn wsX3_refusalOfCoat (wsV RX3 75 RX3 yX3_covererAt wsX3_covererAt) := goodIn_app (goodIn_of _ (by decide +kernel)) ggX3_refusalOfCoat_X3_covererAt
set_option maxRecDepth 20000 in
theorem ggX3_refusalOfCoat_X3_coatsOn : GoodIn wsX3_refusalOfCoat wsX3_coatsOn := goodIn_ca (goodIn_r _ [19, 1, 20, 21, 22, 23, 24, 25, 26, 27, 28, 29, 30, 31, 32, 33, 34] (by decide +kernel) (by decide +kernel)) (goodIn_sub (fun _ h => List.mem_cons_of_mem _ (List.mem_append_right _ h)) (by decide +kernel))
set_option maxRecDepth 20000 in
theorem gX3_refusalOfCoat_X3_coatsOn : GoodIn wsX3_refusalOfCoat (wsV RX3 79 RX3 yX3_coatsOn wsX3_coatsOn) := goodIn_app (goodIn_of _ (by decide +kernel)) ggX3_refusalOfCoat_X3_coatsOn
theorem dX3_refusalOfCoat_0 : decode cX3_refusalOfCoat 0 = .ok (.aload_n 0, 1) := by decide +kernel
theorem dX3_refusalOfCoat_1 : decode cX3_refusalOfCoat 1 = .ok (.iload_n 1, 1) := by decide +kernel
theorem dX3_refusalOfCoat_2 : decode cX3_refusalOfCoat 2 = .ok (.invokevirtual 65, 3) := by decide +kernel
theorem dX3_refusalOfCoat_5 : decode cX3_refusalOfCoat 5 = .ok (.ifCond .eq 10, 3) := by decide +kernel
theorem dX3_refusalOfCoat_8 : decode cX3_refusalOfCoat 8 = .ok (.iload_n 2, 1) := by decide +kernel
theorem dX3_refusalOfCoat_9 : decode cX3_refusalOfCoat 9 = .ok (.invokestatic 69, 3) := by decide +kernel
theorem dX3_refusalOfCoat_12 : decode cX3_refusalOfCoat 12 = .ok (.ifCond .ne 5, 3) := by decide +kernel
theorem dX3_refusalOfCoat_15 : decode cX3_refusalOfCoat 15 = .ok (.iconst 1, 1) := by decide +kernel
theorem dX3_refusalOfCoat_16 : decode cX3_refusalOfCoat 16 = .ok (.ireturn, 1) := by decide +kernel
theorem dX3_refusalOfCoat_17 : decode cX3_refusalOfCoat 17 = .ok (.aload_n 0, 1) := by decide +kernel
theorem dX3_refusalOfCoat_18 : decode cX3_refusalOfCoat 18 = .ok (.getfield 28, 3) := by decide +kernel
theorem dX3_refusalOfCoat_21 : decode cX3_refusalOfCoat 21 = .ok (.iload_n 1, 1) := by decide +kernel
theorem dX3_refusalOfCoat_22 : decode cX3_refusalOfCoat 22 = .ok (.iaload, 1) := by decide +kernel
theorem dX3_refusalOfCoat_23 : decode cX3_refusalOfCoat 23 = .ok (.iconst (-1), 1) := by decide +kernel
theorem dX3_refusalOfCoat_24 : decode cX3_refusalOfCoat 24 = .ok (.if_icmp .eq 5, 3) := by decide +kernel
theorem dX3_refusalOfCoat_27 : decode cX3_refusalOfCoat 27 = .ok (.iconst 2, 1) := by decide +kernel
theorem dX3_refusalOfCoat_28 : decode cX3_refusalOfCoat 28 = .ok (.ireturn, 1) := by decide +kernel
theorem dX3_refusalOfCoat_29 : decode cX3_refusalOfCoat 29 = .ok (.aload_n 0, 1) := by decide +kernel
theorem dX3_refusalOfCoat_30 : decode cX3_refusalOfCoat 30 = .ok (.iload_n 2, 1) := by decide +kernel
theorem dX3_refusalOfCoat_31 : decode cX3_refusalOfCoat 31 = .ok (.invokevirtual 75, 3) := by decide +kernel
theorem dX3_refusalOfCoat_34 : decode cX3_refusalOfCoat 34 = .ok (.istore_n 3, 1) := by decide +kernel
theorem dX3_refusalOfCoat_35 : decode cX3_refusalOfCoat 35 = .ok (.iload_n 3, 1) := by decide +kernel
theorem dX3_refusalOfCoat_36 : decode cX3_refusalOfCoat 36 = .ok (.iconst (-1), 1) := by decide +kernel
theorem dX3_refusalOfCoat_37 : decode cX3_refusalOfCoat 37 = .ok (.if_icmp .eq 12, 3) := by decide +kernel
theorem dX3_refusalOfCoat_40 : decode cX3_refusalOfCoat 40 = .ok (.iload_n 3, 1) := by decide +kernel
theorem dX3_refusalOfCoat_41 : decode cX3_refusalOfCoat 41 = .ok (.iload_n 1, 1) := by decide +kernel
theorem dX3_refusalOfCoat_42 : decode cX3_refusalOfCoat 42 = .ok (.if_icmp .eq 7, 3) := by decide +kernel
theorem dX3_refusalOfCoat_45 : decode cX3_refusalOfCoat 45 = .ok (.iconst 1, 1) := by decide +kernel
theorem dX3_refusalOfCoat_46 : decode cX3_refusalOfCoat 46 = .ok (.goto 4, 3) := by decide +kernel
theorem dX3_refusalOfCoat_49 : decode cX3_refusalOfCoat 49 = .ok (.iconst 0, 1) := by decide +kernel
theorem dX3_refusalOfCoat_50 : decode cX3_refusalOfCoat 50 = .ok (.istore 4, 2) := by decide +kernel
theorem dX3_refusalOfCoat_52 : decode cX3_refusalOfCoat 52 = .ok (.iload 4, 2) := by decide +kernel
theorem dX3_refusalOfCoat_54 : decode cX3_refusalOfCoat 54 = .ok (.ifCond .eq 16, 3) := by decide +kernel
theorem dX3_refusalOfCoat_57 : decode cX3_refusalOfCoat 57 = .ok (.aload_n 0, 1) := by decide +kernel
theorem dX3_refusalOfCoat_58 : decode cX3_refusalOfCoat 58 = .ok (.iload_n 2, 1) := by decide +kernel
theorem dX3_refusalOfCoat_59 : decode cX3_refusalOfCoat 59 = .ok (.invokevirtual 79, 3) := by decide +kernel
theorem dX3_refusalOfCoat_62 : decode cX3_refusalOfCoat 62 = .ok (.iconst 3, 1) := by decide +kernel
theorem dX3_refusalOfCoat_63 : decode cX3_refusalOfCoat 63 = .ok (.if_icmp .ge 7, 3) := by decide +kernel
theorem dX3_refusalOfCoat_66 : decode cX3_refusalOfCoat 66 = .ok (.iconst 0, 1) := by decide +kernel
theorem dX3_refusalOfCoat_67 : decode cX3_refusalOfCoat 67 = .ok (.goto 4, 3) := by decide +kernel
theorem dX3_refusalOfCoat_70 : decode cX3_refusalOfCoat 70 = .ok (.iconst 3, 1) := by decide +kernel
theorem dX3_refusalOfCoat_71 : decode cX3_refusalOfCoat 71 = .ok (.ireturn, 1) := by decide +kernel
set_option maxRecDepth 20000 in
theorem ggX3_refusalWithoutCoat_X3_hasGuest : GoodIn wsX3_refusalWithoutCoat wsX3_hasGuest := goodIn_r _ [6, 7, 8, 9, 10, 11, 12, 13, 14, 15, 16, 17, 18, 19, 20, 21, 22] (by decide +kernel) (by decide +kernel)
set_option maxRecDepth 20000 in
theorem gX3_refusalWithoutCoat_X3_hasGuest : GoodIn wsX3_refusalWithoutCoat (wsV RX3 65 RX3 yX3_hasGuest wsX3_hasGuest) := goodIn_app (goodIn_of _ (by decide +kernel)) ggX3_refusalWithoutCoat_X3_hasGuest
theorem dX3_refusalWithoutCoat_0 : decode cX3_refusalWithoutCoat 0 = .ok (.aload_n 0, 1) := by decide +kernel
theorem dX3_refusalWithoutCoat_1 : decode cX3_refusalWithoutCoat 1 = .ok (.iload_n 1, 1) := by decide +kernel
theorem dX3_refusalWithoutCoat_2 : decode cX3_refusalWithoutCoat 2 = .ok (.invokevirtual 65, 3) := by decide +kernel
theorem dX3_refusalWithoutCoat_5 : decode cX3_refusalWithoutCoat 5 = .ok (.ifCond .ne 5, 3) := by decide +kernel
theorem dX3_refusalWithoutCoat_8 : decode cX3_refusalWithoutCoat 8 = .ok (.iconst 1, 1) := by decide +kernel
theorem dX3_refusalWithoutCoat_9 : decode cX3_refusalWithoutCoat 9 = .ok (.ireturn, 1) := by decide +kernel
theorem dX3_refusalWithoutCoat_10 : decode cX3_refusalWithoutCoat 10 = .ok (.aload_n 0, 1) := by decide +kernel
theorem dX3_refusalWithoutCoat_11 : decode cX3_refusalWithoutCoat 11 = .ok (.getfield 28, 3) := by decide +kernel
theorem dX3_refusalWithoutCoat_14 : decode cX3_refusalWithoutCoat 14 = .ok (.iload_n 1, 1) := by decide +kernel
theorem dX3_refusalWithoutCoat_15 : decode cX3_refusalWithoutCoat 15 = .ok (.iaload, 1) := by decide +kernel
theorem dX3_refusalWithoutCoat_16 : decode cX3_refusalWithoutCoat 16 = .ok (.iconst (-1), 1) := by decide +kernel
theorem dX3_refusalWithoutCoat_17 : decode cX3_refusalWithoutCoat 17 = .ok (.if_icmp .ne 7, 3) := by decide +kernel
theorem dX3_refusalWithoutCoat_20 : decode cX3_refusalWithoutCoat 20 = .ok (.iconst 2, 1) := by decide +kernel
theorem dX3_refusalWithoutCoat_21 : decode cX3_refusalWithoutCoat 21 = .ok (.goto 4, 3) := by decide +kernel
theorem dX3_refusalWithoutCoat_24 : decode cX3_refusalWithoutCoat 24 = .ok (.iconst 0, 1) := by decide +kernel
theorem dX3_refusalWithoutCoat_25 : decode cX3_refusalWithoutCoat 25 = .ok (.ireturn, 1) := by decide +kernel
set_option maxRecDepth 20000 in
theorem ggX3_refusalOfContest_X3_hasGuest : GoodIn wsX3_refusalOfContest wsX3_hasGuest := goodIn_r _ [5, 6, 20, 21, 22, 23, 24, 25, 26, 27, 28, 29, 30, 31, 32, 33, 34] (by decide +kernel) (by decide +kernel)
set_option maxRecDepth 20000 in
theorem gX3_refusalOfContest_X3_hasGuest : GoodIn wsX3_refusalOfContest (wsV RX3 65 RX3 yX3_hasGuest wsX3_hasGuest) := goodIn_app (goodIn_of _ (by decide +kernel)) ggX3_refusalOfContest_X3_hasGuest
set_option maxRecDepth 20000 in
theorem ggX3_refusalOfContest_X3_hasChair : GoodIn wsX3_refusalOfContest wsX3_hasChair := goodIn_r _ [9] (by decide +kernel) (by decide +kernel)
set_option maxRecDepth 20000 in
theorem gX3_refusalOfContest_X3_hasChair : GoodIn wsX3_refusalOfContest (va_wsS RX3 69 yX3_hasChair wsX3_hasChair) := goodIn_app (goodIn_of _ (by decide +kernel)) ggX3_refusalOfContest_X3_hasChair
set_option maxRecDepth 20000 in
theorem ggX3_refusalOfContest_X3_covererAt : GoodIn wsX3_refusalOfContest wsX3_covererAt := goodIn_ca (goodIn_r _ [13, 14, 20, 21, 22, 23, 24, 25, 26, 27, 28, 29, 30, 31, 32, 33, 34] (by decide +kernel) (by decide +kernel)) (goodIn_sub (fun _ h => List.mem_cons_of_mem _ (List.mem_append_right _ h)) (by decide +kernel))
set_option maxRecDepth 20000 in
theorem gX3_refusalOfContest_X3_covererAt : GoodIn wsX3_refusalOfContest (wsV RX3 75 RX3 yX3_covererAt wsX3_covererAt) := goodIn_app (goodIn_of _ (by decide +kernel)) ggX3_refusalOfContest_X3_covererAt
set_option maxRecDepth 20000 in
theorem ggX3_refusalOfContest_X3_hatIsPlaced : GoodIn wsX3_refusalOfContest wsX3_hatIsPlaced := goodIn_ca (goodIn_r _ [18, 19, 20, 21, 22, 23, 24, 25, 26, 27, 28, 29, 30, 31, 32, 33, 34] (by decide +kernel) (by decide +kernel)) (goodIn_sub (fun _ h => List.mem_cons_of_mem _ (List.mem_append_right _ h)) (by decide +kernel))
set_option maxRecDepth 20000 in
theorem gX3_refusalOfContest_X3_hatIsPlaced : GoodIn wsX3_refusalOfContest (wsV RX3 72 RX3 yX3_hatIsPlaced wsX3_hatIsPlaced) := goodIn_app (goodIn_of _ (by decide +kernel)) ggX3_refusalOfContest_X3_hatIsPlaced
theorem dX3_refusalOfContest_0 : decode cX3_refusalOfContest 0 = .ok (.aload_n 0, 1) := by decide +kernel
theorem dX3_refusalOfContest_1 : decode cX3_refusalOfContest 1 = .ok (.iload_n 1, 1) := by decide +kernel
theorem dX3_refusalOfContest_2 : decode cX3_refusalOfContest 2 = .ok (.invokevirtual 65, 3) := by decide +kernel
theorem dX3_refusalOfContest_5 : decode cX3_refusalOfContest 5 = .ok (.ifCond .eq 10, 3) := by decide +kernel
theorem dX3_refusalOfContest_8 : decode cX3_refusalOfContest 8 = .ok (.iload_n 2, 1) := by decide +kernel
theorem dX3_refusalOfContest_9 : decode cX3_refusalOfContest 9 = .ok (.invokestatic 69, 3) := by decide +kernel
theorem dX3_refusalOfContest_12 : decode cX3_refusalOfContest 12 = .ok (.ifCond .ne 5, 3) := by decide +kernel
theorem dX3_refusalOfContest_15 : decode cX3_refusalOfContest 15 = .ok (.iconst 1, 1) := by decide +kernel
theorem dX3_refusalOfContest_16 : decode cX3_refusalOfContest 16 = .ok (.ireturn, 1) := by decide +kernel
theorem dX3_refusalOfContest_17 : decode cX3_refusalOfContest 17 = .ok (.aload_n 0, 1) := by decide +kernel
theorem dX3_refusalOfContest_18 : decode cX3_refusalOfContest 18 = .ok (.iload_n 2, 1) := by decide +kernel
theorem dX3_refusalOfContest_19 : decode cX3_refusalOfContest 19 = .ok (.invokevirtual 75, 3) := by decide +kernel
theorem dX3_refusalOfContest_22 : decode cX3_refusalOfContest 22 = .ok (.iconst (-1), 1) := by decide +kernel
theorem dX3_refusalOfContest_23 : decode cX3_refusalOfContest 23 = .ok (.if_icmp .ne 5, 3) := by decide +kernel
theorem dX3_refusalOfContest_26 : decode cX3_refusalOfContest 26 = .ok (.iconst 2, 1) := by decide +kernel
theorem dX3_refusalOfContest_27 : decode cX3_refusalOfContest 27 = .ok (.ireturn, 1) := by decide +kernel
theorem dX3_refusalOfContest_28 : decode cX3_refusalOfContest 28 = .ok (.aload_n 0, 1) := by decide +kernel
theorem dX3_refusalOfContest_29 : decode cX3_refusalOfContest 29 = .ok (.iload_n 1, 1) := by decide +kernel
theorem dX3_refusalOfContest_30 : decode cX3_refusalOfContest 30 = .ok (.invokevirtual 72, 3) := by decide +kernel
theorem dX3_refusalOfContest_33 : decode cX3_refusalOfContest 33 = .ok (.ifCond .eq 7, 3) := by decide +kernel
theorem dX3_refusalOfContest_36 : decode cX3_refusalOfContest 36 = .ok (.iconst 3, 1) := by decide +kernel
theorem dX3_refusalOfContest_37 : decode cX3_refusalOfContest 37 = .ok (.goto 4, 3) := by decide +kernel
theorem dX3_refusalOfContest_40 : decode cX3_refusalOfContest 40 = .ok (.iconst 0, 1) := by decide +kernel
theorem dX3_refusalOfContest_41 : decode cX3_refusalOfContest 41 = .ok (.ireturn, 1) := by decide +kernel
theorem dX3_refusalOfPass_0 : decode cX3_refusalOfPass 0 = .ok (.iload_n 1, 1) := by decide +kernel
theorem dX3_refusalOfPass_1 : decode cX3_refusalOfPass 1 = .ok (.iconst 1, 1) := by decide +kernel
theorem dX3_refusalOfPass_2 : decode cX3_refusalOfPass 2 = .ok (.if_icmp .lt 9, 3) := by decide +kernel
theorem dX3_refusalOfPass_5 : decode cX3_refusalOfPass 5 = .ok (.iload_n 1, 1) := by decide +kernel
theorem dX3_refusalOfPass_6 : decode cX3_refusalOfPass 6 = .ok (.bipush 60, 2) := by decide +kernel
theorem dX3_refusalOfPass_8 : decode cX3_refusalOfPass 8 = .ok (.if_icmp .le 7, 3) := by decide +kernel
theorem dX3_refusalOfPass_11 : decode cX3_refusalOfPass 11 = .ok (.iconst 1, 1) := by decide +kernel
theorem dX3_refusalOfPass_12 : decode cX3_refusalOfPass 12 = .ok (.goto 4, 3) := by decide +kernel
theorem dX3_refusalOfPass_15 : decode cX3_refusalOfPass 15 = .ok (.iconst 0, 1) := by decide +kernel
theorem dX3_refusalOfPass_16 : decode cX3_refusalOfPass 16 = .ok (.ireturn, 1) := by decide +kernel
theorem dX3_refusalOfSweep_0 : decode cX3_refusalOfSweep 0 = .ok (.iload_n 1, 1) := by decide +kernel
theorem dX3_refusalOfSweep_1 : decode cX3_refusalOfSweep 1 = .ok (.iconst 1, 1) := by decide +kernel
theorem dX3_refusalOfSweep_2 : decode cX3_refusalOfSweep 2 = .ok (.if_icmp .lt 10, 3) := by decide +kernel
theorem dX3_refusalOfSweep_5 : decode cX3_refusalOfSweep 5 = .ok (.iload_n 1, 1) := by decide +kernel
theorem dX3_refusalOfSweep_6 : decode cX3_refusalOfSweep 6 = .ok (.sipush 240, 3) := by decide +kernel
theorem dX3_refusalOfSweep_9 : decode cX3_refusalOfSweep 9 = .ok (.if_icmp .le 7, 3) := by decide +kernel
theorem dX3_refusalOfSweep_12 : decode cX3_refusalOfSweep 12 = .ok (.iconst 1, 1) := by decide +kernel
theorem dX3_refusalOfSweep_13 : decode cX3_refusalOfSweep 13 = .ok (.goto 4, 3) := by decide +kernel
theorem dX3_refusalOfSweep_16 : decode cX3_refusalOfSweep 16 = .ok (.iconst 0, 1) := by decide +kernel
theorem dX3_refusalOfSweep_17 : decode cX3_refusalOfSweep 17 = .ok (.ireturn, 1) := by decide +kernel
theorem dX3_welcome_0 : decode cX3_welcome 0 = .ok (.aload_n 0, 1) := by decide +kernel
theorem dX3_welcome_1 : decode cX3_welcome 1 = .ok (.getfield 41, 3) := by decide +kernel
theorem dX3_welcome_4 : decode cX3_welcome 4 = .ok (.istore_n 3, 1) := by decide +kernel
theorem dX3_welcome_5 : decode cX3_welcome 5 = .ok (.aload_n 0, 1) := by decide +kernel
theorem dX3_welcome_6 : decode cX3_welcome 6 = .ok (.getfield 9, 3) := by decide +kernel
theorem dX3_welcome_9 : decode cX3_welcome 9 = .ok (.iload_n 3, 1) := by decide +kernel
theorem dX3_welcome_10 : decode cX3_welcome 10 = .ok (.iload_n 1, 1) := by decide +kernel
theorem dX3_welcome_11 : decode cX3_welcome 11 = .ok (.iastore, 1) := by decide +kernel
theorem dX3_welcome_12 : decode cX3_welcome 12 = .ok (.aload_n 0, 1) := by decide +kernel
theorem dX3_welcome_13 : decode cX3_welcome 13 = .ok (.getfield 15, 3) := by decide +kernel
theorem dX3_welcome_16 : decode cX3_welcome 16 = .ok (.iload_n 3, 1) := by decide +kernel
theorem dX3_welcome_17 : decode cX3_welcome 17 = .ok (.iload_n 2, 1) := by decide +kernel
theorem dX3_welcome_18 : decode cX3_welcome 18 = .ok (.iastore, 1) := by decide +kernel
theorem dX3_welcome_19 : decode cX3_welcome 19 = .ok (.aload_n 0, 1) := by decide +kernel
theorem dX3_welcome_20 : decode cX3_welcome 20 = .ok (.dup, 1) := by decide +kernel
theorem dX3_welcome_21 : decode cX3_welcome 21 = .ok (.getfield 41, 3) := by decide +kernel
theorem dX3_welcome_24 : decode cX3_welcome 24 = .ok (.iconst 1, 1) := by decide +kernel
theorem dX3_welcome_25 : decode cX3_welcome 25 = .ok (.iadd, 1) := by decide +kernel
theorem dX3_welcome_26 : decode cX3_welcome 26 = .ok (.putfield 41, 3) := by decide +kernel
theorem dX3_welcome_29 : decode cX3_welcome 29 = .ok (.iload_n 3, 1) := by decide +kernel
theorem dX3_welcome_30 : decode cX3_welcome 30 = .ok (.ireturn, 1) := by decide +kernel
theorem dX3_gainFeather_0 : decode cX3_gainFeather 0 = .ok (.aload_n 0, 1) := by decide +kernel
theorem dX3_gainFeather_1 : decode cX3_gainFeather 1 = .ok (.getfield 9, 3) := by decide +kernel
theorem dX3_gainFeather_4 : decode cX3_gainFeather 4 = .ok (.iload_n 1, 1) := by decide +kernel
theorem dX3_gainFeather_5 : decode cX3_gainFeather 5 = .ok (.dup2, 1) := by decide +kernel
theorem dX3_gainFeather_6 : decode cX3_gainFeather 6 = .ok (.iaload, 1) := by decide +kernel
theorem dX3_gainFeather_7 : decode cX3_gainFeather 7 = .ok (.iconst 1, 1) := by decide +kernel
theorem dX3_gainFeather_8 : decode cX3_gainFeather 8 = .ok (.iadd, 1) := by decide +kernel
theorem dX3_gainFeather_9 : decode cX3_gainFeather 9 = .ok (.iastore, 1) := by decide +kernel
theorem dX3_gainFeather_10 : decode cX3_gainFeather 10 = .ok (.aload_n 0, 1) := by decide +kernel
theorem dX3_gainFeather_11 : decode cX3_gainFeather 11 = .ok (.getfield 9, 3) := by decide +kernel
theorem dX3_gainFeather_14 : decode cX3_gainFeather 14 = .ok (.iload_n 1, 1) := by decide +kernel
theorem dX3_gainFeather_15 : decode cX3_gainFeather 15 = .ok (.iaload, 1) := by decide +kernel
theorem dX3_gainFeather_16 : decode cX3_gainFeather 16 = .ok (.ireturn, 1) := by decide +kernel
theorem dX3_hatIsPlaced_0 : decode cX3_hatIsPlaced 0 = .ok (.aload_n 0, 1) := by decide +kernel
theorem dX3_hatIsPlaced_1 : decode cX3_hatIsPlaced 1 = .ok (.getfield 18, 3) := by decide +kernel
theorem dX3_hatIsPlaced_4 : decode cX3_hatIsPlaced 4 = .ok (.iload_n 1, 1) := by decide +kernel
theorem dX3_hatIsPlaced_5 : decode cX3_hatIsPlaced 5 = .ok (.iaload, 1) := by decide +kernel
theorem dX3_hatIsPlaced_6 : decode cX3_hatIsPlaced 6 = .ok (.iconst (-1), 1) := by decide +kernel
theorem dX3_hatIsPlaced_7 : decode cX3_hatIsPlaced 7 = .ok (.if_icmp .eq 7, 3) := by decide +kernel
theorem dX3_hatIsPlaced_10 : decode cX3_hatIsPlaced 10 = .ok (.iconst 1, 1) := by decide +kernel
theorem dX3_hatIsPlaced_11 : decode cX3_hatIsPlaced 11 = .ok (.goto 4, 3) := by decide +kernel
theorem dX3_hatIsPlaced_14 : decode cX3_hatIsPlaced 14 = .ok (.iconst 0, 1) := by decide +kernel
theorem dX3_hatIsPlaced_15 : decode cX3_hatIsPlaced 15 = .ok (.ireturn, 1) := by decide +kernel
set_option maxRecDepth 20000 in
theorem ggX3_coverOf_J13_bitCount_95d88 : GoodIn wsX3_coverOf wsJ13_bitCount_95d88 := goodIn_r _ [5, 6, 7, 8] (by decide +kernel) (by decide +kernel)
set_option maxRecDepth 20000 in
theorem gX3_coverOf_J13_bitCount_95d88 : GoodIn wsX3_coverOf (va_wsS RX3 82 yJ13_bitCount_95d88 wsJ13_bitCount_95d88) := goodIn_app (goodIn_of _ (by decide +kernel)) ggX3_coverOf_J13_bitCount_95d88
theorem dX3_coverOf_0 : decode cX3_coverOf 0 = .ok (.aload_n 0, 1) := by decide +kernel
theorem dX3_coverOf_1 : decode cX3_coverOf 1 = .ok (.getfield 24, 3) := by decide +kernel
theorem dX3_coverOf_4 : decode cX3_coverOf 4 = .ok (.iload_n 1, 1) := by decide +kernel
theorem dX3_coverOf_5 : decode cX3_coverOf 5 = .ok (.laload, 1) := by decide +kernel
theorem dX3_coverOf_6 : decode cX3_coverOf 6 = .ok (.invokestatic 82, 3) := by decide +kernel
theorem dX3_coverOf_9 : decode cX3_coverOf 9 = .ok (.ireturn, 1) := by decide +kernel
theorem dX3_idleTime_0 : decode cX3_idleTime 0 = .ok (.aload_n 0, 1) := by decide +kernel
theorem dX3_idleTime_1 : decode cX3_idleTime 1 = .ok (.getfield 44, 3) := by decide +kernel
theorem dX3_idleTime_4 : decode cX3_idleTime 4 = .ok (.aload_n 0, 1) := by decide +kernel
theorem dX3_idleTime_5 : decode cX3_idleTime 5 = .ok (.getfield 21, 3) := by decide +kernel
theorem dX3_idleTime_8 : decode cX3_idleTime 8 = .ok (.iload_n 1, 1) := by decide +kernel
theorem dX3_idleTime_9 : decode cX3_idleTime 9 = .ok (.iaload, 1) := by decide +kernel
theorem dX3_idleTime_10 : decode cX3_idleTime 10 = .ok (.isub, 1) := by decide +kernel
theorem dX3_idleTime_11 : decode cX3_idleTime 11 = .ok (.ireturn, 1) := by decide +kernel
set_option maxRecDepth 20000 in
theorem ggX3_startIdleTimeAgain_X3_idleTime : GoodIn wsX3_startIdleTimeAgain wsX3_idleTime := goodIn_ca (goodIn_r _ [7, 2, 1, 8, 9, 10, 11, 12, 13, 14, 15, 16, 17, 18, 19, 20, 21, 22] (by decide +kernel) (by decide +kernel)) (goodIn_sub (fun _ h => List.mem_cons_of_mem _ (List.mem_append_right _ h)) (by decide +kernel))
set_option maxRecDepth 20000 in
theorem gX3_startIdleTimeAgain_X3_idleTime : GoodIn wsX3_startIdleTimeAgain (wsV RX3 88 RX3 yX3_idleTime wsX3_idleTime) := goodIn_app (goodIn_of _ (by decide +kernel)) ggX3_startIdleTimeAgain_X3_idleTime
theorem dX3_startIdleTimeAgain_0 : decode cX3_startIdleTimeAgain 0 = .ok (.aload_n 0, 1) := by decide +kernel
theorem dX3_startIdleTimeAgain_1 : decode cX3_startIdleTimeAgain 1 = .ok (.iload_n 1, 1) := by decide +kernel
theorem dX3_startIdleTimeAgain_2 : decode cX3_startIdleTimeAgain 2 = .ok (.invokevirtual 88, 3) := by decide +kernel
theorem dX3_startIdleTimeAgain_5 : decode cX3_startIdleTimeAgain 5 = .ok (.istore_n 2, 1) := by decide +kernel
theorem dX3_startIdleTimeAgain_6 : decode cX3_startIdleTimeAgain 6 = .ok (.aload_n 0, 1) := by decide +kernel
theorem dX3_startIdleTimeAgain_7 : decode cX3_startIdleTimeAgain 7 = .ok (.getfield 21, 3) := by decide +kernel
theorem dX3_startIdleTimeAgain_10 : decode cX3_startIdleTimeAgain 10 = .ok (.iload_n 1, 1) := by decide +kernel
theorem dX3_startIdleTimeAgain_11 : decode cX3_startIdleTimeAgain 11 = .ok (.aload_n 0, 1) := by decide +kernel
theorem dX3_startIdleTimeAgain_12 : decode cX3_startIdleTimeAgain 12 = .ok (.getfield 44, 3) := by decide +kernel
theorem dX3_startIdleTimeAgain_15 : decode cX3_startIdleTimeAgain 15 = .ok (.iastore, 1) := by decide +kernel
theorem dX3_startIdleTimeAgain_16 : decode cX3_startIdleTimeAgain 16 = .ok (.iload_n 2, 1) := by decide +kernel
theorem dX3_startIdleTimeAgain_17 : decode cX3_startIdleTimeAgain 17 = .ok (.ireturn, 1) := by decide +kernel
set_option maxRecDepth 20000 in
theorem ggX3_putHat_X3_coveredChairs : GoodIn wsX3_putHat wsX3_coveredChairs := goodIn_ca (goodIn_r _ [10, 4, 21, 22, 23, 24, 25, 26, 27, 28, 29, 30, 31, 32, 33, 34, 35] (by decide +kernel) (by decide +kernel)) (goodIn_sub (fun _ h => List.mem_cons_of_mem _ (List.mem_append_right _ h)) (by decide +kernel))
set_option maxRecDepth 20000 in
theorem gX3_putHat_X3_coveredChairs : GoodIn wsX3_putHat (wsV RX3 91 RX3 yX3_coveredChairs wsX3_coveredChairs) := goodIn_app (goodIn_of _ (by decide +kernel)) ggX3_putHat_X3_coveredChairs
set_option maxRecDepth 20000 in
theorem ggX3_putHat_X3_reach : GoodIn wsX3_putHat wsX3_reach := goodIn_r _ [13] (by decide +kernel) (by decide +kernel)
set_option maxRecDepth 20000 in
theorem gX3_putHat_X3_reach : GoodIn wsX3_putHat (va_wsS RX3 95 yX3_reach wsX3_reach) := goodIn_app (goodIn_of _ (by decide +kernel)) ggX3_putHat_X3_reach
set_option maxRecDepth 20000 in
theorem ggX3_putHat_J13_bitCount_95d88 : GoodIn wsX3_putHat wsJ13_bitCount_95d88 := goodIn_r _ [17, 18, 19, 20] (by decide +kernel) (by decide +kernel)
set_option maxRecDepth 20000 in
theorem gX3_putHat_J13_bitCount_95d88 : GoodIn wsX3_putHat (va_wsS RX3 82 yJ13_bitCount_95d88 wsJ13_bitCount_95d88) := goodIn_app (goodIn_of _ (by decide +kernel)) ggX3_putHat_J13_bitCount_95d88
theorem dX3_putHat_0 : decode cX3_putHat 0 = .ok (.aload_n 0, 1) := by decide +kernel
theorem dX3_putHat_1 : decode cX3_putHat 1 = .ok (.invokevirtual 91, 3) := by decide +kernel
theorem dX3_putHat_4 : decode cX3_putHat 4 = .ok (.lstore_n 3, 1) := by decide +kernel
theorem dX3_putHat_5 : decode cX3_putHat 5 = .ok (.aload_n 0, 1) := by decide +kernel
theorem dX3_putHat_6 : decode cX3_putHat 6 = .ok (.getfield 18, 3) := by decide +kernel
theorem dX3_putHat_9 : decode cX3_putHat 9 = .ok (.iload_n 1, 1) := by decide +kernel
theorem dX3_putHat_10 : decode cX3_putHat 10 = .ok (.iload_n 2, 1) := by decide +kernel
theorem dX3_putHat_11 : decode cX3_putHat 11 = .ok (.iastore, 1) := by decide +kernel
theorem dX3_putHat_12 : decode cX3_putHat 12 = .ok (.aload_n 0, 1) := by decide +kernel
theorem dX3_putHat_13 : decode cX3_putHat 13 = .ok (.getfield 21, 3) := by decide +kernel
theorem dX3_putHat_16 : decode cX3_putHat 16 = .ok (.iload_n 1, 1) := by decide +kernel
theorem dX3_putHat_17 : decode cX3_putHat 17 = .ok (.aload_n 0, 1) := by decide +kernel
theorem dX3_putHat_18 : decode cX3_putHat 18 = .ok (.getfield 44, 3) := by decide +kernel
theorem dX3_putHat_21 : decode cX3_putHat 21 = .ok (.iastore, 1) := by decide +kernel
theorem dX3_putHat_22 : decode cX3_putHat 22 = .ok (.aload_n 0, 1) := by decide +kernel
theorem dX3_putHat_23 : decode cX3_putHat 23 = .ok (.getfield 24, 3) := by decide +kernel
theorem dX3_putHat_26 : decode cX3_putHat 26 = .ok (.iload_n 1, 1) := by decide +kernel
theorem dX3_putHat_27 : decode cX3_putHat 27 = .ok (.lconst 1, 1) := by decide +kernel
theorem dX3_putHat_28 : decode cX3_putHat 28 = .ok (.iload_n 2, 1) := by decide +kernel
theorem dX3_putHat_29 : decode cX3_putHat 29 = .ok (.lshl, 1) := by decide +kernel
theorem dX3_putHat_30 : decode cX3_putHat 30 = .ok (.iload_n 2, 1) := by decide +kernel
theorem dX3_putHat_31 : decode cX3_putHat 31 = .ok (.iconst (-1), 1) := by decide +kernel
theorem dX3_putHat_32 : decode cX3_putHat 32 = .ok (.aload_n 0, 1) := by decide +kernel
theorem dX3_putHat_33 : decode cX3_putHat 33 = .ok (.getfield 15, 3) := by decide +kernel
theorem dX3_putHat_36 : decode cX3_putHat 36 = .ok (.iload_n 1, 1) := by decide +kernel
theorem dX3_putHat_37 : decode cX3_putHat 37 = .ok (.iaload, 1) := by decide +kernel
theorem dX3_putHat_38 : decode cX3_putHat 38 = .ok (.lload_n 3, 1) := by decide +kernel
theorem dX3_putHat_39 : decode cX3_putHat 39 = .ok (.invokestatic 95, 3) := by decide +kernel
theorem dX3_putHat_42 : decode cX3_putHat 42 = .ok (.lor, 1) := by decide +kernel
theorem dX3_putHat_43 : decode cX3_putHat 43 = .ok (.iload_n 2, 1) := by decide +kernel
theorem dX3_putHat_44 : decode cX3_putHat 44 = .ok (.iconst 1, 1) := by decide +kernel
theorem dX3_putHat_45 : decode cX3_putHat 45 = .ok (.aload_n 0, 1) := by decide +kernel
theorem dX3_putHat_46 : decode cX3_putHat 46 = .ok (.getfield 15, 3) := by decide +kernel
theorem dX3_putHat_49 : decode cX3_putHat 49 = .ok (.iload_n 1, 1) := by decide +kernel
theorem dX3_putHat_50 : decode cX3_putHat 50 = .ok (.iaload, 1) := by decide +kernel
theorem dX3_putHat_51 : decode cX3_putHat 51 = .ok (.lload_n 3, 1) := by decide +kernel
theorem dX3_putHat_52 : decode cX3_putHat 52 = .ok (.invokestatic 95, 3) := by decide +kernel
theorem dX3_putHat_55 : decode cX3_putHat 55 = .ok (.lor, 1) := by decide +kernel
theorem dX3_putHat_56 : decode cX3_putHat 56 = .ok (.lastore, 1) := by decide +kernel
theorem dX3_putHat_57 : decode cX3_putHat 57 = .ok (.aload_n 0, 1) := by decide +kernel
theorem dX3_putHat_58 : decode cX3_putHat 58 = .ok (.getfield 24, 3) := by decide +kernel
theorem dX3_putHat_61 : decode cX3_putHat 61 = .ok (.iload_n 1, 1) := by decide +kernel
theorem dX3_putHat_62 : decode cX3_putHat 62 = .ok (.laload, 1) := by decide +kernel
theorem dX3_putHat_63 : decode cX3_putHat 63 = .ok (.invokestatic 82, 3) := by decide +kernel
theorem dX3_putHat_66 : decode cX3_putHat 66 = .ok (.ireturn, 1) := by decide +kernel
theorem dX3_reach_0 : decode cX3_reach 0 = .ok (.lconst 0, 1) := by decide +kernel
theorem dX3_reach_1 : decode cX3_reach 1 = .ok (.lstore 5, 2) := by decide +kernel
theorem dX3_reach_3 : decode cX3_reach 3 = .ok (.iload_n 0, 1) := by decide +kernel
theorem dX3_reach_4 : decode cX3_reach 4 = .ok (.bipush 10, 2) := by decide +kernel
theorem dX3_reach_6 : decode cX3_reach 6 = .ok (.irem, 1) := by decide +kernel
theorem dX3_reach_7 : decode cX3_reach 7 = .ok (.istore 7, 2) := by decide +kernel
theorem dX3_reach_9 : decode cX3_reach 9 = .ok (.iconst 1, 1) := by decide +kernel
theorem dX3_reach_10 : decode cX3_reach 10 = .ok (.istore 8, 2) := by decide +kernel
theorem dX3_reach_12 : decode cX3_reach 12 = .ok (.iload 8, 2) := by decide +kernel
theorem dX3_reach_14 : decode cX3_reach 14 = .ok (.iload_n 2, 1) := by decide +kernel
theorem dX3_reach_15 : decode cX3_reach 15 = .ok (.if_icmp .gt 62, 3) := by decide +kernel
theorem dX3_reach_18 : decode cX3_reach 18 = .ok (.iload 7, 2) := by decide +kernel
theorem dX3_reach_20 : decode cX3_reach 20 = .ok (.iload 8, 2) := by decide +kernel
theorem dX3_reach_22 : decode cX3_reach 22 = .ok (.iload_n 1, 1) := by decide +kernel
theorem dX3_reach_23 : decode cX3_reach 23 = .ok (.imul, 1) := by decide +kernel
theorem dX3_reach_24 : decode cX3_reach 24 = .ok (.iadd, 1) := by decide +kernel
theorem dX3_reach_25 : decode cX3_reach 25 = .ok (.istore 9, 2) := by decide +kernel
theorem dX3_reach_27 : decode cX3_reach 27 = .ok (.iload 9, 2) := by decide +kernel
theorem dX3_reach_29 : decode cX3_reach 29 = .ok (.ifCond .lt 10, 3) := by decide +kernel
theorem dX3_reach_32 : decode cX3_reach 32 = .ok (.iload 9, 2) := by decide +kernel
theorem dX3_reach_34 : decode cX3_reach 34 = .ok (.bipush 10, 2) := by decide +kernel
theorem dX3_reach_36 : decode cX3_reach 36 = .ok (.if_icmp .lt 6, 3) := by decide +kernel
theorem dX3_reach_39 : decode cX3_reach 39 = .ok (.lload 5, 2) := by decide +kernel
theorem dX3_reach_41 : decode cX3_reach 41 = .ok (.lreturn, 1) := by decide +kernel
theorem dX3_reach_42 : decode cX3_reach 42 = .ok (.lconst 1, 1) := by decide +kernel
theorem dX3_reach_43 : decode cX3_reach 43 = .ok (.iload_n 0, 1) := by decide +kernel
theorem dX3_reach_44 : decode cX3_reach 44 = .ok (.iload 8, 2) := by decide +kernel
theorem dX3_reach_46 : decode cX3_reach 46 = .ok (.iload_n 1, 1) := by decide +kernel
theorem dX3_reach_47 : decode cX3_reach 47 = .ok (.imul, 1) := by decide +kernel
theorem dX3_reach_48 : decode cX3_reach 48 = .ok (.iadd, 1) := by decide +kernel
theorem dX3_reach_49 : decode cX3_reach 49 = .ok (.lshl, 1) := by decide +kernel
theorem dX3_reach_50 : decode cX3_reach 50 = .ok (.lstore 10, 2) := by decide +kernel
theorem dX3_reach_52 : decode cX3_reach 52 = .ok (.lload_n 3, 1) := by decide +kernel
theorem dX3_reach_53 : decode cX3_reach 53 = .ok (.lload 10, 2) := by decide +kernel
theorem dX3_reach_55 : decode cX3_reach 55 = .ok (.land, 1) := by decide +kernel
theorem dX3_reach_56 : decode cX3_reach 56 = .ok (.lconst 0, 1) := by decide +kernel
theorem dX3_reach_57 : decode cX3_reach 57 = .ok (.lcmp, 1) := by decide +kernel
theorem dX3_reach_58 : decode cX3_reach 58 = .ok (.ifCond .eq 6, 3) := by decide +kernel
theorem dX3_reach_61 : decode cX3_reach 61 = .ok (.lload 5, 2) := by decide +kernel
theorem dX3_reach_63 : decode cX3_reach 63 = .ok (.lreturn, 1) := by decide +kernel
theorem dX3_reach_64 : decode cX3_reach 64 = .ok (.lload 5, 2) := by decide +kernel
theorem dX3_reach_66 : decode cX3_reach 66 = .ok (.lload 10, 2) := by decide +kernel
theorem dX3_reach_68 : decode cX3_reach 68 = .ok (.lor, 1) := by decide +kernel
theorem dX3_reach_69 : decode cX3_reach 69 = .ok (.lstore 5, 2) := by decide +kernel
theorem dX3_reach_71 : decode cX3_reach 71 = .ok (.iinc 8 1, 3) := by decide +kernel
theorem dX3_reach_74 : decode cX3_reach 74 = .ok (.goto (-62), 3) := by decide +kernel
theorem dX3_reach_77 : decode cX3_reach 77 = .ok (.lload 5, 2) := by decide +kernel
theorem dX3_reach_79 : decode cX3_reach 79 = .ok (.lreturn, 1) := by decide +kernel
theorem dX3_liftHat_0 : decode cX3_liftHat 0 = .ok (.aload_n 0, 1) := by decide +kernel
theorem dX3_liftHat_1 : decode cX3_liftHat 1 = .ok (.getfield 24, 3) := by decide +kernel
theorem dX3_liftHat_4 : decode cX3_liftHat 4 = .ok (.iload_n 1, 1) := by decide +kernel
theorem dX3_liftHat_5 : decode cX3_liftHat 5 = .ok (.laload, 1) := by decide +kernel
theorem dX3_liftHat_6 : decode cX3_liftHat 6 = .ok (.lstore_n 2, 1) := by decide +kernel
theorem dX3_liftHat_7 : decode cX3_liftHat 7 = .ok (.aload_n 0, 1) := by decide +kernel
theorem dX3_liftHat_8 : decode cX3_liftHat 8 = .ok (.getfield 24, 3) := by decide +kernel
theorem dX3_liftHat_11 : decode cX3_liftHat 11 = .ok (.iload_n 1, 1) := by decide +kernel
theorem dX3_liftHat_12 : decode cX3_liftHat 12 = .ok (.lconst 0, 1) := by decide +kernel
theorem dX3_liftHat_13 : decode cX3_liftHat 13 = .ok (.lastore, 1) := by decide +kernel
theorem dX3_liftHat_14 : decode cX3_liftHat 14 = .ok (.aload_n 0, 1) := by decide +kernel
theorem dX3_liftHat_15 : decode cX3_liftHat 15 = .ok (.getfield 18, 3) := by decide +kernel
theorem dX3_liftHat_18 : decode cX3_liftHat 18 = .ok (.iload_n 1, 1) := by decide +kernel
theorem dX3_liftHat_19 : decode cX3_liftHat 19 = .ok (.iconst (-1), 1) := by decide +kernel
theorem dX3_liftHat_20 : decode cX3_liftHat 20 = .ok (.iastore, 1) := by decide +kernel
theorem dX3_liftHat_21 : decode cX3_liftHat 21 = .ok (.lload_n 2, 1) := by decide +kernel
theorem dX3_liftHat_22 : decode cX3_liftHat 22 = .ok (.lreturn, 1) := by decide +kernel
set_option maxRecDepth 20000 in
theorem ggX3_giveChairsBack_X3_liftHat : GoodIn wsX3_giveChairsBack wsX3_liftHat := goodIn_ca (goodIn_r _ [5, 6, 7, 57, 58, 59, 60, 61, 62, 63, 64, 65, 66, 67, 68, 69, 70, 71] (by decide +kernel) (by decide +kernel)) (goodIn_sub (fun _ h => List.mem_cons_of_mem _ (List.mem_append_right _ h)) (by decide +kernel))
set_option maxRecDepth 20000 in
theorem gX3_giveChairsBack_X3_liftHat : GoodIn wsX3_giveChairsBack (wsV RX3 99 RX3 yX3_liftHat wsX3_liftHat) := goodIn_app (goodIn_of _ (by decide +kernel)) ggX3_giveChairsBack_X3_liftHat
set_option maxRecDepth 20000 in
theorem ggX3_giveChairsBack_X3_offerChairs : GoodIn wsX3_giveChairsBack wsX3_offerChairs := goodIn_ca (goodIn_r _ [11, 12, 13, 14, 4, 15, 6, 16, 17, 18, 19, 20, 21, 22, 23, 24, 25, 26, 27, 28, 29, 30, 31, 32, 33, 34, 35, 7, 36, 37, 38, 39, 40, 41, 42, 43, 44, 45, 46, 47, 48, 49, 50, 51, 52, 53, 54, 55, 56, 57, 58, 59, 60, 61, 62, 63, 64, 65, 66, 67, 68, 69, 70, 71] (by decide +kernel) (by decide +kernel)) (goodIn_sub (fun _ h => List.mem_cons_of_mem _ (List.mem_append_right _ h)) (by decide +kernel))
set_option maxRecDepth 20000 in
theorem gX3_giveChairsBack_X3_offerChairs : GoodIn wsX3_giveChairsBack (wsV RX3 103 RX3 yX3_offerChairs wsX3_offerChairs) := goodIn_app (goodIn_of _ (by decide +kernel)) ggX3_giveChairsBack_X3_offerChairs
set_option maxRecDepth 20000 in
theorem ggX3_giveChairsBack_J13_bitCount_95d88 : GoodIn wsX3_giveChairsBack wsJ13_bitCount_95d88 := goodIn_r _ [53, 54, 55, 56] (by decide +kernel) (by decide +kernel)
set_option maxRecDepth 20000 in
theorem gX3_giveChairsBack_J13_bitCount_95d88 : GoodIn wsX3_giveChairsBack (va_wsS RX3 82 yJ13_bitCount_95d88 wsJ13_bitCount_95d88) := goodIn_app (goodIn_of _ (by decide +kernel)) ggX3_giveChairsBack_J13_bitCount_95d88
theorem dX3_giveChairsBack_0 : decode cX3_giveChairsBack 0 = .ok (.aload_n 0, 1) := by decide +kernel
theorem dX3_giveChairsBack_1 : decode cX3_giveChairsBack 1 = .ok (.iload_n 1, 1) := by decide +kernel
theorem dX3_giveChairsBack_2 : decode cX3_giveChairsBack 2 = .ok (.invokevirtual 99, 3) := by decide +kernel
theorem dX3_giveChairsBack_5 : decode cX3_giveChairsBack 5 = .ok (.lstore_n 2, 1) := by decide +kernel
theorem dX3_giveChairsBack_6 : decode cX3_giveChairsBack 6 = .ok (.aload_n 0, 1) := by decide +kernel
theorem dX3_giveChairsBack_7 : decode cX3_giveChairsBack 7 = .ok (.lload_n 2, 1) := by decide +kernel
theorem dX3_giveChairsBack_8 : decode cX3_giveChairsBack 8 = .ok (.invokevirtual 103, 3) := by decide +kernel
theorem dX3_giveChairsBack_11 : decode cX3_giveChairsBack 11 = .ok (.lload_n 2, 1) := by decide +kernel
theorem dX3_giveChairsBack_12 : decode cX3_giveChairsBack 12 = .ok (.invokestatic 82, 3) := by decide +kernel
theorem dX3_giveChairsBack_15 : decode cX3_giveChairsBack 15 = .ok (.ireturn, 1) := by decide +kernel
set_option maxRecDepth 20000 in
theorem ggX3_putCoat_X3_coatsOn : GoodIn wsX3_putCoat wsX3_coatsOn := goodIn_ca (goodIn_r _ [9, 4, 10, 11, 12, 13, 14, 15, 16, 17, 18, 19, 20, 21, 22, 23, 24] (by decide +kernel) (by decide +kernel)) (goodIn_sub (fun _ h => List.mem_cons_of_mem _ (List.mem_append_right _ h)) (by decide +kernel))
set_option maxRecDepth 20000 in
theorem gX3_putCoat_X3_coatsOn : GoodIn wsX3_putCoat (wsV RX3 79 RX3 yX3_coatsOn wsX3_coatsOn) := goodIn_app (goodIn_of _ (by decide +kernel)) ggX3_putCoat_X3_coatsOn
theorem dX3_putCoat_0 : decode cX3_putCoat 0 = .ok (.aload_n 0, 1) := by decide +kernel
theorem dX3_putCoat_1 : decode cX3_putCoat 1 = .ok (.iload_n 2, 1) := by decide +kernel
theorem dX3_putCoat_2 : decode cX3_putCoat 2 = .ok (.invokevirtual 79, 3) := by decide +kernel
theorem dX3_putCoat_5 : decode cX3_putCoat 5 = .ok (.istore_n 3, 1) := by decide +kernel
theorem dX3_putCoat_6 : decode cX3_putCoat 6 = .ok (.aload_n 0, 1) := by decide +kernel
theorem dX3_putCoat_7 : decode cX3_putCoat 7 = .ok (.dup, 1) := by decide +kernel
theorem dX3_putCoat_8 : decode cX3_putCoat 8 = .ok (.getfield 37, 3) := by decide +kernel
theorem dX3_putCoat_11 : decode cX3_putCoat 11 = .ok (.iconst 1, 1) := by decide +kernel
theorem dX3_putCoat_12 : decode cX3_putCoat 12 = .ok (.iadd, 1) := by decide +kernel
theorem dX3_putCoat_13 : decode cX3_putCoat 13 = .ok (.putfield 37, 3) := by decide +kernel
theorem dX3_putCoat_16 : decode cX3_putCoat 16 = .ok (.aload_n 0, 1) := by decide +kernel
theorem dX3_putCoat_17 : decode cX3_putCoat 17 = .ok (.getfield 34, 3) := by decide +kernel
theorem dX3_putCoat_20 : decode cX3_putCoat 20 = .ok (.iload_n 1, 1) := by decide +kernel
theorem dX3_putCoat_21 : decode cX3_putCoat 21 = .ok (.aload_n 0, 1) := by decide +kernel
theorem dX3_putCoat_22 : decode cX3_putCoat 22 = .ok (.getfield 37, 3) := by decide +kernel
theorem dX3_putCoat_25 : decode cX3_putCoat 25 = .ok (.iastore, 1) := by decide +kernel
theorem dX3_putCoat_26 : decode cX3_putCoat 26 = .ok (.aload_n 0, 1) := by decide +kernel
theorem dX3_putCoat_27 : decode cX3_putCoat 27 = .ok (.getfield 31, 3) := by decide +kernel
theorem dX3_putCoat_30 : decode cX3_putCoat 30 = .ok (.iload_n 1, 1) := by decide +kernel
theorem dX3_putCoat_31 : decode cX3_putCoat 31 = .ok (.iload_n 3, 1) := by decide +kernel
theorem dX3_putCoat_32 : decode cX3_putCoat 32 = .ok (.iastore, 1) := by decide +kernel
theorem dX3_putCoat_33 : decode cX3_putCoat 33 = .ok (.aload_n 0, 1) := by decide +kernel
theorem dX3_putCoat_34 : decode cX3_putCoat 34 = .ok (.getfield 28, 3) := by decide +kernel
theorem dX3_putCoat_37 : decode cX3_putCoat 37 = .ok (.iload_n 1, 1) := by decide +kernel
theorem dX3_putCoat_38 : decode cX3_putCoat 38 = .ok (.iload_n 2, 1) := by decide +kernel
theorem dX3_putCoat_39 : decode cX3_putCoat 39 = .ok (.iastore, 1) := by decide +kernel
theorem dX3_putCoat_40 : decode cX3_putCoat 40 = .ok (.iload_n 3, 1) := by decide +kernel
theorem dX3_putCoat_41 : decode cX3_putCoat 41 = .ok (.ireturn, 1) := by decide +kernel
theorem dX3_pullCoat_0 : decode cX3_pullCoat 0 = .ok (.aload_n 0, 1) := by decide +kernel
theorem dX3_pullCoat_1 : decode cX3_pullCoat 1 = .ok (.getfield 28, 3) := by decide +kernel
theorem dX3_pullCoat_4 : decode cX3_pullCoat 4 = .ok (.iload_n 1, 1) := by decide +kernel
theorem dX3_pullCoat_5 : decode cX3_pullCoat 5 = .ok (.iaload, 1) := by decide +kernel
theorem dX3_pullCoat_6 : decode cX3_pullCoat 6 = .ok (.istore_n 2, 1) := by decide +kernel
theorem dX3_pullCoat_7 : decode cX3_pullCoat 7 = .ok (.aload_n 0, 1) := by decide +kernel
theorem dX3_pullCoat_8 : decode cX3_pullCoat 8 = .ok (.getfield 28, 3) := by decide +kernel
theorem dX3_pullCoat_11 : decode cX3_pullCoat 11 = .ok (.iload_n 1, 1) := by decide +kernel
theorem dX3_pullCoat_12 : decode cX3_pullCoat 12 = .ok (.iconst (-1), 1) := by decide +kernel
theorem dX3_pullCoat_13 : decode cX3_pullCoat 13 = .ok (.iastore, 1) := by decide +kernel
theorem dX3_pullCoat_14 : decode cX3_pullCoat 14 = .ok (.iconst 0, 1) := by decide +kernel
theorem dX3_pullCoat_15 : decode cX3_pullCoat 15 = .ok (.istore_n 3, 1) := by decide +kernel
theorem dX3_pullCoat_16 : decode cX3_pullCoat 16 = .ok (.iload_n 3, 1) := by decide +kernel
theorem dX3_pullCoat_17 : decode cX3_pullCoat 17 = .ok (.bipush 8, 2) := by decide +kernel
theorem dX3_pullCoat_19 : decode cX3_pullCoat 19 = .ok (.if_icmp .ge 44, 3) := by decide +kernel
theorem dX3_pullCoat_22 : decode cX3_pullCoat 22 = .ok (.aload_n 0, 1) := by decide +kernel
theorem dX3_pullCoat_23 : decode cX3_pullCoat 23 = .ok (.getfield 28, 3) := by decide +kernel
theorem dX3_pullCoat_26 : decode cX3_pullCoat 26 = .ok (.iload_n 3, 1) := by decide +kernel
theorem dX3_pullCoat_27 : decode cX3_pullCoat 27 = .ok (.iaload, 1) := by decide +kernel
theorem dX3_pullCoat_28 : decode cX3_pullCoat 28 = .ok (.iload_n 2, 1) := by decide +kernel
theorem dX3_pullCoat_29 : decode cX3_pullCoat 29 = .ok (.if_icmp .ne 28, 3) := by decide +kernel
theorem dX3_pullCoat_32 : decode cX3_pullCoat 32 = .ok (.aload_n 0, 1) := by decide +kernel
theorem dX3_pullCoat_33 : decode cX3_pullCoat 33 = .ok (.getfield 31, 3) := by decide +kernel
theorem dX3_pullCoat_36 : decode cX3_pullCoat 36 = .ok (.iload_n 3, 1) := by decide +kernel
theorem dX3_pullCoat_37 : decode cX3_pullCoat 37 = .ok (.iaload, 1) := by decide +kernel
theorem dX3_pullCoat_38 : decode cX3_pullCoat 38 = .ok (.aload_n 0, 1) := by decide +kernel
theorem dX3_pullCoat_39 : decode cX3_pullCoat 39 = .ok (.getfield 31, 3) := by decide +kernel
theorem dX3_pullCoat_42 : decode cX3_pullCoat 42 = .ok (.iload_n 1, 1) := by decide +kernel
theorem dX3_pullCoat_43 : decode cX3_pullCoat 43 = .ok (.iaload, 1) := by decide +kernel
theorem dX3_pullCoat_44 : decode cX3_pullCoat 44 = .ok (.if_icmp .le 13, 3) := by decide +kernel
theorem dX3_pullCoat_47 : decode cX3_pullCoat 47 = .ok (.aload_n 0, 1) := by decide +kernel
theorem dX3_pullCoat_48 : decode cX3_pullCoat 48 = .ok (.getfield 31, 3) := by decide +kernel
theorem dX3_pullCoat_51 : decode cX3_pullCoat 51 = .ok (.iload_n 3, 1) := by decide +kernel
theorem dX3_pullCoat_52 : decode cX3_pullCoat 52 = .ok (.dup2, 1) := by decide +kernel
theorem dX3_pullCoat_53 : decode cX3_pullCoat 53 = .ok (.iaload, 1) := by decide +kernel
theorem dX3_pullCoat_54 : decode cX3_pullCoat 54 = .ok (.iconst 1, 1) := by decide +kernel
theorem dX3_pullCoat_55 : decode cX3_pullCoat 55 = .ok (.isub, 1) := by decide +kernel
theorem dX3_pullCoat_56 : decode cX3_pullCoat 56 = .ok (.iastore, 1) := by decide +kernel
theorem dX3_pullCoat_57 : decode cX3_pullCoat 57 = .ok (.iinc 3 1, 3) := by decide +kernel
theorem dX3_pullCoat_60 : decode cX3_pullCoat 60 = .ok (.goto (-44), 3) := by decide +kernel
theorem dX3_pullCoat_63 : decode cX3_pullCoat 63 = .ok (.iload_n 2, 1) := by decide +kernel
theorem dX3_pullCoat_64 : decode cX3_pullCoat 64 = .ok (.ireturn, 1) := by decide +kernel
theorem dX3_coatsOn_0 : decode cX3_coatsOn 0 = .ok (.iconst 0, 1) := by decide +kernel
theorem dX3_coatsOn_1 : decode cX3_coatsOn 1 = .ok (.istore_n 2, 1) := by decide +kernel
theorem dX3_coatsOn_2 : decode cX3_coatsOn 2 = .ok (.iconst 0, 1) := by decide +kernel
theorem dX3_coatsOn_3 : decode cX3_coatsOn 3 = .ok (.istore_n 3, 1) := by decide +kernel
theorem dX3_coatsOn_4 : decode cX3_coatsOn 4 = .ok (.iload_n 3, 1) := by decide +kernel
theorem dX3_coatsOn_5 : decode cX3_coatsOn 5 = .ok (.bipush 8, 2) := by decide +kernel
theorem dX3_coatsOn_7 : decode cX3_coatsOn 7 = .ok (.if_icmp .ge 22, 3) := by decide +kernel
theorem dX3_coatsOn_10 : decode cX3_coatsOn 10 = .ok (.aload_n 0, 1) := by decide +kernel
theorem dX3_coatsOn_11 : decode cX3_coatsOn 11 = .ok (.getfield 28, 3) := by decide +kernel
theorem dX3_coatsOn_14 : decode cX3_coatsOn 14 = .ok (.iload_n 3, 1) := by decide +kernel
theorem dX3_coatsOn_15 : decode cX3_coatsOn 15 = .ok (.iaload, 1) := by decide +kernel
theorem dX3_coatsOn_16 : decode cX3_coatsOn 16 = .ok (.iload_n 1, 1) := by decide +kernel
theorem dX3_coatsOn_17 : decode cX3_coatsOn 17 = .ok (.if_icmp .ne 6, 3) := by decide +kernel
theorem dX3_coatsOn_20 : decode cX3_coatsOn 20 = .ok (.iinc 2 1, 3) := by decide +kernel
theorem dX3_coatsOn_23 : decode cX3_coatsOn 23 = .ok (.iinc 3 1, 3) := by decide +kernel
theorem dX3_coatsOn_26 : decode cX3_coatsOn 26 = .ok (.goto (-22), 3) := by decide +kernel
theorem dX3_coatsOn_29 : decode cX3_coatsOn 29 = .ok (.iload_n 2, 1) := by decide +kernel
theorem dX3_coatsOn_30 : decode cX3_coatsOn 30 = .ok (.ireturn, 1) := by decide +kernel
theorem dX3_ownerAt_0 : decode cX3_ownerAt 0 = .ok (.iconst 0, 1) := by decide +kernel
theorem dX3_ownerAt_1 : decode cX3_ownerAt 1 = .ok (.istore_n 3, 1) := by decide +kernel
theorem dX3_ownerAt_2 : decode cX3_ownerAt 2 = .ok (.iload_n 3, 1) := by decide +kernel
theorem dX3_ownerAt_3 : decode cX3_ownerAt 3 = .ok (.bipush 8, 2) := by decide +kernel
theorem dX3_ownerAt_5 : decode cX3_ownerAt 5 = .ok (.if_icmp .ge 31, 3) := by decide +kernel
theorem dX3_ownerAt_8 : decode cX3_ownerAt 8 = .ok (.aload_n 0, 1) := by decide +kernel
theorem dX3_ownerAt_9 : decode cX3_ownerAt 9 = .ok (.getfield 28, 3) := by decide +kernel
theorem dX3_ownerAt_12 : decode cX3_ownerAt 12 = .ok (.iload_n 3, 1) := by decide +kernel
theorem dX3_ownerAt_13 : decode cX3_ownerAt 13 = .ok (.iaload, 1) := by decide +kernel
theorem dX3_ownerAt_14 : decode cX3_ownerAt 14 = .ok (.iload_n 1, 1) := by decide +kernel
theorem dX3_ownerAt_15 : decode cX3_ownerAt 15 = .ok (.if_icmp .ne 15, 3) := by decide +kernel
theorem dX3_ownerAt_18 : decode cX3_ownerAt 18 = .ok (.aload_n 0, 1) := by decide +kernel
theorem dX3_ownerAt_19 : decode cX3_ownerAt 19 = .ok (.getfield 31, 3) := by decide +kernel
theorem dX3_ownerAt_22 : decode cX3_ownerAt 22 = .ok (.iload_n 3, 1) := by decide +kernel
theorem dX3_ownerAt_23 : decode cX3_ownerAt 23 = .ok (.iaload, 1) := by decide +kernel
theorem dX3_ownerAt_24 : decode cX3_ownerAt 24 = .ok (.iload_n 2, 1) := by decide +kernel
theorem dX3_ownerAt_25 : decode cX3_ownerAt 25 = .ok (.if_icmp .ne 5, 3) := by decide +kernel
theorem dX3_ownerAt_28 : decode cX3_ownerAt 28 = .ok (.iload_n 3, 1) := by decide +kernel
theorem dX3_ownerAt_29 : decode cX3_ownerAt 29 = .ok (.ireturn, 1) := by decide +kernel
theorem dX3_ownerAt_30 : decode cX3_ownerAt 30 = .ok (.iinc 3 1, 3) := by decide +kernel
theorem dX3_ownerAt_33 : decode cX3_ownerAt 33 = .ok (.goto (-31), 3) := by decide +kernel
theorem dX3_ownerAt_36 : decode cX3_ownerAt 36 = .ok (.iconst (-1), 1) := by decide +kernel
theorem dX3_ownerAt_37 : decode cX3_ownerAt 37 = .ok (.ireturn, 1) := by decide +kernel
set_option maxRecDepth 20000 in
theorem ggX3_claimantByQueue_X3_ownerAt : GoodIn wsX3_claimantByQueue wsX3_ownerAt := goodIn_ca (goodIn_r _ [5, 6, 7, 13, 14, 15, 16, 17, 18, 19, 20, 21, 22, 23, 24, 25, 26, 27] (by decide +kernel) (by decide +kernel)) (goodIn_sub (fun _ h => List.mem_cons_of_mem _ (List.mem_append_right _ h)) (by decide +kernel))
set_option maxRecDepth 20000 in
theorem gX3_claimantByQueue_X3_ownerAt : GoodIn wsX3_claimantByQueue (wsV RX3 107 RX3 yX3_ownerAt wsX3_ownerAt) := goodIn_app (goodIn_of _ (by decide +kernel)) ggX3_claimantByQueue_X3_ownerAt
set_option maxRecDepth 20000 in
theorem ggX3_claimantByQueue_X3_hatIsPlaced : GoodIn wsX3_claimantByQueue wsX3_hatIsPlaced := goodIn_ca (goodIn_r _ [11, 12, 13, 14, 15, 16, 17, 18, 19, 20, 21, 22, 23, 24, 25, 26, 27] (by decide +kernel) (by decide +kernel)) (goodIn_sub (fun _ h => List.mem_cons_of_mem _ (List.mem_append_right _ h)) (by decide +kernel))
set_option maxRecDepth 20000 in
theorem gX3_claimantByQueue_X3_hatIsPlaced : GoodIn wsX3_claimantByQueue (wsV RX3 72 RX3 yX3_hatIsPlaced wsX3_hatIsPlaced) := goodIn_app (goodIn_of _ (by decide +kernel)) ggX3_claimantByQueue_X3_hatIsPlaced
theorem dX3_claimantByQueue_0 : decode cX3_claimantByQueue 0 = .ok (.iconst 0, 1) := by decide +kernel
theorem dX3_claimantByQueue_1 : decode cX3_claimantByQueue 1 = .ok (.istore_n 2, 1) := by decide +kernel
theorem dX3_claimantByQueue_2 : decode cX3_claimantByQueue 2 = .ok (.iload_n 2, 1) := by decide +kernel
theorem dX3_claimantByQueue_3 : decode cX3_claimantByQueue 3 = .ok (.iconst 3, 1) := by decide +kernel
theorem dX3_claimantByQueue_4 : decode cX3_claimantByQueue 4 = .ok (.if_icmp .ge 31, 3) := by decide +kernel
theorem dX3_claimantByQueue_7 : decode cX3_claimantByQueue 7 = .ok (.aload_n 0, 1) := by decide +kernel
theorem dX3_claimantByQueue_8 : decode cX3_claimantByQueue 8 = .ok (.iload_n 1, 1) := by decide +kernel
theorem dX3_claimantByQueue_9 : decode cX3_claimantByQueue 9 = .ok (.iload_n 2, 1) := by decide +kernel
theorem dX3_claimantByQueue_10 : decode cX3_claimantByQueue 10 = .ok (.invokevirtual 107, 3) := by decide +kernel
theorem dX3_claimantByQueue_13 : decode cX3_claimantByQueue 13 = .ok (.istore_n 3, 1) := by decide +kernel
theorem dX3_claimantByQueue_14 : decode cX3_claimantByQueue 14 = .ok (.iload_n 3, 1) := by decide +kernel
theorem dX3_claimantByQueue_15 : decode cX3_claimantByQueue 15 = .ok (.iconst (-1), 1) := by decide +kernel
theorem dX3_claimantByQueue_16 : decode cX3_claimantByQueue 16 = .ok (.if_icmp .eq 13, 3) := by decide +kernel
theorem dX3_claimantByQueue_19 : decode cX3_claimantByQueue 19 = .ok (.aload_n 0, 1) := by decide +kernel
theorem dX3_claimantByQueue_20 : decode cX3_claimantByQueue 20 = .ok (.iload_n 3, 1) := by decide +kernel
theorem dX3_claimantByQueue_21 : decode cX3_claimantByQueue 21 = .ok (.invokevirtual 72, 3) := by decide +kernel
theorem dX3_claimantByQueue_24 : decode cX3_claimantByQueue 24 = .ok (.ifCond .ne 5, 3) := by decide +kernel
theorem dX3_claimantByQueue_27 : decode cX3_claimantByQueue 27 = .ok (.iload_n 3, 1) := by decide +kernel
theorem dX3_claimantByQueue_28 : decode cX3_claimantByQueue 28 = .ok (.ireturn, 1) := by decide +kernel
theorem dX3_claimantByQueue_29 : decode cX3_claimantByQueue 29 = .ok (.iinc 2 1, 3) := by decide +kernel
theorem dX3_claimantByQueue_32 : decode cX3_claimantByQueue 32 = .ok (.goto (-30), 3) := by decide +kernel
theorem dX3_claimantByQueue_35 : decode cX3_claimantByQueue 35 = .ok (.iconst (-1), 1) := by decide +kernel
theorem dX3_claimantByQueue_36 : decode cX3_claimantByQueue 36 = .ok (.ireturn, 1) := by decide +kernel
set_option maxRecDepth 20000 in
theorem ggX3_claimantByOrder_X3_hatIsPlaced : GoodIn wsX3_claimantByOrder wsX3_hatIsPlaced := goodIn_ca (goodIn_r _ [7, 8, 9, 10, 11, 12, 13, 14, 15, 16, 17, 18, 19, 20, 21, 22, 23] (by decide +kernel) (by decide +kernel)) (goodIn_sub (fun _ h => List.mem_cons_of_mem _ (List.mem_append_right _ h)) (by decide +kernel))
set_option maxRecDepth 20000 in
theorem gX3_claimantByOrder_X3_hatIsPlaced : GoodIn wsX3_claimantByOrder (wsV RX3 72 RX3 yX3_hatIsPlaced wsX3_hatIsPlaced) := goodIn_app (goodIn_of _ (by decide +kernel)) ggX3_claimantByOrder_X3_hatIsPlaced
theorem dX3_claimantByOrder_0 : decode cX3_claimantByOrder 0 = .ok (.iconst (-1), 1) := by decide +kernel
theorem dX3_claimantByOrder_1 : decode cX3_claimantByOrder 1 = .ok (.istore_n 2, 1) := by decide +kernel
theorem dX3_claimantByOrder_2 : decode cX3_claimantByOrder 2 = .ok (.iconst 0, 1) := by decide +kernel
theorem dX3_claimantByOrder_3 : decode cX3_claimantByOrder 3 = .ok (.istore_n 3, 1) := by decide +kernel
theorem dX3_claimantByOrder_4 : decode cX3_claimantByOrder 4 = .ok (.iload_n 3, 1) := by decide +kernel
theorem dX3_claimantByOrder_5 : decode cX3_claimantByOrder 5 = .ok (.bipush 8, 2) := by decide +kernel
theorem dX3_claimantByOrder_7 : decode cX3_claimantByOrder 7 = .ok (.if_icmp .ge 61, 3) := by decide +kernel
theorem dX3_claimantByOrder_10 : decode cX3_claimantByOrder 10 = .ok (.aload_n 0, 1) := by decide +kernel
theorem dX3_claimantByOrder_11 : decode cX3_claimantByOrder 11 = .ok (.getfield 28, 3) := by decide +kernel
theorem dX3_claimantByOrder_14 : decode cX3_claimantByOrder 14 = .ok (.iload_n 3, 1) := by decide +kernel
theorem dX3_claimantByOrder_15 : decode cX3_claimantByOrder 15 = .ok (.iaload, 1) := by decide +kernel
theorem dX3_claimantByOrder_16 : decode cX3_claimantByOrder 16 = .ok (.iload_n 1, 1) := by decide +kernel
theorem dX3_claimantByOrder_17 : decode cX3_claimantByOrder 17 = .ok (.if_icmp .ne 15, 3) := by decide +kernel
theorem dX3_claimantByOrder_20 : decode cX3_claimantByOrder 20 = .ok (.aload_n 0, 1) := by decide +kernel
theorem dX3_claimantByOrder_21 : decode cX3_claimantByOrder 21 = .ok (.iload_n 3, 1) := by decide +kernel
theorem dX3_claimantByOrder_22 : decode cX3_claimantByOrder 22 = .ok (.invokevirtual 72, 3) := by decide +kernel
theorem dX3_claimantByOrder_25 : decode cX3_claimantByOrder 25 = .ok (.ifCond .ne 7, 3) := by decide +kernel
theorem dX3_claimantByOrder_28 : decode cX3_claimantByOrder 28 = .ok (.iconst 1, 1) := by decide +kernel
theorem dX3_claimantByOrder_29 : decode cX3_claimantByOrder 29 = .ok (.goto 4, 3) := by decide +kernel
theorem dX3_claimantByOrder_32 : decode cX3_claimantByOrder 32 = .ok (.iconst 0, 1) := by decide +kernel
theorem dX3_claimantByOrder_33 : decode cX3_claimantByOrder 33 = .ok (.istore 4, 2) := by decide +kernel
theorem dX3_claimantByOrder_35 : decode cX3_claimantByOrder 35 = .ok (.iload 4, 2) := by decide +kernel
theorem dX3_claimantByOrder_37 : decode cX3_claimantByOrder 37 = .ok (.ifCond .eq 25, 3) := by decide +kernel
theorem dX3_claimantByOrder_40 : decode cX3_claimantByOrder 40 = .ok (.iload_n 2, 1) := by decide +kernel
theorem dX3_claimantByOrder_41 : decode cX3_claimantByOrder 41 = .ok (.iconst (-1), 1) := by decide +kernel
theorem dX3_claimantByOrder_42 : decode cX3_claimantByOrder 42 = .ok (.if_icmp .eq 18, 3) := by decide +kernel
theorem dX3_claimantByOrder_45 : decode cX3_claimantByOrder 45 = .ok (.aload_n 0, 1) := by decide +kernel
theorem dX3_claimantByOrder_46 : decode cX3_claimantByOrder 46 = .ok (.getfield 34, 3) := by decide +kernel
theorem dX3_claimantByOrder_49 : decode cX3_claimantByOrder 49 = .ok (.iload_n 3, 1) := by decide +kernel
theorem dX3_claimantByOrder_50 : decode cX3_claimantByOrder 50 = .ok (.iaload, 1) := by decide +kernel
theorem dX3_claimantByOrder_51 : decode cX3_claimantByOrder 51 = .ok (.aload_n 0, 1) := by decide +kernel
theorem dX3_claimantByOrder_52 : decode cX3_claimantByOrder 52 = .ok (.getfield 34, 3) := by decide +kernel
theorem dX3_claimantByOrder_55 : decode cX3_claimantByOrder 55 = .ok (.iload_n 2, 1) := by decide +kernel
theorem dX3_claimantByOrder_56 : decode cX3_claimantByOrder 56 = .ok (.iaload, 1) := by decide +kernel
theorem dX3_claimantByOrder_57 : decode cX3_claimantByOrder 57 = .ok (.if_icmp .ge 5, 3) := by decide +kernel
theorem dX3_claimantByOrder_60 : decode cX3_claimantByOrder 60 = .ok (.iload_n 3, 1) := by decide +kernel
theorem dX3_claimantByOrder_61 : decode cX3_claimantByOrder 61 = .ok (.istore_n 2, 1) := by decide +kernel
theorem dX3_claimantByOrder_62 : decode cX3_claimantByOrder 62 = .ok (.iinc 3 1, 3) := by decide +kernel
theorem dX3_claimantByOrder_65 : decode cX3_claimantByOrder 65 = .ok (.goto (-61), 3) := by decide +kernel
theorem dX3_claimantByOrder_68 : decode cX3_claimantByOrder 68 = .ok (.iload_n 2, 1) := by decide +kernel
theorem dX3_claimantByOrder_69 : decode cX3_claimantByOrder 69 = .ok (.ireturn, 1) := by decide +kernel
set_option maxRecDepth 20000 in
theorem ggX3_offerChairs_X3_covererAt : GoodIn wsX3_offerChairs wsX3_covererAt := goodIn_ca (goodIn_r _ [5, 6, 49, 50, 51, 52, 53, 54, 55, 56, 57, 58, 59, 60, 61, 62, 63] (by decide +kernel) (by decide +kernel)) (goodIn_sub (fun _ h => List.mem_cons_of_mem _ (List.mem_append_right _ h)) (by decide +kernel))
set_option maxRecDepth 20000 in
theorem gX3_offerChairs_X3_covererAt : GoodIn wsX3_offerChairs (wsV RX3 75 RX3 yX3_covererAt wsX3_covererAt) := goodIn_app (goodIn_of _ (by decide +kernel)) ggX3_offerChairs_X3_covererAt
set_option maxRecDepth 20000 in
theorem ggX3_offerChairs_X3_offerChair : GoodIn wsX3_offerChairs wsX3_offerChair := goodIn_ca (goodIn_r _ [10, 11, 12, 13, 14, 15, 4, 16, 17, 18, 19, 20, 21, 22, 23, 24, 25, 26, 27, 28, 29, 30, 31, 32, 33, 6, 34, 35, 36, 37, 38, 39, 40, 41, 42, 43, 44, 45, 46, 47, 48, 49, 50, 51, 52, 53, 54, 55, 56, 57, 58, 59, 60, 61, 62, 63] (by decide +kernel) (by decide +kernel)) (goodIn_sub (fun _ h => List.mem_cons_of_mem _ (List.mem_append_right _ h)) (by decide +kernel))
set_option maxRecDepth 20000 in
theorem gX3_offerChairs_X3_offerChair : GoodIn wsX3_offerChairs (wsV RX3 111 RX3 yX3_offerChair wsX3_offerChair) := goodIn_app (goodIn_of _ (by decide +kernel)) ggX3_offerChairs_X3_offerChair
theorem dX3_offerChairs_0 : decode cX3_offerChairs 0 = .ok (.iconst 0, 1) := by decide +kernel
theorem dX3_offerChairs_1 : decode cX3_offerChairs 1 = .ok (.istore_n 3, 1) := by decide +kernel
theorem dX3_offerChairs_2 : decode cX3_offerChairs 2 = .ok (.iload_n 3, 1) := by decide +kernel
theorem dX3_offerChairs_3 : decode cX3_offerChairs 3 = .ok (.bipush 40, 2) := by decide +kernel
theorem dX3_offerChairs_5 : decode cX3_offerChairs 5 = .ok (.if_icmp .ge 33, 3) := by decide +kernel
theorem dX3_offerChairs_8 : decode cX3_offerChairs 8 = .ok (.lload_n 1, 1) := by decide +kernel
theorem dX3_offerChairs_9 : decode cX3_offerChairs 9 = .ok (.iload_n 3, 1) := by decide +kernel
theorem dX3_offerChairs_10 : decode cX3_offerChairs 10 = .ok (.lushr, 1) := by decide +kernel
theorem dX3_offerChairs_11 : decode cX3_offerChairs 11 = .ok (.lconst 1, 1) := by decide +kernel
theorem dX3_offerChairs_12 : decode cX3_offerChairs 12 = .ok (.land, 1) := by decide +kernel
theorem dX3_offerChairs_13 : decode cX3_offerChairs 13 = .ok (.lconst 0, 1) := by decide +kernel
theorem dX3_offerChairs_14 : decode cX3_offerChairs 14 = .ok (.lcmp, 1) := by decide +kernel
theorem dX3_offerChairs_15 : decode cX3_offerChairs 15 = .ok (.ifCond .eq 17, 3) := by decide +kernel
theorem dX3_offerChairs_18 : decode cX3_offerChairs 18 = .ok (.aload_n 0, 1) := by decide +kernel
theorem dX3_offerChairs_19 : decode cX3_offerChairs 19 = .ok (.iload_n 3, 1) := by decide +kernel
theorem dX3_offerChairs_20 : decode cX3_offerChairs 20 = .ok (.invokevirtual 75, 3) := by decide +kernel
theorem dX3_offerChairs_23 : decode cX3_offerChairs 23 = .ok (.iconst (-1), 1) := by decide +kernel
theorem dX3_offerChairs_24 : decode cX3_offerChairs 24 = .ok (.if_icmp .ne 8, 3) := by decide +kernel
theorem dX3_offerChairs_27 : decode cX3_offerChairs 27 = .ok (.aload_n 0, 1) := by decide +kernel
theorem dX3_offerChairs_28 : decode cX3_offerChairs 28 = .ok (.iload_n 3, 1) := by decide +kernel
theorem dX3_offerChairs_29 : decode cX3_offerChairs 29 = .ok (.invokevirtual 111, 3) := by decide +kernel
theorem dX3_offerChairs_32 : decode cX3_offerChairs 32 = .ok (.iinc 3 1, 3) := by decide +kernel
theorem dX3_offerChairs_35 : decode cX3_offerChairs 35 = .ok (.goto (-33), 3) := by decide +kernel
theorem dX3_offerChairs_38 : decode cX3_offerChairs 38 = .ok (.return_, 1) := by decide +kernel
set_option maxRecDepth 20000 in
theorem ggX3_offerChair_X3_ownerAt : GoodIn wsX3_offerChair wsX3_ownerAt := goodIn_ca (goodIn_r _ [7, 8, 9, 41, 42, 43, 44, 45, 46, 47, 48, 49, 50, 51, 52, 53, 54, 55] (by decide +kernel) (by decide +kernel)) (goodIn_sub (fun _ h => List.mem_cons_of_mem _ (List.mem_append_right _ h)) (by decide +kernel))
set_option maxRecDepth 20000 in
theorem gX3_offerChair_X3_ownerAt : GoodIn wsX3_offerChair (wsV RX3 107 RX3 yX3_ownerAt wsX3_ownerAt) := goodIn_app (goodIn_of _ (by decide +kernel)) ggX3_offerChair_X3_ownerAt
set_option maxRecDepth 20000 in
theorem ggX3_offerChair_X3_pullCoat : GoodIn wsX3_offerChair wsX3_pullCoat := goodIn_ca (goodIn_r _ [13, 8, 9, 41, 42, 43, 44, 45, 46, 47, 48, 49, 50, 51, 52, 53, 54, 55] (by decide +kernel) (by decide +kernel)) (goodIn_sub (fun _ h => List.mem_cons_of_mem _ (List.mem_append_right _ h)) (by decide +kernel))
set_option maxRecDepth 20000 in
theorem gX3_offerChair_X3_pullCoat : GoodIn wsX3_offerChair (wsV RX3 115 RX3 yX3_pullCoat wsX3_pullCoat) := goodIn_app (goodIn_of _ (by decide +kernel)) ggX3_offerChair_X3_pullCoat
set_option maxRecDepth 20000 in
theorem ggX3_offerChair_X3_hatIsPlaced : GoodIn wsX3_offerChair wsX3_hatIsPlaced := goodIn_ca (goodIn_r _ [17, 18, 41, 42, 43, 44, 45, 46, 47, 48, 49, 50, 51, 52, 53, 54, 55] (by decide +kernel) (by decide +kernel)) (goodIn_sub (fun _ h => List.mem_cons_of_mem _ (List.mem_append_right _ h)) (by decide +kernel))
set_option maxRecDepth 20000 in
theorem gX3_offerChair_X3_hatIsPlaced : GoodIn wsX3_offerChair (wsV RX3 72 RX3 yX3_hatIsPlaced wsX3_hatIsPlaced) := goodIn_app (goodIn_of _ (by decide +kernel)) ggX3_offerChair_X3_hatIsPlaced
set_option maxRecDepth 20000 in
theorem ggX3_offerChair_X3_putHat : GoodIn wsX3_offerChair wsX3_putHat := goodIn_ca (goodIn_r _ [22, 18, 23, 24, 25, 26, 27, 28, 29, 6, 30, 31, 32, 33, 34, 35, 36, 37, 38, 39, 40, 41, 42, 43, 44, 45, 46, 47, 48, 49, 50, 51, 52, 53, 54, 55] (by decide +kernel) (by decide +kernel)) (goodIn_sub (fun _ h => List.mem_cons_of_mem _ (List.mem_append_right _ h)) (by decide +kernel))
set_option maxRecDepth 20000 in
theorem gX3_offerChair_X3_putHat : GoodIn wsX3_offerChair (wsV RX3 118 RX3 yX3_putHat wsX3_putHat) := goodIn_app (goodIn_of _ (by decide +kernel)) ggX3_offerChair_X3_putHat
theorem dX3_offerChair_0 : decode cX3_offerChair 0 = .ok (.iconst 0, 1) := by decide +kernel
theorem dX3_offerChair_1 : decode cX3_offerChair 1 = .ok (.istore_n 2, 1) := by decide +kernel
theorem dX3_offerChair_2 : decode cX3_offerChair 2 = .ok (.iload_n 2, 1) := by decide +kernel
theorem dX3_offerChair_3 : decode cX3_offerChair 3 = .ok (.iconst 3, 1) := by decide +kernel
theorem dX3_offerChair_4 : decode cX3_offerChair 4 = .ok (.if_icmp .ge 64, 3) := by decide +kernel
theorem dX3_offerChair_7 : decode cX3_offerChair 7 = .ok (.aload_n 0, 1) := by decide +kernel
theorem dX3_offerChair_8 : decode cX3_offerChair 8 = .ok (.iload_n 1, 1) := by decide +kernel
theorem dX3_offerChair_9 : decode cX3_offerChair 9 = .ok (.iconst 0, 1) := by decide +kernel
theorem dX3_offerChair_10 : decode cX3_offerChair 10 = .ok (.invokevirtual 107, 3) := by decide +kernel
theorem dX3_offerChair_13 : decode cX3_offerChair 13 = .ok (.istore_n 3, 1) := by decide +kernel
theorem dX3_offerChair_14 : decode cX3_offerChair 14 = .ok (.iload_n 3, 1) := by decide +kernel
theorem dX3_offerChair_15 : decode cX3_offerChair 15 = .ok (.iconst (-1), 1) := by decide +kernel
theorem dX3_offerChair_16 : decode cX3_offerChair 16 = .ok (.if_icmp .ne 4, 3) := by decide +kernel
theorem dX3_offerChair_19 : decode cX3_offerChair 19 = .ok (.return_, 1) := by decide +kernel
theorem dX3_offerChair_20 : decode cX3_offerChair 20 = .ok (.aload_n 0, 1) := by decide +kernel
theorem dX3_offerChair_21 : decode cX3_offerChair 21 = .ok (.iload_n 3, 1) := by decide +kernel
theorem dX3_offerChair_22 : decode cX3_offerChair 22 = .ok (.invokevirtual 115, 3) := by decide +kernel
theorem dX3_offerChair_25 : decode cX3_offerChair 25 = .ok (.pop, 1) := by decide +kernel
theorem dX3_offerChair_26 : decode cX3_offerChair 26 = .ok (.aload_n 0, 1) := by decide +kernel
theorem dX3_offerChair_27 : decode cX3_offerChair 27 = .ok (.iload_n 3, 1) := by decide +kernel
theorem dX3_offerChair_28 : decode cX3_offerChair 28 = .ok (.invokevirtual 72, 3) := by decide +kernel
theorem dX3_offerChair_31 : decode cX3_offerChair 31 = .ok (.ifCond .ne 21, 3) := by decide +kernel
theorem dX3_offerChair_34 : decode cX3_offerChair 34 = .ok (.aload_n 0, 1) := by decide +kernel
theorem dX3_offerChair_35 : decode cX3_offerChair 35 = .ok (.iload_n 3, 1) := by decide +kernel
theorem dX3_offerChair_36 : decode cX3_offerChair 36 = .ok (.iload_n 1, 1) := by decide +kernel
theorem dX3_offerChair_37 : decode cX3_offerChair 37 = .ok (.invokevirtual 118, 3) := by decide +kernel
theorem dX3_offerChair_40 : decode cX3_offerChair 40 = .ok (.pop, 1) := by decide +kernel
theorem dX3_offerChair_41 : decode cX3_offerChair 41 = .ok (.aload_n 0, 1) := by decide +kernel
theorem dX3_offerChair_42 : decode cX3_offerChair 42 = .ok (.dup, 1) := by decide +kernel
theorem dX3_offerChair_43 : decode cX3_offerChair 43 = .ok (.getfield 53, 3) := by decide +kernel
theorem dX3_offerChair_46 : decode cX3_offerChair 46 = .ok (.iconst 1, 1) := by decide +kernel
theorem dX3_offerChair_47 : decode cX3_offerChair 47 = .ok (.iadd, 1) := by decide +kernel
theorem dX3_offerChair_48 : decode cX3_offerChair 48 = .ok (.putfield 53, 3) := by decide +kernel
theorem dX3_offerChair_51 : decode cX3_offerChair 51 = .ok (.return_, 1) := by decide +kernel
theorem dX3_offerChair_52 : decode cX3_offerChair 52 = .ok (.aload_n 0, 1) := by decide +kernel
theorem dX3_offerChair_53 : decode cX3_offerChair 53 = .ok (.dup, 1) := by decide +kernel
theorem dX3_offerChair_54 : decode cX3_offerChair 54 = .ok (.getfield 50, 3) := by decide +kernel
theorem dX3_offerChair_57 : decode cX3_offerChair 57 = .ok (.iconst 1, 1) := by decide +kernel
theorem dX3_offerChair_58 : decode cX3_offerChair 58 = .ok (.iadd, 1) := by decide +kernel
theorem dX3_offerChair_59 : decode cX3_offerChair 59 = .ok (.putfield 50, 3) := by decide +kernel
theorem dX3_offerChair_62 : decode cX3_offerChair 62 = .ok (.iinc 2 1, 3) := by decide +kernel
theorem dX3_offerChair_65 : decode cX3_offerChair 65 = .ok (.goto (-63), 3) := by decide +kernel
theorem dX3_offerChair_68 : decode cX3_offerChair 68 = .ok (.return_, 1) := by decide +kernel
theorem dX3_isStronger_0 : decode cX3_isStronger 0 = .ok (.iload_n 2, 1) := by decide +kernel
theorem dX3_isStronger_1 : decode cX3_isStronger 1 = .ok (.iconst (-1), 1) := by decide +kernel
theorem dX3_isStronger_2 : decode cX3_isStronger 2 = .ok (.if_icmp .eq 22, 3) := by decide +kernel
theorem dX3_isStronger_5 : decode cX3_isStronger 5 = .ok (.aload_n 0, 1) := by decide +kernel
theorem dX3_isStronger_6 : decode cX3_isStronger 6 = .ok (.getfield 9, 3) := by decide +kernel
theorem dX3_isStronger_9 : decode cX3_isStronger 9 = .ok (.iload_n 1, 1) := by decide +kernel
theorem dX3_isStronger_10 : decode cX3_isStronger 10 = .ok (.iaload, 1) := by decide +kernel
theorem dX3_isStronger_11 : decode cX3_isStronger 11 = .ok (.aload_n 0, 1) := by decide +kernel
theorem dX3_isStronger_12 : decode cX3_isStronger 12 = .ok (.getfield 9, 3) := by decide +kernel
theorem dX3_isStronger_15 : decode cX3_isStronger 15 = .ok (.iload_n 2, 1) := by decide +kernel
theorem dX3_isStronger_16 : decode cX3_isStronger 16 = .ok (.iaload, 1) := by decide +kernel
theorem dX3_isStronger_17 : decode cX3_isStronger 17 = .ok (.if_icmp .le 7, 3) := by decide +kernel
theorem dX3_isStronger_20 : decode cX3_isStronger 20 = .ok (.iconst 1, 1) := by decide +kernel
theorem dX3_isStronger_21 : decode cX3_isStronger 21 = .ok (.goto 4, 3) := by decide +kernel
theorem dX3_isStronger_24 : decode cX3_isStronger 24 = .ok (.iconst 0, 1) := by decide +kernel
theorem dX3_isStronger_25 : decode cX3_isStronger 25 = .ok (.ireturn, 1) := by decide +kernel
set_option maxRecDepth 20000 in
theorem ggX3_fightFor_X3_covererAt : GoodIn wsX3_fightFor wsX3_covererAt := goodIn_ca (goodIn_r _ [11, 12, 72, 73, 74, 75, 76, 77, 78, 79, 80, 81, 82, 83, 84, 85, 86] (by decide +kernel) (by decide +kernel)) (goodIn_sub (fun _ h => List.mem_cons_of_mem _ (List.mem_append_right _ h)) (by decide +kernel))
set_option maxRecDepth 20000 in
theorem gX3_fightFor_X3_covererAt : GoodIn wsX3_fightFor (wsV RX3 75 RX3 yX3_covererAt wsX3_covererAt) := goodIn_app (goodIn_of _ (by decide +kernel)) ggX3_fightFor_X3_covererAt
set_option maxRecDepth 20000 in
theorem ggX3_fightFor_X3_isStronger : GoodIn wsX3_fightFor wsX3_isStronger := goodIn_ca (goodIn_r _ [16, 1, 72, 73, 74, 75, 76, 77, 78, 79, 80, 81, 82, 83, 84, 85, 86] (by decide +kernel) (by decide +kernel)) (goodIn_sub (fun _ h => List.mem_cons_of_mem _ (List.mem_append_right _ h)) (by decide +kernel))
set_option maxRecDepth 20000 in
theorem gX3_fightFor_X3_isStronger : GoodIn wsX3_fightFor (wsV RX3 121 RX3 yX3_isStronger wsX3_isStronger) := goodIn_app (goodIn_of _ (by decide +kernel)) ggX3_fightFor_X3_isStronger
set_option maxRecDepth 20000 in
theorem ggX3_fightFor_X3_loseChair : GoodIn wsX3_fightFor wsX3_loseChair := goodIn_ca (goodIn_r _ [20, 21, 22, 12, 23, 24, 25, 10, 26, 72, 73, 74, 75, 76, 77, 78, 79, 80, 81, 82, 83, 84, 85, 86] (by decide +kernel) (by decide +kernel)) (goodIn_sub (fun _ h => List.mem_cons_of_mem _ (List.mem_append_right _ h)) (by decide +kernel))
set_option maxRecDepth 20000 in
theorem gX3_fightFor_X3_loseChair : GoodIn wsX3_fightFor (wsV RX3 130 RX3 yX3_loseChair wsX3_loseChair) := goodIn_app (goodIn_of _ (by decide +kernel)) ggX3_fightFor_X3_loseChair
set_option maxRecDepth 20000 in
theorem ggX3_fightFor_X3_putHat : GoodIn wsX3_fightFor wsX3_putHat := goodIn_ca (goodIn_r _ [30, 21, 31, 32, 12, 33, 34, 35, 36, 10, 37, 38, 39, 40, 41, 42, 43, 44, 45, 46, 47, 72, 73, 74, 75, 76, 77, 78, 79, 80, 81, 82, 83, 84, 85, 86] (by decide +kernel) (by decide +kernel)) (goodIn_sub (fun _ h => List.mem_cons_of_mem _ (List.mem_append_right _ h)) (by decide +kernel))
set_option maxRecDepth 20000 in
theorem gX3_fightFor_X3_putHat : GoodIn wsX3_fightFor (wsV RX3 118 RX3 yX3_putHat wsX3_putHat) := goodIn_app (goodIn_of _ (by decide +kernel)) ggX3_fightFor_X3_putHat
set_option maxRecDepth 20000 in
theorem ggX3_fightFor_X3_offerChairs : GoodIn wsX3_fightFor wsX3_offerChairs := goodIn_ca (goodIn_r _ [51, 7, 8, 9, 10, 11, 12, 52, 53, 54, 55, 56, 57, 58, 59, 60, 61, 62, 63, 64, 65, 66, 67, 68, 69, 70, 71, 21, 27, 28, 29, 30, 31, 32, 33, 34, 35, 36, 37, 38, 39, 40, 41, 42, 43, 44, 45, 46, 47, 72, 73, 74, 75, 76, 77, 78, 79, 80, 81, 82, 83, 84, 85, 86] (by decide +kernel) (by decide +kernel)) (goodIn_sub (fun _ h => List.mem_cons_of_mem _ (List.mem_append_right _ h)) (by decide +kernel))
set_option maxRecDepth 20000 in
theorem gX3_fightFor_X3_offerChairs : GoodIn wsX3_fightFor (wsV RX3 103 RX3 yX3_offerChairs wsX3_offerChairs) := goodIn_app (goodIn_of _ (by decide +kernel)) ggX3_fightFor_X3_offerChairs
theorem dX3_fightFor_0 : decode cX3_fightFor 0 = .ok (.aload_n 0, 1) := by decide +kernel
theorem dX3_fightFor_1 : decode cX3_fightFor 1 = .ok (.iload_n 2, 1) := by decide +kernel
theorem dX3_fightFor_2 : decode cX3_fightFor 2 = .ok (.invokevirtual 75, 3) := by decide +kernel
theorem dX3_fightFor_5 : decode cX3_fightFor 5 = .ok (.istore_n 3, 1) := by decide +kernel
theorem dX3_fightFor_6 : decode cX3_fightFor 6 = .ok (.aload_n 0, 1) := by decide +kernel
theorem dX3_fightFor_7 : decode cX3_fightFor 7 = .ok (.iload_n 1, 1) := by decide +kernel
theorem dX3_fightFor_8 : decode cX3_fightFor 8 = .ok (.iload_n 3, 1) := by decide +kernel
theorem dX3_fightFor_9 : decode cX3_fightFor 9 = .ok (.invokevirtual 121, 3) := by decide +kernel
theorem dX3_fightFor_12 : decode cX3_fightFor 12 = .ok (.ifCond .ne 23, 3) := by decide +kernel
theorem dX3_fightFor_15 : decode cX3_fightFor 15 = .ok (.aload_n 0, 1) := by decide +kernel
theorem dX3_fightFor_16 : decode cX3_fightFor 16 = .ok (.getfield 9, 3) := by decide +kernel
theorem dX3_fightFor_19 : decode cX3_fightFor 19 = .ok (.iload_n 1, 1) := by decide +kernel
theorem dX3_fightFor_20 : decode cX3_fightFor 20 = .ok (.iconst 0, 1) := by decide +kernel
theorem dX3_fightFor_21 : decode cX3_fightFor 21 = .ok (.aload_n 0, 1) := by decide +kernel
theorem dX3_fightFor_22 : decode cX3_fightFor 22 = .ok (.getfield 9, 3) := by decide +kernel
theorem dX3_fightFor_25 : decode cX3_fightFor 25 = .ok (.iload_n 1, 1) := by decide +kernel
theorem dX3_fightFor_26 : decode cX3_fightFor 26 = .ok (.iaload, 1) := by decide +kernel
theorem dX3_fightFor_27 : decode cX3_fightFor 27 = .ok (.iconst 1, 1) := by decide +kernel
theorem dX3_fightFor_28 : decode cX3_fightFor 28 = .ok (.isub, 1) := by decide +kernel
theorem dX3_fightFor_29 : decode cX3_fightFor 29 = .ok (.invokestatic 125, 3) := by decide +kernel
theorem dX3_fightFor_32 : decode cX3_fightFor 32 = .ok (.iastore, 1) := by decide +kernel
theorem dX3_fightFor_33 : decode cX3_fightFor 33 = .ok (.iconst 0, 1) := by decide +kernel
theorem dX3_fightFor_34 : decode cX3_fightFor 34 = .ok (.ireturn, 1) := by decide +kernel
theorem dX3_fightFor_35 : decode cX3_fightFor 35 = .ok (.aload_n 0, 1) := by decide +kernel
theorem dX3_fightFor_36 : decode cX3_fightFor 36 = .ok (.getfield 9, 3) := by decide +kernel
theorem dX3_fightFor_39 : decode cX3_fightFor 39 = .ok (.iload_n 1, 1) := by decide +kernel
theorem dX3_fightFor_40 : decode cX3_fightFor 40 = .ok (.dup2, 1) := by decide +kernel
theorem dX3_fightFor_41 : decode cX3_fightFor 41 = .ok (.iaload, 1) := by decide +kernel
theorem dX3_fightFor_42 : decode cX3_fightFor 42 = .ok (.aload_n 0, 1) := by decide +kernel
theorem dX3_fightFor_43 : decode cX3_fightFor 43 = .ok (.getfield 9, 3) := by decide +kernel
theorem dX3_fightFor_46 : decode cX3_fightFor 46 = .ok (.iload_n 3, 1) := by decide +kernel
theorem dX3_fightFor_47 : decode cX3_fightFor 47 = .ok (.iaload, 1) := by decide +kernel
theorem dX3_fightFor_48 : decode cX3_fightFor 48 = .ok (.isub, 1) := by decide +kernel
theorem dX3_fightFor_49 : decode cX3_fightFor 49 = .ok (.iastore, 1) := by decide +kernel
theorem dX3_fightFor_50 : decode cX3_fightFor 50 = .ok (.aload_n 0, 1) := by decide +kernel
theorem dX3_fightFor_51 : decode cX3_fightFor 51 = .ok (.iload_n 3, 1) := by decide +kernel
theorem dX3_fightFor_52 : decode cX3_fightFor 52 = .ok (.iload_n 2, 1) := by decide +kernel
theorem dX3_fightFor_53 : decode cX3_fightFor 53 = .ok (.invokevirtual 130, 3) := by decide +kernel
theorem dX3_fightFor_56 : decode cX3_fightFor 56 = .ok (.lstore 4, 2) := by decide +kernel
theorem dX3_fightFor_58 : decode cX3_fightFor 58 = .ok (.aload_n 0, 1) := by decide +kernel
theorem dX3_fightFor_59 : decode cX3_fightFor 59 = .ok (.iload_n 1, 1) := by decide +kernel
theorem dX3_fightFor_60 : decode cX3_fightFor 60 = .ok (.iload_n 2, 1) := by decide +kernel
theorem dX3_fightFor_61 : decode cX3_fightFor 61 = .ok (.invokevirtual 118, 3) := by decide +kernel
theorem dX3_fightFor_64 : decode cX3_fightFor 64 = .ok (.pop, 1) := by decide +kernel
theorem dX3_fightFor_65 : decode cX3_fightFor 65 = .ok (.aload_n 0, 1) := by decide +kernel
theorem dX3_fightFor_66 : decode cX3_fightFor 66 = .ok (.dup, 1) := by decide +kernel
theorem dX3_fightFor_67 : decode cX3_fightFor 67 = .ok (.getfield 56, 3) := by decide +kernel
theorem dX3_fightFor_70 : decode cX3_fightFor 70 = .ok (.iconst 1, 1) := by decide +kernel
theorem dX3_fightFor_71 : decode cX3_fightFor 71 = .ok (.iadd, 1) := by decide +kernel
theorem dX3_fightFor_72 : decode cX3_fightFor 72 = .ok (.putfield 56, 3) := by decide +kernel
theorem dX3_fightFor_75 : decode cX3_fightFor 75 = .ok (.aload_n 0, 1) := by decide +kernel
theorem dX3_fightFor_76 : decode cX3_fightFor 76 = .ok (.lload 4, 2) := by decide +kernel
theorem dX3_fightFor_78 : decode cX3_fightFor 78 = .ok (.invokevirtual 103, 3) := by decide +kernel
theorem dX3_fightFor_81 : decode cX3_fightFor 81 = .ok (.iconst 1, 1) := by decide +kernel
theorem dX3_fightFor_82 : decode cX3_fightFor 82 = .ok (.ireturn, 1) := by decide +kernel
set_option maxRecDepth 20000 in
theorem ggX3_loseChair_X3_liftHat : GoodIn wsX3_loseChair wsX3_liftHat := goodIn_ca (goodIn_r _ [8, 3, 1, 9, 10, 11, 12, 13, 14, 15, 16, 17, 18, 19, 20, 21, 22, 23] (by decide +kernel) (by decide +kernel)) (goodIn_sub (fun _ h => List.mem_cons_of_mem _ (List.mem_append_right _ h)) (by decide +kernel))
set_option maxRecDepth 20000 in
theorem gX3_loseChair_X3_liftHat : GoodIn wsX3_loseChair (wsV RX3 99 RX3 yX3_liftHat wsX3_liftHat) := goodIn_app (goodIn_of _ (by decide +kernel)) ggX3_loseChair_X3_liftHat
theorem dX3_loseChair_0 : decode cX3_loseChair 0 = .ok (.aload_n 0, 1) := by decide +kernel
theorem dX3_loseChair_1 : decode cX3_loseChair 1 = .ok (.getfield 18, 3) := by decide +kernel
theorem dX3_loseChair_4 : decode cX3_loseChair 4 = .ok (.iload_n 1, 1) := by decide +kernel
theorem dX3_loseChair_5 : decode cX3_loseChair 5 = .ok (.iaload, 1) := by decide +kernel
theorem dX3_loseChair_6 : decode cX3_loseChair 6 = .ok (.istore_n 3, 1) := by decide +kernel
theorem dX3_loseChair_7 : decode cX3_loseChair 7 = .ok (.iload_n 3, 1) := by decide +kernel
theorem dX3_loseChair_8 : decode cX3_loseChair 8 = .ok (.iload_n 2, 1) := by decide +kernel
theorem dX3_loseChair_9 : decode cX3_loseChair 9 = .ok (.if_icmp .ne 9, 3) := by decide +kernel
theorem dX3_loseChair_12 : decode cX3_loseChair 12 = .ok (.aload_n 0, 1) := by decide +kernel
theorem dX3_loseChair_13 : decode cX3_loseChair 13 = .ok (.iload_n 1, 1) := by decide +kernel
theorem dX3_loseChair_14 : decode cX3_loseChair 14 = .ok (.invokevirtual 99, 3) := by decide +kernel
theorem dX3_loseChair_17 : decode cX3_loseChair 17 = .ok (.lreturn, 1) := by decide +kernel
theorem dX3_loseChair_18 : decode cX3_loseChair 18 = .ok (.lconst 1, 1) := by decide +kernel
theorem dX3_loseChair_19 : decode cX3_loseChair 19 = .ok (.iload_n 2, 1) := by decide +kernel
theorem dX3_loseChair_20 : decode cX3_loseChair 20 = .ok (.lshl, 1) := by decide +kernel
theorem dX3_loseChair_21 : decode cX3_loseChair 21 = .ok (.lstore 4, 2) := by decide +kernel
theorem dX3_loseChair_23 : decode cX3_loseChair 23 = .ok (.lload 4, 2) := by decide +kernel
theorem dX3_loseChair_25 : decode cX3_loseChair 25 = .ok (.lconst 1, 1) := by decide +kernel
theorem dX3_loseChair_26 : decode cX3_loseChair 26 = .ok (.lsub, 1) := by decide +kernel
theorem dX3_loseChair_27 : decode cX3_loseChair 27 = .ok (.lstore 6, 2) := by decide +kernel
theorem dX3_loseChair_29 : decode cX3_loseChair 29 = .ok (.iload_n 2, 1) := by decide +kernel
theorem dX3_loseChair_30 : decode cX3_loseChair 30 = .ok (.iload_n 3, 1) := by decide +kernel
theorem dX3_loseChair_31 : decode cX3_loseChair 31 = .ok (.if_icmp .ge 11, 3) := by decide +kernel
theorem dX3_loseChair_34 : decode cX3_loseChair 34 = .ok (.lload 6, 2) := by decide +kernel
theorem dX3_loseChair_36 : decode cX3_loseChair 36 = .ok (.lload 4, 2) := by decide +kernel
theorem dX3_loseChair_38 : decode cX3_loseChair 38 = .ok (.lor, 1) := by decide +kernel
theorem dX3_loseChair_39 : decode cX3_loseChair 39 = .ok (.goto 9, 3) := by decide +kernel
theorem dX3_loseChair_42 : decode cX3_loseChair 42 = .ok (.lload 6, 2) := by decide +kernel
theorem dX3_loseChair_44 : decode cX3_loseChair 44 = .ok (.ldc2_w 134, 3) := by decide +kernel
theorem dX3_loseChair_47 : decode cX3_loseChair 47 = .ok (.lxor, 1) := by decide +kernel
theorem dX3_loseChair_48 : decode cX3_loseChair 48 = .ok (.lstore 8, 2) := by decide +kernel
theorem dX3_loseChair_50 : decode cX3_loseChair 50 = .ok (.aload_n 0, 1) := by decide +kernel
theorem dX3_loseChair_51 : decode cX3_loseChair 51 = .ok (.getfield 24, 3) := by decide +kernel
theorem dX3_loseChair_54 : decode cX3_loseChair 54 = .ok (.iload_n 1, 1) := by decide +kernel
theorem dX3_loseChair_55 : decode cX3_loseChair 55 = .ok (.laload, 1) := by decide +kernel
theorem dX3_loseChair_56 : decode cX3_loseChair 56 = .ok (.lload 8, 2) := by decide +kernel
theorem dX3_loseChair_58 : decode cX3_loseChair 58 = .ok (.land, 1) := by decide +kernel
theorem dX3_loseChair_59 : decode cX3_loseChair 59 = .ok (.lstore 10, 2) := by decide +kernel
theorem dX3_loseChair_61 : decode cX3_loseChair 61 = .ok (.aload_n 0, 1) := by decide +kernel
theorem dX3_loseChair_62 : decode cX3_loseChair 62 = .ok (.getfield 24, 3) := by decide +kernel
theorem dX3_loseChair_65 : decode cX3_loseChair 65 = .ok (.iload_n 1, 1) := by decide +kernel
theorem dX3_loseChair_66 : decode cX3_loseChair 66 = .ok (.dup2, 1) := by decide +kernel
theorem dX3_loseChair_67 : decode cX3_loseChair 67 = .ok (.laload, 1) := by decide +kernel
theorem dX3_loseChair_68 : decode cX3_loseChair 68 = .ok (.lload 8, 2) := by decide +kernel
theorem dX3_loseChair_70 : decode cX3_loseChair 70 = .ok (.ldc2_w 134, 3) := by decide +kernel
theorem dX3_loseChair_73 : decode cX3_loseChair 73 = .ok (.lxor, 1) := by decide +kernel
theorem dX3_loseChair_74 : decode cX3_loseChair 74 = .ok (.land, 1) := by decide +kernel
theorem dX3_loseChair_75 : decode cX3_loseChair 75 = .ok (.lastore, 1) := by decide +kernel
theorem dX3_loseChair_76 : decode cX3_loseChair 76 = .ok (.lload 10, 2) := by decide +kernel
theorem dX3_loseChair_78 : decode cX3_loseChair 78 = .ok (.lreturn, 1) := by decide +kernel
theorem dX3_letPass_0 : decode cX3_letPass 0 = .ok (.aload_n 0, 1) := by decide +kernel
theorem dX3_letPass_1 : decode cX3_letPass 1 = .ok (.dup, 1) := by decide +kernel
theorem dX3_letPass_2 : decode cX3_letPass 2 = .ok (.getfield 44, 3) := by decide +kernel
theorem dX3_letPass_5 : decode cX3_letPass 5 = .ok (.iload_n 1, 1) := by decide +kernel
theorem dX3_letPass_6 : decode cX3_letPass 6 = .ok (.iadd, 1) := by decide +kernel
theorem dX3_letPass_7 : decode cX3_letPass 7 = .ok (.putfield 44, 3) := by decide +kernel
theorem dX3_letPass_10 : decode cX3_letPass 10 = .ok (.aload_n 0, 1) := by decide +kernel
theorem dX3_letPass_11 : decode cX3_letPass 11 = .ok (.getfield 44, 3) := by decide +kernel
theorem dX3_letPass_14 : decode cX3_letPass 14 = .ok (.ireturn, 1) := by decide +kernel
set_option maxRecDepth 20000 in
theorem ggX3_sweepHats_X3_hatIsPlaced : GoodIn wsX3_sweepHats wsX3_hatIsPlaced := goodIn_ca (goodIn_r _ [6, 7, 62, 63, 64, 65, 66, 67, 68, 69, 70, 71, 72, 73, 74, 75, 76] (by decide +kernel) (by decide +kernel)) (goodIn_sub (fun _ h => List.mem_cons_of_mem _ (List.mem_append_right _ h)) (by decide +kernel))
set_option maxRecDepth 20000 in
theorem gX3_sweepHats_X3_hatIsPlaced : GoodIn wsX3_sweepHats (wsV RX3 72 RX3 yX3_hatIsPlaced wsX3_hatIsPlaced) := goodIn_app (goodIn_of _ (by decide +kernel)) ggX3_sweepHats_X3_hatIsPlaced
set_option maxRecDepth 20000 in
theorem ggX3_sweepHats_X3_idleTime : GoodIn wsX3_sweepHats wsX3_idleTime := goodIn_ca (goodIn_r _ [11, 12, 13, 62, 63, 64, 65, 66, 67, 68, 69, 70, 71, 72, 73, 74, 75, 76] (by decide +kernel) (by decide +kernel)) (goodIn_sub (fun _ h => List.mem_cons_of_mem _ (List.mem_append_right _ h)) (by decide +kernel))
set_option maxRecDepth 20000 in
theorem gX3_sweepHats_X3_idleTime : GoodIn wsX3_sweepHats (wsV RX3 88 RX3 yX3_idleTime wsX3_idleTime) := goodIn_app (goodIn_of _ (by decide +kernel)) ggX3_sweepHats_X3_idleTime
set_option maxRecDepth 20000 in
theorem ggX3_sweepHats_X3_liftHat : GoodIn wsX3_sweepHats wsX3_liftHat := goodIn_ca (goodIn_r _ [17, 18, 7, 62, 63, 64, 65, 66, 67, 68, 69, 70, 71, 72, 73, 74, 75, 76] (by decide +kernel) (by decide +kernel)) (goodIn_sub (fun _ h => List.mem_cons_of_mem _ (List.mem_append_right _ h)) (by decide +kernel))
set_option maxRecDepth 20000 in
theorem gX3_sweepHats_X3_liftHat : GoodIn wsX3_sweepHats (wsV RX3 99 RX3 yX3_liftHat wsX3_liftHat) := goodIn_app (goodIn_of _ (by decide +kernel)) ggX3_sweepHats_X3_liftHat
set_option maxRecDepth 20000 in
theorem ggX3_sweepHats_X3_offerChairs : GoodIn wsX3_sweepHats wsX3_offerChairs := goodIn_ca (goodIn_r _ [22, 23, 24, 25, 5, 26, 18, 27, 28, 29, 30, 31, 32, 33, 34, 35, 36, 37, 38, 39, 40, 41, 42, 2, 3, 4, 6, 7, 43, 44, 45, 46, 13, 12, 47, 48, 49, 50, 51, 52, 53, 54, 55, 56, 57, 58, 59, 60, 61, 62, 63, 64, 65, 66, 67, 68, 69, 70, 71, 72, 73, 74, 75, 76] (by decide +kernel) (by decide +kernel)) (goodIn_sub (fun _ h => List.mem_cons_of_mem _ (List.mem_append_right _ h)) (by decide +kernel))
set_option maxRecDepth 20000 in
theorem gX3_sweepHats_X3_offerChairs : GoodIn wsX3_sweepHats (wsV RX3 103 RX3 yX3_offerChairs wsX3_offerChairs) := goodIn_app (goodIn_of _ (by decide +kernel)) ggX3_sweepHats_X3_offerChairs
theorem dX3_sweepHats_0 : decode cX3_sweepHats 0 = .ok (.lconst 0, 1) := by decide +kernel
theorem dX3_sweepHats_1 : decode cX3_sweepHats 1 = .ok (.lstore_n 2, 1) := by decide +kernel
theorem dX3_sweepHats_2 : decode cX3_sweepHats 2 = .ok (.iconst 0, 1) := by decide +kernel
theorem dX3_sweepHats_3 : decode cX3_sweepHats 3 = .ok (.istore 4, 2) := by decide +kernel
theorem dX3_sweepHats_5 : decode cX3_sweepHats 5 = .ok (.iconst 0, 1) := by decide +kernel
theorem dX3_sweepHats_6 : decode cX3_sweepHats 6 = .ok (.istore 5, 2) := by decide +kernel
theorem dX3_sweepHats_8 : decode cX3_sweepHats 8 = .ok (.iload 5, 2) := by decide +kernel
theorem dX3_sweepHats_10 : decode cX3_sweepHats 10 = .ok (.bipush 8, 2) := by decide +kernel
theorem dX3_sweepHats_12 : decode cX3_sweepHats 12 = .ok (.if_icmp .ge 40, 3) := by decide +kernel
theorem dX3_sweepHats_15 : decode cX3_sweepHats 15 = .ok (.aload_n 0, 1) := by decide +kernel
theorem dX3_sweepHats_16 : decode cX3_sweepHats 16 = .ok (.iload 5, 2) := by decide +kernel
theorem dX3_sweepHats_18 : decode cX3_sweepHats 18 = .ok (.invokevirtual 72, 3) := by decide +kernel
theorem dX3_sweepHats_21 : decode cX3_sweepHats 21 = .ok (.ifCond .eq 25, 3) := by decide +kernel
theorem dX3_sweepHats_24 : decode cX3_sweepHats 24 = .ok (.aload_n 0, 1) := by decide +kernel
theorem dX3_sweepHats_25 : decode cX3_sweepHats 25 = .ok (.iload 5, 2) := by decide +kernel
theorem dX3_sweepHats_27 : decode cX3_sweepHats 27 = .ok (.invokevirtual 88, 3) := by decide +kernel
theorem dX3_sweepHats_30 : decode cX3_sweepHats 30 = .ok (.iload_n 1, 1) := by decide +kernel
theorem dX3_sweepHats_31 : decode cX3_sweepHats 31 = .ok (.if_icmp .lt 15, 3) := by decide +kernel
theorem dX3_sweepHats_34 : decode cX3_sweepHats 34 = .ok (.lload_n 2, 1) := by decide +kernel
theorem dX3_sweepHats_35 : decode cX3_sweepHats 35 = .ok (.aload_n 0, 1) := by decide +kernel
theorem dX3_sweepHats_36 : decode cX3_sweepHats 36 = .ok (.iload 5, 2) := by decide +kernel
theorem dX3_sweepHats_38 : decode cX3_sweepHats 38 = .ok (.invokevirtual 99, 3) := by decide +kernel
theorem dX3_sweepHats_41 : decode cX3_sweepHats 41 = .ok (.lor, 1) := by decide +kernel
theorem dX3_sweepHats_42 : decode cX3_sweepHats 42 = .ok (.lstore_n 2, 1) := by decide +kernel
theorem dX3_sweepHats_43 : decode cX3_sweepHats 43 = .ok (.iinc 4 1, 3) := by decide +kernel
theorem dX3_sweepHats_46 : decode cX3_sweepHats 46 = .ok (.iinc 5 1, 3) := by decide +kernel
theorem dX3_sweepHats_49 : decode cX3_sweepHats 49 = .ok (.goto (-41), 3) := by decide +kernel
theorem dX3_sweepHats_52 : decode cX3_sweepHats 52 = .ok (.aload_n 0, 1) := by decide +kernel
theorem dX3_sweepHats_53 : decode cX3_sweepHats 53 = .ok (.dup, 1) := by decide +kernel
theorem dX3_sweepHats_54 : decode cX3_sweepHats 54 = .ok (.getfield 47, 3) := by decide +kernel
theorem dX3_sweepHats_57 : decode cX3_sweepHats 57 = .ok (.iload 4, 2) := by decide +kernel
theorem dX3_sweepHats_59 : decode cX3_sweepHats 59 = .ok (.iadd, 1) := by decide +kernel
theorem dX3_sweepHats_60 : decode cX3_sweepHats 60 = .ok (.putfield 47, 3) := by decide +kernel
theorem dX3_sweepHats_63 : decode cX3_sweepHats 63 = .ok (.aload_n 0, 1) := by decide +kernel
theorem dX3_sweepHats_64 : decode cX3_sweepHats 64 = .ok (.lload_n 2, 1) := by decide +kernel
theorem dX3_sweepHats_65 : decode cX3_sweepHats 65 = .ok (.invokevirtual 103, 3) := by decide +kernel
theorem dX3_sweepHats_68 : decode cX3_sweepHats 68 = .ok (.iload 4, 2) := by decide +kernel
theorem dX3_sweepHats_70 : decode cX3_sweepHats 70 = .ok (.ireturn, 1) := by decide +kernel
set_option maxRecDepth 20000 in
theorem ggX3_idlest_X3_hatIsPlaced : GoodIn wsX3_idlest wsX3_hatIsPlaced := goodIn_ca (goodIn_r _ [5, 6, 13, 14, 15, 16, 17, 18, 19, 20, 21, 22, 23, 24, 25, 26, 27] (by decide +kernel) (by decide +kernel)) (goodIn_sub (fun _ h => List.mem_cons_of_mem _ (List.mem_append_right _ h)) (by decide +kernel))
set_option maxRecDepth 20000 in
theorem gX3_idlest_X3_hatIsPlaced : GoodIn wsX3_idlest (wsV RX3 72 RX3 yX3_hatIsPlaced wsX3_hatIsPlaced) := goodIn_app (goodIn_of _ (by decide +kernel)) ggX3_idlest_X3_hatIsPlaced
set_option maxRecDepth 20000 in
theorem ggX3_idlest_X3_idleTime : GoodIn wsX3_idlest wsX3_idleTime := goodIn_ca (goodIn_r _ [10, 11, 12, 13, 14, 15, 16, 17, 18, 19, 20, 21, 22, 23, 24, 25, 26, 27] (by decide +kernel) (by decide +kernel)) (goodIn_sub (fun _ h => List.mem_cons_of_mem _ (List.mem_append_right _ h)) (by decide +kernel))
set_option maxRecDepth 20000 in
theorem gX3_idlest_X3_idleTime : GoodIn wsX3_idlest (wsV RX3 88 RX3 yX3_idleTime wsX3_idleTime) := goodIn_app (goodIn_of _ (by decide +kernel)) ggX3_idlest_X3_idleTime
theorem dX3_idlest_0 : decode cX3_idlest 0 = .ok (.iconst (-1), 1) := by decide +kernel
theorem dX3_idlest_1 : decode cX3_idlest 1 = .ok (.istore_n 1, 1) := by decide +kernel
theorem dX3_idlest_2 : decode cX3_idlest 2 = .ok (.iconst 0, 1) := by decide +kernel
theorem dX3_idlest_3 : decode cX3_idlest 3 = .ok (.istore_n 2, 1) := by decide +kernel
theorem dX3_idlest_4 : decode cX3_idlest 4 = .ok (.iload_n 2, 1) := by decide +kernel
theorem dX3_idlest_5 : decode cX3_idlest 5 = .ok (.bipush 8, 2) := by decide +kernel
theorem dX3_idlest_7 : decode cX3_idlest 7 = .ok (.if_icmp .ge 37, 3) := by decide +kernel
theorem dX3_idlest_10 : decode cX3_idlest 10 = .ok (.aload_n 0, 1) := by decide +kernel
theorem dX3_idlest_11 : decode cX3_idlest 11 = .ok (.iload_n 2, 1) := by decide +kernel
theorem dX3_idlest_12 : decode cX3_idlest 12 = .ok (.invokevirtual 72, 3) := by decide +kernel
theorem dX3_idlest_15 : decode cX3_idlest 15 = .ok (.ifCond .eq 23, 3) := by decide +kernel
theorem dX3_idlest_18 : decode cX3_idlest 18 = .ok (.iload_n 1, 1) := by decide +kernel
theorem dX3_idlest_19 : decode cX3_idlest 19 = .ok (.iconst (-1), 1) := by decide +kernel
theorem dX3_idlest_20 : decode cX3_idlest 20 = .ok (.if_icmp .eq 16, 3) := by decide +kernel
theorem dX3_idlest_23 : decode cX3_idlest 23 = .ok (.aload_n 0, 1) := by decide +kernel
theorem dX3_idlest_24 : decode cX3_idlest 24 = .ok (.iload_n 2, 1) := by decide +kernel
theorem dX3_idlest_25 : decode cX3_idlest 25 = .ok (.invokevirtual 88, 3) := by decide +kernel
theorem dX3_idlest_28 : decode cX3_idlest 28 = .ok (.aload_n 0, 1) := by decide +kernel
theorem dX3_idlest_29 : decode cX3_idlest 29 = .ok (.iload_n 1, 1) := by decide +kernel
theorem dX3_idlest_30 : decode cX3_idlest 30 = .ok (.invokevirtual 88, 3) := by decide +kernel
theorem dX3_idlest_33 : decode cX3_idlest 33 = .ok (.if_icmp .le 5, 3) := by decide +kernel
theorem dX3_idlest_36 : decode cX3_idlest 36 = .ok (.iload_n 2, 1) := by decide +kernel
theorem dX3_idlest_37 : decode cX3_idlest 37 = .ok (.istore_n 1, 1) := by decide +kernel
theorem dX3_idlest_38 : decode cX3_idlest 38 = .ok (.iinc 2 1, 3) := by decide +kernel
theorem dX3_idlest_41 : decode cX3_idlest 41 = .ok (.goto (-37), 3) := by decide +kernel
theorem dX3_idlest_44 : decode cX3_idlest 44 = .ok (.iload_n 1, 1) := by decide +kernel
theorem dX3_idlest_45 : decode cX3_idlest 45 = .ok (.ireturn, 1) := by decide +kernel
theorem dX3_covererAt_0 : decode cX3_covererAt 0 = .ok (.iconst 0, 1) := by decide +kernel
theorem dX3_covererAt_1 : decode cX3_covererAt 1 = .ok (.istore_n 2, 1) := by decide +kernel
theorem dX3_covererAt_2 : decode cX3_covererAt 2 = .ok (.iload_n 2, 1) := by decide +kernel
theorem dX3_covererAt_3 : decode cX3_covererAt 3 = .ok (.bipush 8, 2) := by decide +kernel
theorem dX3_covererAt_5 : decode cX3_covererAt 5 = .ok (.if_icmp .ge 26, 3) := by decide +kernel
theorem dX3_covererAt_8 : decode cX3_covererAt 8 = .ok (.aload_n 0, 1) := by decide +kernel
theorem dX3_covererAt_9 : decode cX3_covererAt 9 = .ok (.getfield 24, 3) := by decide +kernel
theorem dX3_covererAt_12 : decode cX3_covererAt 12 = .ok (.iload_n 2, 1) := by decide +kernel
theorem dX3_covererAt_13 : decode cX3_covererAt 13 = .ok (.laload, 1) := by decide +kernel
theorem dX3_covererAt_14 : decode cX3_covererAt 14 = .ok (.iload_n 1, 1) := by decide +kernel
theorem dX3_covererAt_15 : decode cX3_covererAt 15 = .ok (.lushr, 1) := by decide +kernel
theorem dX3_covererAt_16 : decode cX3_covererAt 16 = .ok (.lconst 1, 1) := by decide +kernel
theorem dX3_covererAt_17 : decode cX3_covererAt 17 = .ok (.land, 1) := by decide +kernel
theorem dX3_covererAt_18 : decode cX3_covererAt 18 = .ok (.lconst 0, 1) := by decide +kernel
theorem dX3_covererAt_19 : decode cX3_covererAt 19 = .ok (.lcmp, 1) := by decide +kernel
theorem dX3_covererAt_20 : decode cX3_covererAt 20 = .ok (.ifCond .eq 5, 3) := by decide +kernel
theorem dX3_covererAt_23 : decode cX3_covererAt 23 = .ok (.iload_n 2, 1) := by decide +kernel
theorem dX3_covererAt_24 : decode cX3_covererAt 24 = .ok (.ireturn, 1) := by decide +kernel
theorem dX3_covererAt_25 : decode cX3_covererAt 25 = .ok (.iinc 2 1, 3) := by decide +kernel
theorem dX3_covererAt_28 : decode cX3_covererAt 28 = .ok (.goto (-26), 3) := by decide +kernel
theorem dX3_covererAt_31 : decode cX3_covererAt 31 = .ok (.iconst (-1), 1) := by decide +kernel
theorem dX3_covererAt_32 : decode cX3_covererAt 32 = .ok (.ireturn, 1) := by decide +kernel
theorem dX3_coveredChairs_0 : decode cX3_coveredChairs 0 = .ok (.lconst 0, 1) := by decide +kernel
theorem dX3_coveredChairs_1 : decode cX3_coveredChairs 1 = .ok (.lstore_n 1, 1) := by decide +kernel
theorem dX3_coveredChairs_2 : decode cX3_coveredChairs 2 = .ok (.iconst 0, 1) := by decide +kernel
theorem dX3_coveredChairs_3 : decode cX3_coveredChairs 3 = .ok (.istore_n 3, 1) := by decide +kernel
theorem dX3_coveredChairs_4 : decode cX3_coveredChairs 4 = .ok (.iload_n 3, 1) := by decide +kernel
theorem dX3_coveredChairs_5 : decode cX3_coveredChairs 5 = .ok (.bipush 8, 2) := by decide +kernel
theorem dX3_coveredChairs_7 : decode cX3_coveredChairs 7 = .ok (.if_icmp .ge 18, 3) := by decide +kernel
theorem dX3_coveredChairs_10 : decode cX3_coveredChairs 10 = .ok (.lload_n 1, 1) := by decide +kernel
theorem dX3_coveredChairs_11 : decode cX3_coveredChairs 11 = .ok (.aload_n 0, 1) := by decide +kernel
theorem dX3_coveredChairs_12 : decode cX3_coveredChairs 12 = .ok (.getfield 24, 3) := by decide +kernel
theorem dX3_coveredChairs_15 : decode cX3_coveredChairs 15 = .ok (.iload_n 3, 1) := by decide +kernel
theorem dX3_coveredChairs_16 : decode cX3_coveredChairs 16 = .ok (.laload, 1) := by decide +kernel
theorem dX3_coveredChairs_17 : decode cX3_coveredChairs 17 = .ok (.lor, 1) := by decide +kernel
theorem dX3_coveredChairs_18 : decode cX3_coveredChairs 18 = .ok (.lstore_n 1, 1) := by decide +kernel
theorem dX3_coveredChairs_19 : decode cX3_coveredChairs 19 = .ok (.iinc 3 1, 3) := by decide +kernel
theorem dX3_coveredChairs_22 : decode cX3_coveredChairs 22 = .ok (.goto (-18), 3) := by decide +kernel
theorem dX3_coveredChairs_25 : decode cX3_coveredChairs 25 = .ok (.lload_n 1, 1) := by decide +kernel
theorem dX3_coveredChairs_26 : decode cX3_coveredChairs 26 = .ok (.lreturn, 1) := by decide +kernel
set_option maxRecDepth 20000 in
theorem ggX3_countByChair_X3_covererAt : GoodIn wsX3_countByChair wsX3_covererAt := goodIn_ca (goodIn_r _ [5, 6, 7, 8, 9, 10, 11, 12, 13, 14, 15, 16, 17, 18, 19, 20, 21] (by decide +kernel) (by decide +kernel)) (goodIn_sub (fun _ h => List.mem_cons_of_mem _ (List.mem_append_right _ h)) (by decide +kernel))
set_option maxRecDepth 20000 in
theorem gX3_countByChair_X3_covererAt : GoodIn wsX3_countByChair (wsV RX3 75 RX3 yX3_covererAt wsX3_covererAt) := goodIn_app (goodIn_of _ (by decide +kernel)) ggX3_countByChair_X3_covererAt
theorem dX3_countByChair_0 : decode cX3_countByChair 0 = .ok (.iconst 0, 1) := by decide +kernel
theorem dX3_countByChair_1 : decode cX3_countByChair 1 = .ok (.istore_n 1, 1) := by decide +kernel
theorem dX3_countByChair_2 : decode cX3_countByChair 2 = .ok (.iconst 0, 1) := by decide +kernel
theorem dX3_countByChair_3 : decode cX3_countByChair 3 = .ok (.istore_n 2, 1) := by decide +kernel
theorem dX3_countByChair_4 : decode cX3_countByChair 4 = .ok (.iload_n 2, 1) := by decide +kernel
theorem dX3_countByChair_5 : decode cX3_countByChair 5 = .ok (.bipush 40, 2) := by decide +kernel
theorem dX3_countByChair_7 : decode cX3_countByChair 7 = .ok (.if_icmp .ge 21, 3) := by decide +kernel
theorem dX3_countByChair_10 : decode cX3_countByChair 10 = .ok (.aload_n 0, 1) := by decide +kernel
theorem dX3_countByChair_11 : decode cX3_countByChair 11 = .ok (.iload_n 2, 1) := by decide +kernel
theorem dX3_countByChair_12 : decode cX3_countByChair 12 = .ok (.invokevirtual 75, 3) := by decide +kernel
theorem dX3_countByChair_15 : decode cX3_countByChair 15 = .ok (.iconst (-1), 1) := by decide +kernel
theorem dX3_countByChair_16 : decode cX3_countByChair 16 = .ok (.if_icmp .eq 6, 3) := by decide +kernel
theorem dX3_countByChair_19 : decode cX3_countByChair 19 = .ok (.iinc 1 1, 3) := by decide +kernel
theorem dX3_countByChair_22 : decode cX3_countByChair 22 = .ok (.iinc 2 1, 3) := by decide +kernel
theorem dX3_countByChair_25 : decode cX3_countByChair 25 = .ok (.goto (-21), 3) := by decide +kernel
theorem dX3_countByChair_28 : decode cX3_countByChair 28 = .ok (.iload_n 1, 1) := by decide +kernel
theorem dX3_countByChair_29 : decode cX3_countByChair 29 = .ok (.ireturn, 1) := by decide +kernel
set_option maxRecDepth 20000 in
theorem ggX3_countPlaced_X3_hatIsPlaced : GoodIn wsX3_countPlaced wsX3_hatIsPlaced := goodIn_ca (goodIn_r _ [5, 6, 7, 8, 9, 10, 11, 12, 13, 14, 15, 16, 17, 18, 19, 20, 21] (by decide +kernel) (by decide +kernel)) (goodIn_sub (fun _ h => List.mem_cons_of_mem _ (List.mem_append_right _ h)) (by decide +kernel))
set_option maxRecDepth 20000 in
theorem gX3_countPlaced_X3_hatIsPlaced : GoodIn wsX3_countPlaced (wsV RX3 72 RX3 yX3_hatIsPlaced wsX3_hatIsPlaced) := goodIn_app (goodIn_of _ (by decide +kernel)) ggX3_countPlaced_X3_hatIsPlaced
theorem dX3_countPlaced_0 : decode cX3_countPlaced 0 = .ok (.iconst 0, 1) := by decide +kernel
theorem dX3_countPlaced_1 : decode cX3_countPlaced 1 = .ok (.istore_n 1, 1) := by decide +kernel
theorem dX3_countPlaced_2 : decode cX3_countPlaced 2 = .ok (.iconst 0, 1) := by decide +kernel
theorem dX3_countPlaced_3 : decode cX3_countPlaced 3 = .ok (.istore_n 2, 1) := by decide +kernel
theorem dX3_countPlaced_4 : decode cX3_countPlaced 4 = .ok (.iload_n 2, 1) := by decide +kernel
theorem dX3_countPlaced_5 : decode cX3_countPlaced 5 = .ok (.bipush 8, 2) := by decide +kernel
theorem dX3_countPlaced_7 : decode cX3_countPlaced 7 = .ok (.if_icmp .ge 20, 3) := by decide +kernel
theorem dX3_countPlaced_10 : decode cX3_countPlaced 10 = .ok (.aload_n 0, 1) := by decide +kernel
theorem dX3_countPlaced_11 : decode cX3_countPlaced 11 = .ok (.iload_n 2, 1) := by decide +kernel
theorem dX3_countPlaced_12 : decode cX3_countPlaced 12 = .ok (.invokevirtual 72, 3) := by decide +kernel
theorem dX3_countPlaced_15 : decode cX3_countPlaced 15 = .ok (.ifCond .eq 6, 3) := by decide +kernel
theorem dX3_countPlaced_18 : decode cX3_countPlaced 18 = .ok (.iinc 1 1, 3) := by decide +kernel
theorem dX3_countPlaced_21 : decode cX3_countPlaced 21 = .ok (.iinc 2 1, 3) := by decide +kernel
theorem dX3_countPlaced_24 : decode cX3_countPlaced 24 = .ok (.goto (-20), 3) := by decide +kernel
theorem dX3_countPlaced_27 : decode cX3_countPlaced 27 = .ok (.iload_n 1, 1) := by decide +kernel
theorem dX3_countPlaced_28 : decode cX3_countPlaced 28 = .ok (.ireturn, 1) := by decide +kernel
set_option maxRecDepth 20000 in
theorem ggX3_freeRunByScan_X3_covererAt : GoodIn wsX3_freeRunByScan wsX3_covererAt := goodIn_ca (goodIn_r _ [9, 10, 11, 12, 13, 14, 15, 16, 17, 18, 19, 20, 21, 22, 23, 24, 25] (by decide +kernel) (by decide +kernel)) (goodIn_sub (fun _ h => List.mem_cons_of_mem _ (List.mem_append_right _ h)) (by decide +kernel))
set_option maxRecDepth 20000 in
theorem gX3_freeRunByScan_X3_covererAt : GoodIn wsX3_freeRunByScan (wsV RX3 75 RX3 yX3_covererAt wsX3_covererAt) := goodIn_app (goodIn_of _ (by decide +kernel)) ggX3_freeRunByScan_X3_covererAt
theorem dX3_freeRunByScan_0 : decode cX3_freeRunByScan 0 = .ok (.iconst 0, 1) := by decide +kernel
theorem dX3_freeRunByScan_1 : decode cX3_freeRunByScan 1 = .ok (.istore_n 2, 1) := by decide +kernel
theorem dX3_freeRunByScan_2 : decode cX3_freeRunByScan 2 = .ok (.iconst 0, 1) := by decide +kernel
theorem dX3_freeRunByScan_3 : decode cX3_freeRunByScan 3 = .ok (.istore_n 3, 1) := by decide +kernel
theorem dX3_freeRunByScan_4 : decode cX3_freeRunByScan 4 = .ok (.iconst 0, 1) := by decide +kernel
theorem dX3_freeRunByScan_5 : decode cX3_freeRunByScan 5 = .ok (.istore 4, 2) := by decide +kernel
theorem dX3_freeRunByScan_7 : decode cX3_freeRunByScan 7 = .ok (.iload 4, 2) := by decide +kernel
theorem dX3_freeRunByScan_9 : decode cX3_freeRunByScan 9 = .ok (.bipush 10, 2) := by decide +kernel
theorem dX3_freeRunByScan_11 : decode cX3_freeRunByScan 11 = .ok (.if_icmp .ge 38, 3) := by decide +kernel
theorem dX3_freeRunByScan_14 : decode cX3_freeRunByScan 14 = .ok (.aload_n 0, 1) := by decide +kernel
theorem dX3_freeRunByScan_15 : decode cX3_freeRunByScan 15 = .ok (.iload_n 1, 1) := by decide +kernel
theorem dX3_freeRunByScan_16 : decode cX3_freeRunByScan 16 = .ok (.bipush 10, 2) := by decide +kernel
theorem dX3_freeRunByScan_18 : decode cX3_freeRunByScan 18 = .ok (.imul, 1) := by decide +kernel
theorem dX3_freeRunByScan_19 : decode cX3_freeRunByScan 19 = .ok (.iload 4, 2) := by decide +kernel
theorem dX3_freeRunByScan_21 : decode cX3_freeRunByScan 21 = .ok (.iadd, 1) := by decide +kernel
theorem dX3_freeRunByScan_22 : decode cX3_freeRunByScan 22 = .ok (.invokevirtual 75, 3) := by decide +kernel
theorem dX3_freeRunByScan_25 : decode cX3_freeRunByScan 25 = .ok (.iconst (-1), 1) := by decide +kernel
theorem dX3_freeRunByScan_26 : decode cX3_freeRunByScan 26 = .ok (.if_icmp .ne 9, 3) := by decide +kernel
theorem dX3_freeRunByScan_29 : decode cX3_freeRunByScan 29 = .ok (.iload_n 3, 1) := by decide +kernel
theorem dX3_freeRunByScan_30 : decode cX3_freeRunByScan 30 = .ok (.iconst 1, 1) := by decide +kernel
theorem dX3_freeRunByScan_31 : decode cX3_freeRunByScan 31 = .ok (.iadd, 1) := by decide +kernel
theorem dX3_freeRunByScan_32 : decode cX3_freeRunByScan 32 = .ok (.goto 4, 3) := by decide +kernel
theorem dX3_freeRunByScan_35 : decode cX3_freeRunByScan 35 = .ok (.iconst 0, 1) := by decide +kernel
theorem dX3_freeRunByScan_36 : decode cX3_freeRunByScan 36 = .ok (.istore_n 3, 1) := by decide +kernel
theorem dX3_freeRunByScan_37 : decode cX3_freeRunByScan 37 = .ok (.iload_n 2, 1) := by decide +kernel
theorem dX3_freeRunByScan_38 : decode cX3_freeRunByScan 38 = .ok (.iload_n 3, 1) := by decide +kernel
theorem dX3_freeRunByScan_39 : decode cX3_freeRunByScan 39 = .ok (.invokestatic 125, 3) := by decide +kernel
theorem dX3_freeRunByScan_42 : decode cX3_freeRunByScan 42 = .ok (.istore_n 2, 1) := by decide +kernel
theorem dX3_freeRunByScan_43 : decode cX3_freeRunByScan 43 = .ok (.iinc 4 1, 3) := by decide +kernel
theorem dX3_freeRunByScan_46 : decode cX3_freeRunByScan 46 = .ok (.goto (-39), 3) := by decide +kernel
theorem dX3_freeRunByScan_49 : decode cX3_freeRunByScan 49 = .ok (.iload_n 2, 1) := by decide +kernel
theorem dX3_freeRunByScan_50 : decode cX3_freeRunByScan 50 = .ok (.ireturn, 1) := by decide +kernel
set_option maxRecDepth 20000 in
theorem ggX3_freeRunByShift_X3_coveredChairs : GoodIn wsX3_freeRunByShift wsX3_coveredChairs := goodIn_ca (goodIn_r _ [7, 8, 9, 10, 11, 12, 13, 14, 15, 16, 17, 18, 19, 20, 21, 22, 23] (by decide +kernel) (by decide +kernel)) (goodIn_sub (fun _ h => List.mem_cons_of_mem _ (List.mem_append_right _ h)) (by decide +kernel))
set_option maxRecDepth 20000 in
theorem gX3_freeRunByShift_X3_coveredChairs : GoodIn wsX3_freeRunByShift (wsV RX3 91 RX3 yX3_coveredChairs wsX3_coveredChairs) := goodIn_app (goodIn_of _ (by decide +kernel)) ggX3_freeRunByShift_X3_coveredChairs
theorem dX3_freeRunByShift_0 : decode cX3_freeRunByShift 0 = .ok (.aload_n 0, 1) := by decide +kernel
theorem dX3_freeRunByShift_1 : decode cX3_freeRunByShift 1 = .ok (.invokevirtual 91, 3) := by decide +kernel
theorem dX3_freeRunByShift_4 : decode cX3_freeRunByShift 4 = .ok (.iload_n 1, 1) := by decide +kernel
theorem dX3_freeRunByShift_5 : decode cX3_freeRunByShift 5 = .ok (.bipush 10, 2) := by decide +kernel
theorem dX3_freeRunByShift_7 : decode cX3_freeRunByShift 7 = .ok (.imul, 1) := by decide +kernel
theorem dX3_freeRunByShift_8 : decode cX3_freeRunByShift 8 = .ok (.lushr, 1) := by decide +kernel
theorem dX3_freeRunByShift_9 : decode cX3_freeRunByShift 9 = .ok (.ldc2_w 134, 3) := by decide +kernel
theorem dX3_freeRunByShift_12 : decode cX3_freeRunByShift 12 = .ok (.lxor, 1) := by decide +kernel
theorem dX3_freeRunByShift_13 : decode cX3_freeRunByShift 13 = .ok (.ldc2_w 139, 3) := by decide +kernel
theorem dX3_freeRunByShift_16 : decode cX3_freeRunByShift 16 = .ok (.land, 1) := by decide +kernel
theorem dX3_freeRunByShift_17 : decode cX3_freeRunByShift 17 = .ok (.lstore_n 2, 1) := by decide +kernel
theorem dX3_freeRunByShift_18 : decode cX3_freeRunByShift 18 = .ok (.iconst 0, 1) := by decide +kernel
theorem dX3_freeRunByShift_19 : decode cX3_freeRunByShift 19 = .ok (.istore 4, 2) := by decide +kernel
theorem dX3_freeRunByShift_21 : decode cX3_freeRunByShift 21 = .ok (.iconst 0, 1) := by decide +kernel
theorem dX3_freeRunByShift_22 : decode cX3_freeRunByShift 22 = .ok (.istore 5, 2) := by decide +kernel
theorem dX3_freeRunByShift_24 : decode cX3_freeRunByShift 24 = .ok (.iload 5, 2) := by decide +kernel
theorem dX3_freeRunByShift_26 : decode cX3_freeRunByShift 26 = .ok (.bipush 10, 2) := by decide +kernel
theorem dX3_freeRunByShift_28 : decode cX3_freeRunByShift 28 = .ok (.if_icmp .ge 24, 3) := by decide +kernel
theorem dX3_freeRunByShift_31 : decode cX3_freeRunByShift 31 = .ok (.lload_n 2, 1) := by decide +kernel
theorem dX3_freeRunByShift_32 : decode cX3_freeRunByShift 32 = .ok (.lconst 0, 1) := by decide +kernel
theorem dX3_freeRunByShift_33 : decode cX3_freeRunByShift 33 = .ok (.lcmp, 1) := by decide +kernel
theorem dX3_freeRunByShift_34 : decode cX3_freeRunByShift 34 = .ok (.ifCond .eq 18, 3) := by decide +kernel
theorem dX3_freeRunByShift_37 : decode cX3_freeRunByShift 37 = .ok (.lload_n 2, 1) := by decide +kernel
theorem dX3_freeRunByShift_38 : decode cX3_freeRunByShift 38 = .ok (.lload_n 2, 1) := by decide +kernel
theorem dX3_freeRunByShift_39 : decode cX3_freeRunByShift 39 = .ok (.iconst 1, 1) := by decide +kernel
theorem dX3_freeRunByShift_40 : decode cX3_freeRunByShift 40 = .ok (.lshl, 1) := by decide +kernel
theorem dX3_freeRunByShift_41 : decode cX3_freeRunByShift 41 = .ok (.land, 1) := by decide +kernel
theorem dX3_freeRunByShift_42 : decode cX3_freeRunByShift 42 = .ok (.lstore_n 2, 1) := by decide +kernel
theorem dX3_freeRunByShift_43 : decode cX3_freeRunByShift 43 = .ok (.iinc 4 1, 3) := by decide +kernel
theorem dX3_freeRunByShift_46 : decode cX3_freeRunByShift 46 = .ok (.iinc 5 1, 3) := by decide +kernel
theorem dX3_freeRunByShift_49 : decode cX3_freeRunByShift 49 = .ok (.goto (-25), 3) := by decide +kernel
theorem dX3_freeRunByShift_52 : decode cX3_freeRunByShift 52 = .ok (.iload 4, 2) := by decide +kernel
theorem dX3_freeRunByShift_54 : decode cX3_freeRunByShift 54 = .ok (.ireturn, 1) := by decide +kernel
set_option maxRecDepth 20000 in
theorem ggX3_guestBehind_X3_countBefore : GoodIn wsX3_guestBehind wsX3_countBefore := goodIn_ca (goodIn_r _ [6, 1, 7, 8, 9, 5, 10, 11, 12, 13, 14, 15, 16, 17, 18, 19, 20, 21, 22, 23, 24, 25, 26, 27, 28, 29, 30, 31, 32, 33, 34, 35, 36, 37, 38] (by decide +kernel) (by decide +kernel)) (goodIn_sub (fun _ h => List.mem_cons_of_mem _ (List.mem_append_right _ h)) (by decide +kernel))
set_option maxRecDepth 20000 in
theorem gX3_guestBehind_X3_countBefore : GoodIn wsX3_guestBehind (wsV RX3 141 RX3 yX3_countBefore wsX3_countBefore) := goodIn_app (goodIn_of _ (by decide +kernel)) ggX3_guestBehind_X3_countBefore
theorem dX3_guestBehind_0 : decode cX3_guestBehind 0 = .ok (.iconst 0, 1) := by decide +kernel
theorem dX3_guestBehind_1 : decode cX3_guestBehind 1 = .ok (.istore_n 2, 1) := by decide +kernel
theorem dX3_guestBehind_2 : decode cX3_guestBehind 2 = .ok (.iload_n 2, 1) := by decide +kernel
theorem dX3_guestBehind_3 : decode cX3_guestBehind 3 = .ok (.bipush 8, 2) := by decide +kernel
theorem dX3_guestBehind_5 : decode cX3_guestBehind 5 = .ok (.if_icmp .ge 28, 3) := by decide +kernel
theorem dX3_guestBehind_8 : decode cX3_guestBehind 8 = .ok (.iload_n 2, 1) := by decide +kernel
theorem dX3_guestBehind_9 : decode cX3_guestBehind 9 = .ok (.aload_n 0, 1) := by decide +kernel
theorem dX3_guestBehind_10 : decode cX3_guestBehind 10 = .ok (.getfield 41, 3) := by decide +kernel
theorem dX3_guestBehind_13 : decode cX3_guestBehind 13 = .ok (.if_icmp .ge 20, 3) := by decide +kernel
theorem dX3_guestBehind_16 : decode cX3_guestBehind 16 = .ok (.aload_n 0, 1) := by decide +kernel
theorem dX3_guestBehind_17 : decode cX3_guestBehind 17 = .ok (.iload_n 2, 1) := by decide +kernel
theorem dX3_guestBehind_18 : decode cX3_guestBehind 18 = .ok (.invokevirtual 141, 3) := by decide +kernel
theorem dX3_guestBehind_21 : decode cX3_guestBehind 21 = .ok (.iload_n 1, 1) := by decide +kernel
theorem dX3_guestBehind_22 : decode cX3_guestBehind 22 = .ok (.if_icmp .ne 5, 3) := by decide +kernel
theorem dX3_guestBehind_25 : decode cX3_guestBehind 25 = .ok (.iload_n 2, 1) := by decide +kernel
theorem dX3_guestBehind_26 : decode cX3_guestBehind 26 = .ok (.ireturn, 1) := by decide +kernel
theorem dX3_guestBehind_27 : decode cX3_guestBehind 27 = .ok (.iinc 2 1, 3) := by decide +kernel
theorem dX3_guestBehind_30 : decode cX3_guestBehind 30 = .ok (.goto (-28), 3) := by decide +kernel
theorem dX3_guestBehind_33 : decode cX3_guestBehind 33 = .ok (.iconst (-1), 1) := by decide +kernel
theorem dX3_guestBehind_34 : decode cX3_guestBehind 34 = .ok (.ireturn, 1) := by decide +kernel
set_option maxRecDepth 20000 in
theorem ggX3_countBefore_X3_precedes : GoodIn wsX3_countBefore wsX3_precedes := goodIn_ca (goodIn_r _ [6, 7, 8, 9, 10, 5, 11, 12, 13, 14, 15, 16, 17, 18, 19, 20, 21, 22, 23, 24, 25, 26, 27, 28, 29, 30, 31, 32, 33, 34] (by decide +kernel) (by decide +kernel)) (goodIn_sub (fun _ h => List.mem_cons_of_mem _ (List.mem_append_right _ h)) (by decide +kernel))
set_option maxRecDepth 20000 in
theorem gX3_countBefore_X3_precedes : GoodIn wsX3_countBefore (wsV RX3 144 RX3 yX3_precedes wsX3_precedes) := goodIn_app (goodIn_of _ (by decide +kernel)) ggX3_countBefore_X3_precedes
theorem dX3_countBefore_0 : decode cX3_countBefore 0 = .ok (.iconst 0, 1) := by decide +kernel
theorem dX3_countBefore_1 : decode cX3_countBefore 1 = .ok (.istore_n 2, 1) := by decide +kernel
theorem dX3_countBefore_2 : decode cX3_countBefore 2 = .ok (.iconst 0, 1) := by decide +kernel
theorem dX3_countBefore_3 : decode cX3_countBefore 3 = .ok (.istore_n 3, 1) := by decide +kernel
theorem dX3_countBefore_4 : decode cX3_countBefore 4 = .ok (.iload_n 3, 1) := by decide +kernel
theorem dX3_countBefore_5 : decode cX3_countBefore 5 = .ok (.bipush 8, 2) := by decide +kernel
theorem dX3_countBefore_7 : decode cX3_countBefore 7 = .ok (.if_icmp .ge 29, 3) := by decide +kernel
theorem dX3_countBefore_10 : decode cX3_countBefore 10 = .ok (.iload_n 3, 1) := by decide +kernel
theorem dX3_countBefore_11 : decode cX3_countBefore 11 = .ok (.aload_n 0, 1) := by decide +kernel
theorem dX3_countBefore_12 : decode cX3_countBefore 12 = .ok (.getfield 41, 3) := by decide +kernel
theorem dX3_countBefore_15 : decode cX3_countBefore 15 = .ok (.if_icmp .ge 21, 3) := by decide +kernel
theorem dX3_countBefore_18 : decode cX3_countBefore 18 = .ok (.aload_n 0, 1) := by decide +kernel
theorem dX3_countBefore_19 : decode cX3_countBefore 19 = .ok (.iload_n 3, 1) := by decide +kernel
theorem dX3_countBefore_20 : decode cX3_countBefore 20 = .ok (.iload_n 1, 1) := by decide +kernel
theorem dX3_countBefore_21 : decode cX3_countBefore 21 = .ok (.invokevirtual 144, 3) := by decide +kernel
theorem dX3_countBefore_24 : decode cX3_countBefore 24 = .ok (.ifCond .eq 6, 3) := by decide +kernel
theorem dX3_countBefore_27 : decode cX3_countBefore 27 = .ok (.iinc 2 1, 3) := by decide +kernel
theorem dX3_countBefore_30 : decode cX3_countBefore 30 = .ok (.iinc 3 1, 3) := by decide +kernel
theorem dX3_countBefore_33 : decode cX3_countBefore 33 = .ok (.goto (-29), 3) := by decide +kernel
theorem dX3_countBefore_36 : decode cX3_countBefore 36 = .ok (.iload_n 2, 1) := by decide +kernel
theorem dX3_countBefore_37 : decode cX3_countBefore 37 = .ok (.ireturn, 1) := by decide +kernel
set_option maxRecDepth 20000 in
theorem ggX3_precedes_X3_coverOf : GoodIn wsX3_precedes wsX3_coverOf := goodIn_ca (goodIn_r _ [6, 7, 8, 9, 10, 11, 12, 13, 14, 15, 16, 17, 18, 19, 20, 21, 22, 23, 24, 25, 26, 27, 28, 29] (by decide +kernel) (by decide +kernel)) (goodIn_sub (fun _ h => List.mem_cons_of_mem _ (List.mem_append_right _ h)) (by decide +kernel))
set_option maxRecDepth 20000 in
theorem gX3_precedes_X3_coverOf : GoodIn wsX3_precedes (wsV RX3 136 RX3 yX3_coverOf wsX3_coverOf) := goodIn_app (goodIn_of _ (by decide +kernel)) ggX3_precedes_X3_coverOf
theorem dX3_precedes_0 : decode cX3_precedes 0 = .ok (.aload_n 0, 1) := by decide +kernel
theorem dX3_precedes_1 : decode cX3_precedes 1 = .ok (.iload_n 1, 1) := by decide +kernel
theorem dX3_precedes_2 : decode cX3_precedes 2 = .ok (.invokevirtual 136, 3) := by decide +kernel
theorem dX3_precedes_5 : decode cX3_precedes 5 = .ok (.aload_n 0, 1) := by decide +kernel
theorem dX3_precedes_6 : decode cX3_precedes 6 = .ok (.iload_n 2, 1) := by decide +kernel
theorem dX3_precedes_7 : decode cX3_precedes 7 = .ok (.invokevirtual 136, 3) := by decide +kernel
theorem dX3_precedes_10 : decode cX3_precedes 10 = .ok (.if_icmp .eq 22, 3) := by decide +kernel
theorem dX3_precedes_13 : decode cX3_precedes 13 = .ok (.aload_n 0, 1) := by decide +kernel
theorem dX3_precedes_14 : decode cX3_precedes 14 = .ok (.iload_n 1, 1) := by decide +kernel
theorem dX3_precedes_15 : decode cX3_precedes 15 = .ok (.invokevirtual 136, 3) := by decide +kernel
theorem dX3_precedes_18 : decode cX3_precedes 18 = .ok (.aload_n 0, 1) := by decide +kernel
theorem dX3_precedes_19 : decode cX3_precedes 19 = .ok (.iload_n 2, 1) := by decide +kernel
theorem dX3_precedes_20 : decode cX3_precedes 20 = .ok (.invokevirtual 136, 3) := by decide +kernel
theorem dX3_precedes_23 : decode cX3_precedes 23 = .ok (.if_icmp .le 7, 3) := by decide +kernel
theorem dX3_precedes_26 : decode cX3_precedes 26 = .ok (.iconst 1, 1) := by decide +kernel
theorem dX3_precedes_27 : decode cX3_precedes 27 = .ok (.goto 4, 3) := by decide +kernel
theorem dX3_precedes_30 : decode cX3_precedes 30 = .ok (.iconst 0, 1) := by decide +kernel
theorem dX3_precedes_31 : decode cX3_precedes 31 = .ok (.ireturn, 1) := by decide +kernel
theorem dX3_precedes_32 : decode cX3_precedes 32 = .ok (.aload_n 0, 1) := by decide +kernel
theorem dX3_precedes_33 : decode cX3_precedes 33 = .ok (.getfield 9, 3) := by decide +kernel
theorem dX3_precedes_36 : decode cX3_precedes 36 = .ok (.iload_n 1, 1) := by decide +kernel
theorem dX3_precedes_37 : decode cX3_precedes 37 = .ok (.iaload, 1) := by decide +kernel
theorem dX3_precedes_38 : decode cX3_precedes 38 = .ok (.aload_n 0, 1) := by decide +kernel
theorem dX3_precedes_39 : decode cX3_precedes 39 = .ok (.getfield 9, 3) := by decide +kernel
theorem dX3_precedes_42 : decode cX3_precedes 42 = .ok (.iload_n 2, 1) := by decide +kernel
theorem dX3_precedes_43 : decode cX3_precedes 43 = .ok (.iaload, 1) := by decide +kernel
theorem dX3_precedes_44 : decode cX3_precedes 44 = .ok (.if_icmp .eq 24, 3) := by decide +kernel
theorem dX3_precedes_47 : decode cX3_precedes 47 = .ok (.aload_n 0, 1) := by decide +kernel
theorem dX3_precedes_48 : decode cX3_precedes 48 = .ok (.getfield 9, 3) := by decide +kernel
theorem dX3_precedes_51 : decode cX3_precedes 51 = .ok (.iload_n 1, 1) := by decide +kernel
theorem dX3_precedes_52 : decode cX3_precedes 52 = .ok (.iaload, 1) := by decide +kernel
theorem dX3_precedes_53 : decode cX3_precedes 53 = .ok (.aload_n 0, 1) := by decide +kernel
theorem dX3_precedes_54 : decode cX3_precedes 54 = .ok (.getfield 9, 3) := by decide +kernel
theorem dX3_precedes_57 : decode cX3_precedes 57 = .ok (.iload_n 2, 1) := by decide +kernel
theorem dX3_precedes_58 : decode cX3_precedes 58 = .ok (.iaload, 1) := by decide +kernel
theorem dX3_precedes_59 : decode cX3_precedes 59 = .ok (.if_icmp .le 7, 3) := by decide +kernel
theorem dX3_precedes_62 : decode cX3_precedes 62 = .ok (.iconst 1, 1) := by decide +kernel
theorem dX3_precedes_63 : decode cX3_precedes 63 = .ok (.goto 4, 3) := by decide +kernel
theorem dX3_precedes_66 : decode cX3_precedes 66 = .ok (.iconst 0, 1) := by decide +kernel
theorem dX3_precedes_67 : decode cX3_precedes 67 = .ok (.ireturn, 1) := by decide +kernel
theorem dX3_precedes_68 : decode cX3_precedes 68 = .ok (.iload_n 1, 1) := by decide +kernel
theorem dX3_precedes_69 : decode cX3_precedes 69 = .ok (.iload_n 2, 1) := by decide +kernel
theorem dX3_precedes_70 : decode cX3_precedes 70 = .ok (.if_icmp .ge 7, 3) := by decide +kernel
theorem dX3_precedes_73 : decode cX3_precedes 73 = .ok (.iconst 1, 1) := by decide +kernel
theorem dX3_precedes_74 : decode cX3_precedes 74 = .ok (.goto 4, 3) := by decide +kernel
theorem dX3_precedes_77 : decode cX3_precedes 77 = .ok (.iconst 0, 1) := by decide +kernel
theorem dX3_precedes_78 : decode cX3_precedes 78 = .ok (.ireturn, 1) := by decide +kernel
set_option maxRecDepth 20000 in
theorem ggX3_signOf_X3_covererAt : GoodIn wsX3_signOf wsX3_covererAt := goodIn_ca (goodIn_r _ [6, 7, 8, 9, 10, 11, 12, 13, 14, 15, 16, 17, 18, 19, 20, 21, 22] (by decide +kernel) (by decide +kernel)) (goodIn_sub (fun _ h => List.mem_cons_of_mem _ (List.mem_append_right _ h)) (by decide +kernel))
set_option maxRecDepth 20000 in
theorem gX3_signOf_X3_covererAt : GoodIn wsX3_signOf (wsV RX3 75 RX3 yX3_covererAt wsX3_covererAt) := goodIn_app (goodIn_of _ (by decide +kernel)) ggX3_signOf_X3_covererAt
theorem dX3_signOf_0 : decode cX3_signOf 0 = .ok (.aload_n 0, 1) := by decide +kernel
theorem dX3_signOf_1 : decode cX3_signOf 1 = .ok (.iload_n 1, 1) := by decide +kernel
theorem dX3_signOf_2 : decode cX3_signOf 2 = .ok (.invokevirtual 75, 3) := by decide +kernel
theorem dX3_signOf_5 : decode cX3_signOf 5 = .ok (.istore_n 2, 1) := by decide +kernel
theorem dX3_signOf_6 : decode cX3_signOf 6 = .ok (.iload_n 2, 1) := by decide +kernel
theorem dX3_signOf_7 : decode cX3_signOf 7 = .ok (.iconst (-1), 1) := by decide +kernel
theorem dX3_signOf_8 : decode cX3_signOf 8 = .ok (.if_icmp .ne 6, 3) := by decide +kernel
theorem dX3_signOf_11 : decode cX3_signOf 11 = .ok (.bipush 46, 2) := by decide +kernel
theorem dX3_signOf_13 : decode cX3_signOf 13 = .ok (.ireturn, 1) := by decide +kernel
theorem dX3_signOf_14 : decode cX3_signOf 14 = .ok (.aload_n 0, 1) := by decide +kernel
theorem dX3_signOf_15 : decode cX3_signOf 15 = .ok (.getfield 18, 3) := by decide +kernel
theorem dX3_signOf_18 : decode cX3_signOf 18 = .ok (.iload_n 2, 1) := by decide +kernel
theorem dX3_signOf_19 : decode cX3_signOf 19 = .ok (.iaload, 1) := by decide +kernel
theorem dX3_signOf_20 : decode cX3_signOf 20 = .ok (.iload_n 1, 1) := by decide +kernel
theorem dX3_signOf_21 : decode cX3_signOf 21 = .ok (.if_icmp .ne 10, 3) := by decide +kernel
theorem dX3_signOf_24 : decode cX3_signOf 24 = .ok (.bipush 65, 2) := by decide +kernel
theorem dX3_signOf_26 : decode cX3_signOf 26 = .ok (.iload_n 2, 1) := by decide +kernel
theorem dX3_signOf_27 : decode cX3_signOf 27 = .ok (.iadd, 1) := by decide +kernel
theorem dX3_signOf_28 : decode cX3_signOf 28 = .ok (.goto 7, 3) := by decide +kernel
theorem dX3_signOf_31 : decode cX3_signOf 31 = .ok (.bipush 97, 2) := by decide +kernel
theorem dX3_signOf_33 : decode cX3_signOf 33 = .ok (.iload_n 2, 1) := by decide +kernel
theorem dX3_signOf_34 : decode cX3_signOf 34 = .ok (.iadd, 1) := by decide +kernel
theorem dX3_signOf_35 : decode cX3_signOf 35 = .ok (.i2c, 1) := by decide +kernel
theorem dX3_signOf_36 : decode cX3_signOf 36 = .ok (.ireturn, 1) := by decide +kernel
set_option maxRecDepth 20000 in
theorem ggX4_init_X3_init : GoodIn wsX4_init wsX3_init := goodIn_ca (goodIn_r _ [12, 13, 2, 3, 14, 15, 16, 17, 18, 19, 20, 21, 22, 23, 24, 25, 26, 27, 28, 29, 30, 34, 35, 36, 37, 38, 39, 40, 41, 42, 43, 44, 45, 46, 47, 48] (by decide +kernel) (by decide +kernel)) (goodIn_sub (fun _ h => List.mem_cons_of_mem _ (List.mem_append_right _ h)) (by decide +kernel))
set_option maxRecDepth 20000 in
theorem gX4_init_X3_init : GoodIn wsX4_init (wsX3_init) := ggX4_init_X3_init
theorem dX4_init_0 : decode cX4_init 0 = .ok (.aload_n 0, 1) := by decide +kernel
theorem dX4_init_1 : decode cX4_init 1 = .ok (.invokespecial 3, 3) := by decide +kernel
theorem dX4_init_4 : decode cX4_init 4 = .ok (.aload_n 0, 1) := by decide +kernel
theorem dX4_init_5 : decode cX4_init 5 = .ok (.bipush 9, 2) := by decide +kernel
theorem dX4_init_7 : decode cX4_init 7 = .ok (.anewarray 11, 3) := by decide +kernel
theorem dX4_init_10 : decode cX4_init 10 = .ok (.putfield 13, 3) := by decide +kernel
theorem dX4_init_13 : decode cX4_init 13 = .ok (.aload_n 0, 1) := by decide +kernel
theorem dX4_init_14 : decode cX4_init 14 = .ok (.iconst 0, 1) := by decide +kernel
theorem dX4_init_15 : decode cX4_init 15 = .ok (.putfield 17, 3) := by decide +kernel
theorem dX4_init_18 : decode cX4_init 18 = .ok (.aload_n 0, 1) := by decide +kernel
theorem dX4_init_19 : decode cX4_init 19 = .ok (.iconst 0, 1) := by decide +kernel
theorem dX4_init_20 : decode cX4_init 20 = .ok (.putfield 21, 3) := by decide +kernel
theorem dX4_init_23 : decode cX4_init 23 = .ok (.iconst 0, 1) := by decide +kernel
theorem dX4_init_24 : decode cX4_init 24 = .ok (.istore_n 1, 1) := by decide +kernel
theorem dX4_init_25 : decode cX4_init 25 = .ok (.iload_n 1, 1) := by decide +kernel
theorem dX4_init_26 : decode cX4_init 26 = .ok (.bipush 9, 2) := by decide +kernel
theorem dX4_init_28 : decode cX4_init 28 = .ok (.if_icmp .ge 22, 3) := by decide +kernel
theorem dX4_init_31 : decode cX4_init 31 = .ok (.aload_n 0, 1) := by decide +kernel
theorem dX4_init_32 : decode cX4_init 32 = .ok (.getfield 13, 3) := by decide +kernel
theorem dX4_init_35 : decode cX4_init 35 = .ok (.iload_n 1, 1) := by decide +kernel
theorem dX4_init_36 : decode cX4_init 36 = .ok (.new 11, 3) := by decide +kernel
theorem dX4_init_39 : decode cX4_init 39 = .ok (.dup, 1) := by decide +kernel
theorem dX4_init_40 : decode cX4_init 40 = .ok (.invokespecial 24, 3) := by decide +kernel
theorem dX4_init_43 : decode cX4_init 43 = .ok (.aastore, 1) := by decide +kernel
theorem dX4_init_44 : decode cX4_init 44 = .ok (.iinc 1 1, 3) := by decide +kernel
theorem dX4_init_47 : decode cX4_init 47 = .ok (.goto (-22), 3) := by decide +kernel
theorem dX4_init_50 : decode cX4_init 50 = .ok (.return_, 1) := by decide +kernel
set_option maxRecDepth 20000 in
theorem ggX4_remember_X4_prepare : GoodIn wsX4_remember wsX4_prepare := goodIn_r _ [5, 6, 7, 8, 9, 10, 11, 12, 13, 14, 15, 16, 17, 18, 19, 20, 21, 22, 23, 24, 25, 26, 27, 28, 29, 30, 31, 41, 42, 43, 44, 45, 46, 47, 48, 49, 50, 51, 52, 53, 54, 55, 56, 57, 58] (by decide +kernel) (by decide +kernel)
set_option maxRecDepth 20000 in
theorem gX4_remember_X4_prepare : GoodIn wsX4_remember (wsV RX4 25 RX4 yX4_prepare wsX4_prepare) := goodIn_app (goodIn_of _ (by decide +kernel)) ggX4_remember_X4_prepare
set_option maxRecDepth 20000 in
theorem ggX4_remember_X4_keep : GoodIn wsX4_remember wsX4_keep := goodIn_r _ [35, 7, 36, 37, 38, 39, 40, 41, 42, 43] (by decide +kernel) (by decide +kernel)
set_option maxRecDepth 20000 in
theorem gX4_remember_X4_keep : GoodIn wsX4_remember (wsV RX4 29 RX4 yX4_keep wsX4_keep) := goodIn_app (goodIn_of _ (by decide +kernel)) ggX4_remember_X4_keep
theorem dX4_remember_0 : decode cX4_remember 0 = .ok (.aload_n 0, 1) := by decide +kernel
theorem dX4_remember_1 : decode cX4_remember 1 = .ok (.aload_n 1, 1) := by decide +kernel
theorem dX4_remember_2 : decode cX4_remember 2 = .ok (.invokevirtual 25, 3) := by decide +kernel
theorem dX4_remember_5 : decode cX4_remember 5 = .ok (.aload_n 0, 1) := by decide +kernel
theorem dX4_remember_6 : decode cX4_remember 6 = .ok (.invokevirtual 29, 3) := by decide +kernel
theorem dX4_remember_9 : decode cX4_remember 9 = .ok (.return_, 1) := by decide +kernel
set_option maxRecDepth 20000 in
theorem ggX4_prepare_X3_become : GoodIn wsX4_prepare wsX3_become := goodIn_r _ [7, 8, 9, 10, 11, 12, 13, 14, 15, 16, 17, 18, 19, 20, 21, 22, 23, 24, 25, 26, 30, 31, 32, 33, 34, 35, 36, 37, 38, 39, 40, 41, 42, 43, 44] (by decide +kernel) (by decide +kernel)
set_option maxRecDepth 20000 in
theorem gX4_prepare_X3_become : GoodIn wsX4_prepare (wsV RX4 32 RX3 yX3_become wsX3_become) := goodIn_app (goodIn_of _ (by decide +kernel)) ggX4_prepare_X3_become
theorem dX4_prepare_0 : decode cX4_prepare 0 = .ok (.aload_n 0, 1) := by decide +kernel
theorem dX4_prepare_1 : decode cX4_prepare 1 = .ok (.getfield 13, 3) := by decide +kernel
theorem dX4_prepare_4 : decode cX4_prepare 4 = .ok (.aload_n 0, 1) := by decide +kernel
theorem dX4_prepare_5 : decode cX4_prepare 5 = .ok (.getfield 17, 3) := by decide +kernel
theorem dX4_prepare_8 : decode cX4_prepare 8 = .ok (.aaload, 1) := by decide +kernel
theorem dX4_prepare_9 : decode cX4_prepare 9 = .ok (.aload_n 1, 1) := by decide +kernel
theorem dX4_prepare_10 : decode cX4_prepare 10 = .ok (.invokevirtual 32, 3) := by decide +kernel
theorem dX4_prepare_13 : decode cX4_prepare 13 = .ok (.return_, 1) := by decide +kernel
theorem dX4_keep_0 : decode cX4_keep 0 = .ok (.aload_n 0, 1) := by decide +kernel
theorem dX4_keep_1 : decode cX4_keep 1 = .ok (.aload_n 0, 1) := by decide +kernel
theorem dX4_keep_2 : decode cX4_keep 2 = .ok (.getfield 17, 3) := by decide +kernel
theorem dX4_keep_5 : decode cX4_keep 5 = .ok (.iconst 1, 1) := by decide +kernel
theorem dX4_keep_6 : decode cX4_keep 6 = .ok (.iadd, 1) := by decide +kernel
theorem dX4_keep_7 : decode cX4_keep 7 = .ok (.bipush 9, 2) := by decide +kernel
theorem dX4_keep_9 : decode cX4_keep 9 = .ok (.if_icmp .ge 12, 3) := by decide +kernel
theorem dX4_keep_12 : decode cX4_keep 12 = .ok (.aload_n 0, 1) := by decide +kernel
theorem dX4_keep_13 : decode cX4_keep 13 = .ok (.getfield 17, 3) := by decide +kernel
theorem dX4_keep_16 : decode cX4_keep 16 = .ok (.iconst 1, 1) := by decide +kernel
theorem dX4_keep_17 : decode cX4_keep 17 = .ok (.iadd, 1) := by decide +kernel
theorem dX4_keep_18 : decode cX4_keep 18 = .ok (.goto 4, 3) := by decide +kernel
theorem dX4_keep_21 : decode cX4_keep 21 = .ok (.iconst 0, 1) := by decide +kernel
theorem dX4_keep_22 : decode cX4_keep 22 = .ok (.putfield 17, 3) := by decide +kernel
theorem dX4_keep_25 : decode cX4_keep 25 = .ok (.aload_n 0, 1) := by decide +kernel
theorem dX4_keep_26 : decode cX4_keep 26 = .ok (.aload_n 0, 1) := by decide +kernel
theorem dX4_keep_27 : decode cX4_keep 27 = .ok (.getfield 21, 3) := by decide +kernel
theorem dX4_keep_30 : decode cX4_keep 30 = .ok (.iconst 1, 1) := by decide +kernel
theorem dX4_keep_31 : decode cX4_keep 31 = .ok (.iadd, 1) := by decide +kernel
theorem dX4_keep_32 : decode cX4_keep 32 = .ok (.bipush 8, 2) := by decide +kernel
theorem dX4_keep_34 : decode cX4_keep 34 = .ok (.invokestatic 35, 3) := by decide +kernel
theorem dX4_keep_37 : decode cX4_keep 37 = .ok (.putfield 21, 3) := by decide +kernel
theorem dX4_keep_40 : decode cX4_keep 40 = .ok (.return_, 1) := by decide +kernel
set_option maxRecDepth 20000 in
theorem ggX4_takeBack_X3_become : GoodIn wsX4_takeBack wsX3_become := goodIn_r _ [7, 8, 9, 10, 11, 12, 13, 14, 15, 16, 17, 18, 19, 20, 21, 22, 23, 24, 25, 26, 30, 31, 32, 33, 34, 35, 36, 37, 38, 39, 40, 41, 42, 43, 44] (by decide +kernel) (by decide +kernel)
set_option maxRecDepth 20000 in
theorem gX4_takeBack_X3_become : GoodIn wsX4_takeBack (wsV RX4 32 RX3 yX3_become wsX3_become) := goodIn_app (goodIn_of _ (by decide +kernel)) ggX4_takeBack_X3_become
theorem dX4_takeBack_0 : decode cX4_takeBack 0 = .ok (.aload_n 1, 1) := by decide +kernel
theorem dX4_takeBack_1 : decode cX4_takeBack 1 = .ok (.aload_n 0, 1) := by decide +kernel
theorem dX4_takeBack_2 : decode cX4_takeBack 2 = .ok (.getfield 13, 3) := by decide +kernel
theorem dX4_takeBack_5 : decode cX4_takeBack 5 = .ok (.aload_n 0, 1) := by decide +kernel
theorem dX4_takeBack_6 : decode cX4_takeBack 6 = .ok (.getfield 17, 3) := by decide +kernel
theorem dX4_takeBack_9 : decode cX4_takeBack 9 = .ok (.aaload, 1) := by decide +kernel
theorem dX4_takeBack_10 : decode cX4_takeBack 10 = .ok (.invokevirtual 32, 3) := by decide +kernel
theorem dX4_takeBack_13 : decode cX4_takeBack 13 = .ok (.return_, 1) := by decide +kernel
set_option maxRecDepth 20000 in
theorem ggX4_stepBack_X3_become : GoodIn wsX4_stepBack wsX3_become := goodIn_r _ [8, 9, 10, 11, 12, 13, 14, 15, 16, 17, 18, 19, 20, 21, 22, 23, 24, 25, 26, 27, 31, 32, 33, 34, 35, 36, 37, 38, 39, 40, 41, 42, 43, 44, 45] (by decide +kernel) (by decide +kernel)
set_option maxRecDepth 20000 in
theorem gX4_stepBack_X3_become : GoodIn wsX4_stepBack (wsV RX4 32 RX3 yX3_become wsX3_become) := goodIn_app (goodIn_of _ (by decide +kernel)) ggX4_stepBack_X3_become
theorem dX4_stepBack_0 : decode cX4_stepBack 0 = .ok (.aload_n 0, 1) := by decide +kernel
theorem dX4_stepBack_1 : decode cX4_stepBack 1 = .ok (.aload_n 0, 1) := by decide +kernel
theorem dX4_stepBack_2 : decode cX4_stepBack 2 = .ok (.getfield 17, 3) := by decide +kernel
theorem dX4_stepBack_5 : decode cX4_stepBack 5 = .ok (.ifCond .le 12, 3) := by decide +kernel
theorem dX4_stepBack_8 : decode cX4_stepBack 8 = .ok (.aload_n 0, 1) := by decide +kernel
theorem dX4_stepBack_9 : decode cX4_stepBack 9 = .ok (.getfield 17, 3) := by decide +kernel
theorem dX4_stepBack_12 : decode cX4_stepBack 12 = .ok (.iconst 1, 1) := by decide +kernel
theorem dX4_stepBack_13 : decode cX4_stepBack 13 = .ok (.isub, 1) := by decide +kernel
theorem dX4_stepBack_14 : decode cX4_stepBack 14 = .ok (.goto 5, 3) := by decide +kernel
theorem dX4_stepBack_17 : decode cX4_stepBack 17 = .ok (.bipush 8, 2) := by decide +kernel
theorem dX4_stepBack_19 : decode cX4_stepBack 19 = .ok (.putfield 17, 3) := by decide +kernel
theorem dX4_stepBack_22 : decode cX4_stepBack 22 = .ok (.aload_n 1, 1) := by decide +kernel
theorem dX4_stepBack_23 : decode cX4_stepBack 23 = .ok (.aload_n 0, 1) := by decide +kernel
theorem dX4_stepBack_24 : decode cX4_stepBack 24 = .ok (.getfield 13, 3) := by decide +kernel
theorem dX4_stepBack_27 : decode cX4_stepBack 27 = .ok (.aload_n 0, 1) := by decide +kernel
theorem dX4_stepBack_28 : decode cX4_stepBack 28 = .ok (.getfield 17, 3) := by decide +kernel
theorem dX4_stepBack_31 : decode cX4_stepBack 31 = .ok (.aaload, 1) := by decide +kernel
theorem dX4_stepBack_32 : decode cX4_stepBack 32 = .ok (.invokevirtual 32, 3) := by decide +kernel
theorem dX4_stepBack_35 : decode cX4_stepBack 35 = .ok (.aload_n 0, 1) := by decide +kernel
theorem dX4_stepBack_36 : decode cX4_stepBack 36 = .ok (.dup, 1) := by decide +kernel
theorem dX4_stepBack_37 : decode cX4_stepBack 37 = .ok (.getfield 21, 3) := by decide +kernel
theorem dX4_stepBack_40 : decode cX4_stepBack 40 = .ok (.iconst 1, 1) := by decide +kernel
theorem dX4_stepBack_41 : decode cX4_stepBack 41 = .ok (.isub, 1) := by decide +kernel
theorem dX4_stepBack_42 : decode cX4_stepBack 42 = .ok (.putfield 21, 3) := by decide +kernel
theorem dX4_stepBack_45 : decode cX4_stepBack 45 = .ok (.aload_n 0, 1) := by decide +kernel
theorem dX4_stepBack_46 : decode cX4_stepBack 46 = .ok (.getfield 21, 3) := by decide +kernel
theorem dX4_stepBack_49 : decode cX4_stepBack 49 = .ok (.ireturn, 1) := by decide +kernel
theorem dX4_forget_0 : decode cX4_forget 0 = .ok (.aload_n 0, 1) := by decide +kernel
theorem dX4_forget_1 : decode cX4_forget 1 = .ok (.iconst 0, 1) := by decide +kernel
theorem dX4_forget_2 : decode cX4_forget 2 = .ok (.putfield 21, 3) := by decide +kernel
theorem dX4_forget_5 : decode cX4_forget 5 = .ok (.return_, 1) := by decide +kernel
set_option maxRecDepth 20000 in
theorem ggX5_init_X3_init : GoodIn wsX5_init wsX3_init := goodIn_ca (goodIn_r _ [26, 27, 2, 3, 28, 29, 30, 31, 32, 33, 34, 35, 36, 37, 38, 39, 40, 41, 42, 43, 44, 67, 68, 69, 70, 71, 72, 73, 74, 75, 76, 77, 78, 79, 80, 81] (by decide +kernel) (by decide +kernel)) (goodIn_sub (fun _ h => List.mem_cons_of_mem _ (List.mem_append_right _ h)) (by decide +kernel))
set_option maxRecDepth 20000 in
theorem gX5_init_X3_init : GoodIn wsX5_init (wsX3_init) := ggX5_init_X3_init
set_option maxRecDepth 20000 in
theorem ggX5_init_X4_init : GoodIn wsX5_init wsX4_init := goodIn_ca (goodIn_r _ [47, 48, 2, 3, 49, 50, 51, 52, 5, 6, 53, 25, 26, 27, 28, 29, 30, 31, 32, 33, 34, 35, 36, 37, 38, 39, 40, 41, 42, 43, 44, 92, 93, 94, 67, 68, 69, 70, 71, 72, 73, 74, 75, 76, 77, 78, 79, 80, 81] (by decide +kernel) (by decide +kernel)) (goodIn_sub (fun _ h => List.mem_cons_of_mem _ (List.mem_append_right _ h)) (by decide +kernel))
set_option maxRecDepth 20000 in
theorem gX5_init_X4_init : GoodIn wsX5_init (wsX4_init) := ggX5_init_X4_init
set_option maxRecDepth 20000 in
theorem ggX5_init_X2_init : GoodIn wsX5_init wsX2_init := goodIn_r _ [56, 57, 2, 3, 17, 58, 59, 60, 61, 28, 62, 63, 64, 65, 66, 95, 96, 97, 98, 99, 100, 101] (by decide +kernel) (by decide +kernel)
set_option maxRecDepth 20000 in
theorem gX5_init_X2_init : GoodIn wsX5_init (wsX2_init) := ggX5_init_X2_init
theorem dX5_init_0 : decode cX5_init 0 = .ok (.aload_n 0, 1) := by decide +kernel
theorem dX5_init_1 : decode cX5_init 1 = .ok (.invokespecial 1, 3) := by decide +kernel
theorem dX5_init_4 : decode cX5_init 4 = .ok (.aload_n 0, 1) := by decide +kernel
theorem dX5_init_5 : decode cX5_init 5 = .ok (.new 7, 3) := by decide +kernel
theorem dX5_init_8 : decode cX5_init 8 = .ok (.dup, 1) := by decide +kernel
theorem dX5_init_9 : decode cX5_init 9 = .ok (.invokespecial 9, 3) := by decide +kernel
theorem dX5_init_12 : decode cX5_init 12 = .ok (.putfield 10, 3) := by decide +kernel
theorem dX5_init_15 : decode cX5_init 15 = .ok (.aload_n 0, 1) := by decide +kernel
theorem dX5_init_16 : decode cX5_init 16 = .ok (.new 7, 3) := by decide +kernel
theorem dX5_init_19 : decode cX5_init 19 = .ok (.dup, 1) := by decide +kernel
theorem dX5_init_20 : decode cX5_init 20 = .ok (.invokespecial 9, 3) := by decide +kernel
theorem dX5_init_23 : decode cX5_init 23 = .ok (.putfield 16, 3) := by decide +kernel
theorem dX5_init_26 : decode cX5_init 26 = .ok (.aload_n 0, 1) := by decide +kernel
theorem dX5_init_27 : decode cX5_init 27 = .ok (.new 19, 3) := by decide +kernel
theorem dX5_init_30 : decode cX5_init 30 = .ok (.dup, 1) := by decide +kernel
theorem dX5_init_31 : decode cX5_init 31 = .ok (.invokespecial 21, 3) := by decide +kernel
theorem dX5_init_34 : decode cX5_init 34 = .ok (.putfield 22, 3) := by decide +kernel
theorem dX5_init_37 : decode cX5_init 37 = .ok (.aload_n 0, 1) := by decide +kernel
theorem dX5_init_38 : decode cX5_init 38 = .ok (.new 26, 3) := by decide +kernel
theorem dX5_init_41 : decode cX5_init 41 = .ok (.dup, 1) := by decide +kernel
theorem dX5_init_42 : decode cX5_init 42 = .ok (.invokespecial 28, 3) := by decide +kernel
theorem dX5_init_45 : decode cX5_init 45 = .ok (.putfield 29, 3) := by decide +kernel
theorem dX5_init_48 : decode cX5_init 48 = .ok (.aload_n 0, 1) := by decide +kernel
theorem dX5_init_49 : decode cX5_init 49 = .ok (.bipush 10, 2) := by decide +kernel
theorem dX5_init_51 : decode cX5_init 51 = .ok (.newarray .char, 2) := by decide +kernel
theorem dX5_init_53 : decode cX5_init 53 = .ok (.putfield 33, 3) := by decide +kernel
theorem dX5_init_56 : decode cX5_init 56 = .ok (.aload_n 0, 1) := by decide +kernel
theorem dX5_init_57 : decode cX5_init 57 = .ok (.iconst 0, 1) := by decide +kernel
theorem dX5_init_58 : decode cX5_init 58 = .ok (.putfield 37, 3) := by decide +kernel
theorem dX5_init_61 : decode cX5_init 61 = .ok (.aload_n 0, 1) := by decide +kernel
theorem dX5_init_62 : decode cX5_init 62 = .ok (.iconst 0, 1) := by decide +kernel
theorem dX5_init_63 : decode cX5_init 63 = .ok (.putfield 41, 3) := by decide +kernel
theorem dX5_init_66 : decode cX5_init 66 = .ok (.aload_n 0, 1) := by decide +kernel
theorem dX5_init_67 : decode cX5_init 67 = .ok (.iconst (-1), 1) := by decide +kernel
theorem dX5_init_68 : decode cX5_init 68 = .ok (.putfield 45, 3) := by decide +kernel
theorem dX5_init_71 : decode cX5_init 71 = .ok (.aload_n 0, 1) := by decide +kernel
theorem dX5_init_72 : decode cX5_init 72 = .ok (.iconst (-1), 1) := by decide +kernel
theorem dX5_init_73 : decode cX5_init 73 = .ok (.putfield 48, 3) := by decide +kernel
theorem dX5_init_76 : decode cX5_init 76 = .ok (.aload_n 0, 1) := by decide +kernel
theorem dX5_init_77 : decode cX5_init 77 = .ok (.iconst (-1), 1) := by decide +kernel
theorem dX5_init_78 : decode cX5_init 78 = .ok (.putfield 51, 3) := by decide +kernel
theorem dX5_init_81 : decode cX5_init 81 = .ok (.return_, 1) := by decide +kernel
set_option maxRecDepth 20000 in
theorem ggX5_addGuest_X3_refusalOfGuest : GoodIn wsX5_addGuest wsX3_refusalOfGuest := goodIn_r _ [11, 12, 69, 70, 71, 72, 73, 74, 75, 76, 77, 78, 79, 80, 81, 82, 83] (by decide +kernel) (by decide +kernel)
set_option maxRecDepth 20000 in
theorem gX5_addGuest_X3_refusalOfGuest : GoodIn wsX5_addGuest (wsV RX5 54 RX3 yX3_refusalOfGuest wsX3_refusalOfGuest) := goodIn_app (goodIn_of _ (by decide +kernel)) ggX5_addGuest_X3_refusalOfGuest
set_option maxRecDepth 20000 in
theorem ggX5_addGuest_X4_remember : GoodIn wsX5_addGuest wsX4_remember := goodIn_r _ [17, 18, 19, 20, 16, 21, 22, 23, 24, 25, 26, 10, 27, 28, 29, 30, 31, 32, 33, 34, 35, 36, 37, 38, 39, 40, 12, 41, 42, 43, 44, 45, 46, 47, 48, 49, 50, 51, 52, 53, 54, 84, 85, 86, 69, 70, 71, 72, 73, 74, 75, 76, 77, 78, 79, 80, 81, 82, 83] (by decide +kernel) (by decide +kernel)
set_option maxRecDepth 20000 in
theorem gX5_addGuest_X4_remember : GoodIn wsX5_addGuest (wsV RX5 70 RX4 yX4_remember wsX4_remember) := goodIn_app (goodIn_of _ (by decide +kernel)) ggX5_addGuest_X4_remember
set_option maxRecDepth 20000 in
theorem ggX5_addGuest_X3_welcome : GoodIn wsX5_addGuest wsX3_welcome := goodIn_ca (goodIn_r _ [58, 12, 28, 33, 69, 70, 71, 72, 73, 74, 75, 76, 77, 78, 79, 80, 81, 82, 83] (by decide +kernel) (by decide +kernel)) (goodIn_sub (fun _ h => List.mem_cons_of_mem _ (List.mem_append_right _ h)) (by decide +kernel))
set_option maxRecDepth 20000 in
theorem gX5_addGuest_X3_welcome : GoodIn wsX5_addGuest (wsV RX5 74 RX3 yX3_welcome wsX3_welcome) := goodIn_app (goodIn_of _ (by decide +kernel)) ggX5_addGuest_X3_welcome
theorem dX5_addGuest_0 : decode cX5_addGuest 0 = .ok (.aload_n 0, 1) := by decide +kernel
theorem dX5_addGuest_1 : decode cX5_addGuest 1 = .ok (.getfield 10, 3) := by decide +kernel
theorem dX5_addGuest_4 : decode cX5_addGuest 4 = .ok (.iload_n 1, 1) := by decide +kernel
theorem dX5_addGuest_5 : decode cX5_addGuest 5 = .ok (.iload_n 2, 1) := by decide +kernel
theorem dX5_addGuest_6 : decode cX5_addGuest 6 = .ok (.invokevirtual 54, 3) := by decide +kernel
theorem dX5_addGuest_9 : decode cX5_addGuest 9 = .ok (.istore_n 3, 1) := by decide +kernel
theorem dX5_addGuest_10 : decode cX5_addGuest 10 = .ok (.iload_n 3, 1) := by decide +kernel
theorem dX5_addGuest_11 : decode cX5_addGuest 11 = .ok (.iconst 1, 1) := by decide +kernel
theorem dX5_addGuest_12 : decode cX5_addGuest 12 = .ok (.if_icmp .ne 13, 3) := by decide +kernel
theorem dX5_addGuest_15 : decode cX5_addGuest 15 = .ok (.new 58, 3) := by decide +kernel
theorem dX5_addGuest_18 : decode cX5_addGuest 18 = .ok (.dup, 1) := by decide +kernel
theorem dX5_addGuest_19 : decode cX5_addGuest 19 = .ok (.ldc 60, 2) := by decide +kernel
theorem dX5_addGuest_21 : decode cX5_addGuest 21 = .ok (.invokespecial 62, 3) := by decide +kernel
theorem dX5_addGuest_24 : decode cX5_addGuest 24 = .ok (.athrow, 1) := by decide +kernel
theorem dX5_addGuest_25 : decode cX5_addGuest 25 = .ok (.iload_n 3, 1) := by decide +kernel
theorem dX5_addGuest_26 : decode cX5_addGuest 26 = .ok (.ifCond .eq 13, 3) := by decide +kernel
theorem dX5_addGuest_29 : decode cX5_addGuest 29 = .ok (.new 65, 3) := by decide +kernel
theorem dX5_addGuest_32 : decode cX5_addGuest 32 = .ok (.dup, 1) := by decide +kernel
theorem dX5_addGuest_33 : decode cX5_addGuest 33 = .ok (.ldc 67, 2) := by decide +kernel
theorem dX5_addGuest_35 : decode cX5_addGuest 35 = .ok (.invokespecial 69, 3) := by decide +kernel
theorem dX5_addGuest_38 : decode cX5_addGuest 38 = .ok (.athrow, 1) := by decide +kernel
theorem dX5_addGuest_39 : decode cX5_addGuest 39 = .ok (.aload_n 0, 1) := by decide +kernel
theorem dX5_addGuest_40 : decode cX5_addGuest 40 = .ok (.getfield 22, 3) := by decide +kernel
theorem dX5_addGuest_43 : decode cX5_addGuest 43 = .ok (.aload_n 0, 1) := by decide +kernel
theorem dX5_addGuest_44 : decode cX5_addGuest 44 = .ok (.getfield 10, 3) := by decide +kernel
theorem dX5_addGuest_47 : decode cX5_addGuest 47 = .ok (.invokevirtual 70, 3) := by decide +kernel
theorem dX5_addGuest_50 : decode cX5_addGuest 50 = .ok (.aload_n 0, 1) := by decide +kernel
theorem dX5_addGuest_51 : decode cX5_addGuest 51 = .ok (.getfield 10, 3) := by decide +kernel
theorem dX5_addGuest_54 : decode cX5_addGuest 54 = .ok (.iload_n 1, 1) := by decide +kernel
theorem dX5_addGuest_55 : decode cX5_addGuest 55 = .ok (.iload_n 2, 1) := by decide +kernel
theorem dX5_addGuest_56 : decode cX5_addGuest 56 = .ok (.invokevirtual 74, 3) := by decide +kernel
theorem dX5_addGuest_59 : decode cX5_addGuest 59 = .ok (.ireturn, 1) := by decide +kernel
set_option maxRecDepth 20000 in
theorem ggX5_giveFeather_X3_refusalOfFeather : GoodIn wsX5_giveFeather wsX3_refusalOfFeather := goodIn_ca (goodIn_r _ [11, 12, 13, 14, 15, 10, 16, 17, 73, 74, 75, 76, 77, 78, 79, 80, 81, 82, 83, 84, 85, 86, 87] (by decide +kernel) (by decide +kernel)) (goodIn_sub (fun _ h => List.mem_cons_of_mem _ (List.mem_append_right _ h)) (by decide +kernel))
set_option maxRecDepth 20000 in
theorem gX5_giveFeather_X3_refusalOfFeather : GoodIn wsX5_giveFeather (wsV RX5 77 RX3 yX3_refusalOfFeather wsX3_refusalOfFeather) := goodIn_app (goodIn_of _ (by decide +kernel)) ggX5_giveFeather_X3_refusalOfFeather
set_option maxRecDepth 20000 in
theorem ggX5_giveFeather_X4_remember : GoodIn wsX5_giveFeather wsX4_remember := goodIn_r _ [22, 23, 24, 25, 21, 26, 27, 28, 29, 30, 31, 10, 32, 12, 33, 34, 35, 36, 37, 38, 39, 40, 41, 42, 43, 44, 17, 45, 46, 47, 48, 49, 50, 51, 52, 53, 54, 55, 56, 57, 58, 88, 89, 90, 73, 74, 75, 76, 77, 78, 79, 80, 81, 82, 83, 84, 85, 86, 87] (by decide +kernel) (by decide +kernel)
set_option maxRecDepth 20000 in
theorem gX5_giveFeather_X4_remember : GoodIn wsX5_giveFeather (wsV RX5 70 RX4 yX4_remember wsX4_remember) := goodIn_app (goodIn_of _ (by decide +kernel)) ggX5_giveFeather_X4_remember
set_option maxRecDepth 20000 in
theorem ggX5_giveFeather_X3_gainFeather : GoodIn wsX5_giveFeather wsX3_gainFeather := goodIn_ca (goodIn_r _ [62, 12, 73, 74, 75, 76, 77, 78, 79, 80, 81, 82, 83, 84, 85, 86, 87] (by decide +kernel) (by decide +kernel)) (goodIn_sub (fun _ h => List.mem_cons_of_mem _ (List.mem_append_right _ h)) (by decide +kernel))
set_option maxRecDepth 20000 in
theorem gX5_giveFeather_X3_gainFeather : GoodIn wsX5_giveFeather (wsV RX5 88 RX3 yX3_gainFeather wsX3_gainFeather) := goodIn_app (goodIn_of _ (by decide +kernel)) ggX5_giveFeather_X3_gainFeather
theorem dX5_giveFeather_0 : decode cX5_giveFeather 0 = .ok (.aload_n 0, 1) := by decide +kernel
theorem dX5_giveFeather_1 : decode cX5_giveFeather 1 = .ok (.getfield 10, 3) := by decide +kernel
theorem dX5_giveFeather_4 : decode cX5_giveFeather 4 = .ok (.iload_n 1, 1) := by decide +kernel
theorem dX5_giveFeather_5 : decode cX5_giveFeather 5 = .ok (.invokevirtual 77, 3) := by decide +kernel
theorem dX5_giveFeather_8 : decode cX5_giveFeather 8 = .ok (.istore_n 2, 1) := by decide +kernel
theorem dX5_giveFeather_9 : decode cX5_giveFeather 9 = .ok (.iload_n 2, 1) := by decide +kernel
theorem dX5_giveFeather_10 : decode cX5_giveFeather 10 = .ok (.iconst 1, 1) := by decide +kernel
theorem dX5_giveFeather_11 : decode cX5_giveFeather 11 = .ok (.if_icmp .ne 13, 3) := by decide +kernel
theorem dX5_giveFeather_14 : decode cX5_giveFeather 14 = .ok (.new 81, 3) := by decide +kernel
theorem dX5_giveFeather_17 : decode cX5_giveFeather 17 = .ok (.dup, 1) := by decide +kernel
theorem dX5_giveFeather_18 : decode cX5_giveFeather 18 = .ok (.ldc 83, 2) := by decide +kernel
theorem dX5_giveFeather_20 : decode cX5_giveFeather 20 = .ok (.invokespecial 85, 3) := by decide +kernel
theorem dX5_giveFeather_23 : decode cX5_giveFeather 23 = .ok (.athrow, 1) := by decide +kernel
theorem dX5_giveFeather_24 : decode cX5_giveFeather 24 = .ok (.iload_n 2, 1) := by decide +kernel
theorem dX5_giveFeather_25 : decode cX5_giveFeather 25 = .ok (.ifCond .eq 13, 3) := by decide +kernel
theorem dX5_giveFeather_28 : decode cX5_giveFeather 28 = .ok (.new 65, 3) := by decide +kernel
theorem dX5_giveFeather_31 : decode cX5_giveFeather 31 = .ok (.dup, 1) := by decide +kernel
theorem dX5_giveFeather_32 : decode cX5_giveFeather 32 = .ok (.ldc 86, 2) := by decide +kernel
theorem dX5_giveFeather_34 : decode cX5_giveFeather 34 = .ok (.invokespecial 69, 3) := by decide +kernel
theorem dX5_giveFeather_37 : decode cX5_giveFeather 37 = .ok (.athrow, 1) := by decide +kernel
theorem dX5_giveFeather_38 : decode cX5_giveFeather 38 = .ok (.aload_n 0, 1) := by decide +kernel
theorem dX5_giveFeather_39 : decode cX5_giveFeather 39 = .ok (.getfield 22, 3) := by decide +kernel
theorem dX5_giveFeather_42 : decode cX5_giveFeather 42 = .ok (.aload_n 0, 1) := by decide +kernel
theorem dX5_giveFeather_43 : decode cX5_giveFeather 43 = .ok (.getfield 10, 3) := by decide +kernel
theorem dX5_giveFeather_46 : decode cX5_giveFeather 46 = .ok (.invokevirtual 70, 3) := by decide +kernel
theorem dX5_giveFeather_49 : decode cX5_giveFeather 49 = .ok (.aload_n 0, 1) := by decide +kernel
theorem dX5_giveFeather_50 : decode cX5_giveFeather 50 = .ok (.getfield 10, 3) := by decide +kernel
theorem dX5_giveFeather_53 : decode cX5_giveFeather 53 = .ok (.iload_n 1, 1) := by decide +kernel
theorem dX5_giveFeather_54 : decode cX5_giveFeather 54 = .ok (.invokevirtual 88, 3) := by decide +kernel
theorem dX5_giveFeather_57 : decode cX5_giveFeather 57 = .ok (.ireturn, 1) := by decide +kernel
set_option maxRecDepth 20000 in
theorem ggX5_placeHat_X3_refusalOfHat : GoodIn wsX5_placeHat wsX3_refusalOfHat := goodIn_ca (goodIn_r _ [13, 14, 15, 16, 12, 17, 18, 19, 20, 21, 22, 23, 24, 25, 26, 27, 28, 29, 30, 31, 100, 101, 102, 103, 104, 105, 106, 107, 108, 109, 110, 111, 112, 113, 114] (by decide +kernel) (by decide +kernel)) (goodIn_sub (fun _ h => List.mem_cons_of_mem _ (List.mem_append_right _ h)) (by decide +kernel))
set_option maxRecDepth 20000 in
theorem gX5_placeHat_X3_refusalOfHat : GoodIn wsX5_placeHat (wsV RX5 91 RX3 yX3_refusalOfHat wsX3_refusalOfHat) := goodIn_app (goodIn_of _ (by decide +kernel)) ggX5_placeHat_X3_refusalOfHat
set_option maxRecDepth 20000 in
theorem ggX5_placeHat_X4_remember : GoodIn wsX5_placeHat wsX4_remember := goodIn_r _ [36, 37, 38, 39, 35, 40, 41, 42, 43, 44, 45, 12, 46, 47, 48, 49, 50, 51, 52, 26, 53, 31, 54, 55, 56, 57, 18, 58, 59, 60, 61, 62, 63, 64, 65, 66, 67, 68, 69, 70, 71, 115, 116, 117, 100, 101, 102, 103, 104, 105, 106, 107, 108, 109, 110, 111, 112, 113, 114] (by decide +kernel) (by decide +kernel)
set_option maxRecDepth 20000 in
theorem gX5_placeHat_X4_remember : GoodIn wsX5_placeHat (wsV RX5 70 RX4 yX4_remember wsX4_remember) := goodIn_app (goodIn_of _ (by decide +kernel)) ggX5_placeHat_X4_remember
set_option maxRecDepth 20000 in
theorem ggX5_placeHat_X3_putHat : GoodIn wsX5_placeHat wsX3_putHat := goodIn_ca (goodIn_r _ [75, 26, 53, 58, 31, 52, 76, 77, 78, 12, 79, 80, 81, 82, 83, 84, 85, 86, 87, 88, 89, 100, 101, 102, 103, 104, 105, 106, 107, 108, 109, 110, 111, 112, 113, 114] (by decide +kernel) (by decide +kernel)) (goodIn_sub (fun _ h => List.mem_cons_of_mem _ (List.mem_append_right _ h)) (by decide +kernel))
set_option maxRecDepth 20000 in
theorem gX5_placeHat_X3_putHat : GoodIn wsX5_placeHat (wsV RX5 103 RX3 yX3_putHat wsX3_putHat) := goodIn_app (goodIn_of _ (by decide +kernel)) ggX5_placeHat_X3_putHat
theorem dX5_placeHat_0 : decode cX5_placeHat 0 = .ok (.aload_n 0, 1) := by decide +kernel
theorem dX5_placeHat_1 : decode cX5_placeHat 1 = .ok (.getfield 10, 3) := by decide +kernel
theorem dX5_placeHat_4 : decode cX5_placeHat 4 = .ok (.iload_n 1, 1) := by decide +kernel
theorem dX5_placeHat_5 : decode cX5_placeHat 5 = .ok (.iload_n 2, 1) := by decide +kernel
theorem dX5_placeHat_6 : decode cX5_placeHat 6 = .ok (.invokevirtual 91, 3) := by decide +kernel
theorem dX5_placeHat_9 : decode cX5_placeHat 9 = .ok (.istore_n 3, 1) := by decide +kernel
theorem dX5_placeHat_10 : decode cX5_placeHat 10 = .ok (.iload_n 3, 1) := by decide +kernel
theorem dX5_placeHat_11 : decode cX5_placeHat 11 = .ok (.iconst 1, 1) := by decide +kernel
theorem dX5_placeHat_12 : decode cX5_placeHat 12 = .ok (.if_icmp .ne 13, 3) := by decide +kernel
theorem dX5_placeHat_15 : decode cX5_placeHat 15 = .ok (.new 81, 3) := by decide +kernel
theorem dX5_placeHat_18 : decode cX5_placeHat 18 = .ok (.dup, 1) := by decide +kernel
theorem dX5_placeHat_19 : decode cX5_placeHat 19 = .ok (.ldc 94, 2) := by decide +kernel
theorem dX5_placeHat_21 : decode cX5_placeHat 21 = .ok (.invokespecial 85, 3) := by decide +kernel
theorem dX5_placeHat_24 : decode cX5_placeHat 24 = .ok (.athrow, 1) := by decide +kernel
theorem dX5_placeHat_25 : decode cX5_placeHat 25 = .ok (.iload_n 3, 1) := by decide +kernel
theorem dX5_placeHat_26 : decode cX5_placeHat 26 = .ok (.iconst 2, 1) := by decide +kernel
theorem dX5_placeHat_27 : decode cX5_placeHat 27 = .ok (.if_icmp .ne 13, 3) := by decide +kernel
theorem dX5_placeHat_30 : decode cX5_placeHat 30 = .ok (.new 65, 3) := by decide +kernel
theorem dX5_placeHat_33 : decode cX5_placeHat 33 = .ok (.dup, 1) := by decide +kernel
theorem dX5_placeHat_34 : decode cX5_placeHat 34 = .ok (.ldc 96, 2) := by decide +kernel
theorem dX5_placeHat_36 : decode cX5_placeHat 36 = .ok (.invokespecial 69, 3) := by decide +kernel
theorem dX5_placeHat_39 : decode cX5_placeHat 39 = .ok (.athrow, 1) := by decide +kernel
theorem dX5_placeHat_40 : decode cX5_placeHat 40 = .ok (.iload_n 3, 1) := by decide +kernel
theorem dX5_placeHat_41 : decode cX5_placeHat 41 = .ok (.ifCond .eq 13, 3) := by decide +kernel
theorem dX5_placeHat_44 : decode cX5_placeHat 44 = .ok (.new 98, 3) := by decide +kernel
theorem dX5_placeHat_47 : decode cX5_placeHat 47 = .ok (.dup, 1) := by decide +kernel
theorem dX5_placeHat_48 : decode cX5_placeHat 48 = .ok (.ldc 100, 2) := by decide +kernel
theorem dX5_placeHat_50 : decode cX5_placeHat 50 = .ok (.invokespecial 102, 3) := by decide +kernel
theorem dX5_placeHat_53 : decode cX5_placeHat 53 = .ok (.athrow, 1) := by decide +kernel
theorem dX5_placeHat_54 : decode cX5_placeHat 54 = .ok (.aload_n 0, 1) := by decide +kernel
theorem dX5_placeHat_55 : decode cX5_placeHat 55 = .ok (.getfield 22, 3) := by decide +kernel
theorem dX5_placeHat_58 : decode cX5_placeHat 58 = .ok (.aload_n 0, 1) := by decide +kernel
theorem dX5_placeHat_59 : decode cX5_placeHat 59 = .ok (.getfield 10, 3) := by decide +kernel
theorem dX5_placeHat_62 : decode cX5_placeHat 62 = .ok (.invokevirtual 70, 3) := by decide +kernel
theorem dX5_placeHat_65 : decode cX5_placeHat 65 = .ok (.aload_n 0, 1) := by decide +kernel
theorem dX5_placeHat_66 : decode cX5_placeHat 66 = .ok (.getfield 10, 3) := by decide +kernel
theorem dX5_placeHat_69 : decode cX5_placeHat 69 = .ok (.iload_n 1, 1) := by decide +kernel
theorem dX5_placeHat_70 : decode cX5_placeHat 70 = .ok (.iload_n 2, 1) := by decide +kernel
theorem dX5_placeHat_71 : decode cX5_placeHat 71 = .ok (.invokevirtual 103, 3) := by decide +kernel
theorem dX5_placeHat_74 : decode cX5_placeHat 74 = .ok (.ireturn, 1) := by decide +kernel
set_option maxRecDepth 20000 in
theorem ggX5_removeHat_X5_requirePlacedHat : GoodIn wsX5_removeHat wsX5_requirePlacedHat := goodIn_ca (goodIn_ca (goodIn_ca (goodIn_r _ [7, 8, 9, 10, 11, 2, 12, 13, 14, 15, 16, 17, 18, 19, 20, 21, 22, 23, 24, 25, 26, 114, 115, 116, 117, 118, 119, 120, 121, 122, 123, 124, 125, 126, 127, 128, 129, 130, 131, 132, 133, 134, 135, 136, 137, 138] (by decide +kernel) (by decide +kernel)) (goodIn_sub (fun _ h => List.mem_cons_of_mem _ (List.mem_append_left _ (List.mem_append_left _ (List.mem_append_right _ h)))) (by decide +kernel))) (goodIn_sub (fun _ h => List.mem_cons_of_mem _ (List.mem_append_left _ (List.mem_append_right _ h))) (by decide +kernel))) (goodIn_sub (fun _ h => List.mem_cons_of_mem _ (List.mem_append_right _ h)) (by decide +kernel))
set_option maxRecDepth 20000 in
theorem gX5_removeHat_X5_requirePlacedHat : GoodIn wsX5_removeHat (wsV RX5 106 RX5 yX5_requirePlacedHat wsX5_requirePlacedHat) := goodIn_app (goodIn_of _ (by decide +kernel)) ggX5_removeHat_X5_requirePlacedHat
set_option maxRecDepth 20000 in
theorem ggX5_removeHat_X4_remember : GoodIn wsX5_removeHat wsX4_remember := goodIn_r _ [31, 32, 33, 34, 30, 35, 36, 37, 38, 39, 40, 15, 41, 42, 43, 44, 45, 46, 47, 26, 48, 49, 50, 51, 52, 53, 21, 54, 55, 56, 57, 58, 59, 60, 61, 62, 63, 64, 65, 66, 67, 139, 140, 141, 124, 125, 126, 127, 128, 129, 130, 131, 132, 133, 134, 135, 136, 137, 138] (by decide +kernel) (by decide +kernel)
set_option maxRecDepth 20000 in
theorem gX5_removeHat_X4_remember : GoodIn wsX5_removeHat (wsV RX5 70 RX4 yX4_remember wsX4_remember) := goodIn_app (goodIn_of _ (by decide +kernel)) ggX5_removeHat_X4_remember
set_option maxRecDepth 20000 in
theorem ggX5_removeHat_X3_giveChairsBack : GoodIn wsX5_removeHat wsX3_giveChairsBack := goodIn_ca (goodIn_r _ [71, 72, 73, 74, 15, 75, 49, 26, 76, 77, 78, 79, 80, 81, 82, 83, 84, 85, 86, 87, 57, 56, 88, 89, 90, 91, 50, 51, 92, 93, 94, 95, 22, 23, 24, 25, 96, 97, 98, 99, 48, 54, 47, 100, 101, 102, 103, 104, 105, 106, 107, 108, 109, 110, 111, 112, 113, 124, 125, 126, 127, 128, 129, 130, 131, 132, 133, 134, 135, 136, 137, 138] (by decide +kernel) (by decide +kernel)) (goodIn_sub (fun _ h => List.mem_cons_of_mem _ (List.mem_append_right _ h)) (by decide +kernel))
set_option maxRecDepth 20000 in
theorem gX5_removeHat_X3_giveChairsBack : GoodIn wsX5_removeHat (wsV RX5 110 RX3 yX3_giveChairsBack wsX3_giveChairsBack) := goodIn_app (goodIn_of _ (by decide +kernel)) ggX5_removeHat_X3_giveChairsBack
theorem dX5_removeHat_0 : decode cX5_removeHat 0 = .ok (.aload_n 0, 1) := by decide +kernel
theorem dX5_removeHat_1 : decode cX5_removeHat 1 = .ok (.iload_n 1, 1) := by decide +kernel
theorem dX5_removeHat_2 : decode cX5_removeHat 2 = .ok (.invokevirtual 106, 3) := by decide +kernel
theorem dX5_removeHat_5 : decode cX5_removeHat 5 = .ok (.aload_n 0, 1) := by decide +kernel
theorem dX5_removeHat_6 : decode cX5_removeHat 6 = .ok (.getfield 22, 3) := by decide +kernel
theorem dX5_removeHat_9 : decode cX5_removeHat 9 = .ok (.aload_n 0, 1) := by decide +kernel
theorem dX5_removeHat_10 : decode cX5_removeHat 10 = .ok (.getfield 10, 3) := by decide +kernel
theorem dX5_removeHat_13 : decode cX5_removeHat 13 = .ok (.invokevirtual 70, 3) := by decide +kernel
theorem dX5_removeHat_16 : decode cX5_removeHat 16 = .ok (.aload_n 0, 1) := by decide +kernel
theorem dX5_removeHat_17 : decode cX5_removeHat 17 = .ok (.getfield 10, 3) := by decide +kernel
theorem dX5_removeHat_20 : decode cX5_removeHat 20 = .ok (.iload_n 1, 1) := by decide +kernel
theorem dX5_removeHat_21 : decode cX5_removeHat 21 = .ok (.invokevirtual 110, 3) := by decide +kernel
theorem dX5_removeHat_24 : decode cX5_removeHat 24 = .ok (.ireturn, 1) := by decide +kernel
set_option maxRecDepth 20000 in
theorem ggX5_touchHat_X5_requirePlacedHat : GoodIn wsX5_touchHat wsX5_requirePlacedHat := goodIn_ca (goodIn_ca (goodIn_ca (goodIn_r _ [7, 8, 9, 10, 11, 2, 12, 13, 14, 15, 16, 17, 18, 19, 20, 21, 22, 23, 24, 25, 26, 76, 77, 78, 79, 80, 81, 82, 83, 84, 85, 86, 87, 88, 89, 90, 91, 92, 93, 94, 95, 96, 97, 98, 99, 100] (by decide +kernel) (by decide +kernel)) (goodIn_sub (fun _ h => List.mem_cons_of_mem _ (List.mem_append_left _ (List.mem_append_left _ (List.mem_append_right _ h)))) (by decide +kernel))) (goodIn_sub (fun _ h => List.mem_cons_of_mem _ (List.mem_append_left _ (List.mem_append_right _ h))) (by decide +kernel))) (goodIn_sub (fun _ h => List.mem_cons_of_mem _ (List.mem_append_right _ h)) (by decide +kernel))
set_option maxRecDepth 20000 in
theorem gX5_touchHat_X5_requirePlacedHat : GoodIn wsX5_touchHat (wsV RX5 106 RX5 yX5_requirePlacedHat wsX5_requirePlacedHat) := goodIn_app (goodIn_of _ (by decide +kernel)) ggX5_touchHat_X5_requirePlacedHat
set_option maxRecDepth 20000 in
theorem ggX5_touchHat_X4_remember : GoodIn wsX5_touchHat wsX4_remember := goodIn_r _ [31, 32, 33, 34, 30, 35, 36, 37, 38, 39, 40, 15, 41, 42, 43, 44, 45, 46, 47, 26, 48, 49, 50, 51, 52, 53, 21, 54, 55, 56, 57, 58, 59, 60, 61, 62, 63, 64, 65, 66, 67, 101, 102, 103, 86, 87, 88, 89, 90, 91, 92, 93, 94, 95, 96, 97, 98, 99, 100] (by decide +kernel) (by decide +kernel)
set_option maxRecDepth 20000 in
theorem gX5_touchHat_X4_remember : GoodIn wsX5_touchHat (wsV RX5 70 RX4 yX4_remember wsX4_remember) := goodIn_app (goodIn_of _ (by decide +kernel)) ggX5_touchHat_X4_remember
set_option maxRecDepth 20000 in
theorem ggX5_touchHat_X3_startIdleTimeAgain : GoodIn wsX5_touchHat wsX3_startIdleTimeAgain := goodIn_ca (goodIn_r _ [71, 48, 54, 72, 73, 74, 15, 75, 86, 87, 88, 89, 90, 91, 92, 93, 94, 95, 96, 97, 98, 99, 100] (by decide +kernel) (by decide +kernel)) (goodIn_sub (fun _ h => List.mem_cons_of_mem _ (List.mem_append_right _ h)) (by decide +kernel))
set_option maxRecDepth 20000 in
theorem gX5_touchHat_X3_startIdleTimeAgain : GoodIn wsX5_touchHat (wsV RX5 113 RX3 yX3_startIdleTimeAgain wsX3_startIdleTimeAgain) := goodIn_app (goodIn_of _ (by decide +kernel)) ggX5_touchHat_X3_startIdleTimeAgain
theorem dX5_touchHat_0 : decode cX5_touchHat 0 = .ok (.aload_n 0, 1) := by decide +kernel
theorem dX5_touchHat_1 : decode cX5_touchHat 1 = .ok (.iload_n 1, 1) := by decide +kernel
theorem dX5_touchHat_2 : decode cX5_touchHat 2 = .ok (.invokevirtual 106, 3) := by decide +kernel
theorem dX5_touchHat_5 : decode cX5_touchHat 5 = .ok (.aload_n 0, 1) := by decide +kernel
theorem dX5_touchHat_6 : decode cX5_touchHat 6 = .ok (.getfield 22, 3) := by decide +kernel
theorem dX5_touchHat_9 : decode cX5_touchHat 9 = .ok (.aload_n 0, 1) := by decide +kernel
theorem dX5_touchHat_10 : decode cX5_touchHat 10 = .ok (.getfield 10, 3) := by decide +kernel
theorem dX5_touchHat_13 : decode cX5_touchHat 13 = .ok (.invokevirtual 70, 3) := by decide +kernel
theorem dX5_touchHat_16 : decode cX5_touchHat 16 = .ok (.aload_n 0, 1) := by decide +kernel
theorem dX5_touchHat_17 : decode cX5_touchHat 17 = .ok (.getfield 10, 3) := by decide +kernel
theorem dX5_touchHat_20 : decode cX5_touchHat 20 = .ok (.iload_n 1, 1) := by decide +kernel
theorem dX5_touchHat_21 : decode cX5_touchHat 21 = .ok (.invokevirtual 113, 3) := by decide +kernel
theorem dX5_touchHat_24 : decode cX5_touchHat 24 = .ok (.ireturn, 1) := by decide +kernel
theorem dX5_guestCount_0 : decode cX5_guestCount 0 = .ok (.aload_n 0, 1) := by decide +kernel
theorem dX5_guestCount_1 : decode cX5_guestCount 1 = .ok (.getfield 10, 3) := by decide +kernel
theorem dX5_guestCount_4 : decode cX5_guestCount 4 = .ok (.getfield 116, 3) := by decide +kernel
theorem dX5_guestCount_7 : decode cX5_guestCount 7 = .ok (.ireturn, 1) := by decide +kernel
set_option maxRecDepth 20000 in
theorem ggX5_feathers_X5_requireGuest : GoodIn wsX5_feathers wsX5_requireGuest := goodIn_ca (goodIn_r _ [7, 8, 9, 1, 10, 11, 12, 13, 14, 15, 16, 17, 18, 19, 20, 21, 22, 23, 24, 25, 26, 27, 28, 29, 30, 31, 32, 33, 34, 35, 36, 37, 38, 39, 40] (by decide +kernel) (by decide +kernel)) (goodIn_sub (fun _ h => List.mem_cons_of_mem _ (List.mem_append_right _ h)) (by decide +kernel))
set_option maxRecDepth 20000 in
theorem gX5_feathers_X5_requireGuest : GoodIn wsX5_feathers (wsV RX5 119 RX5 yX5_requireGuest wsX5_requireGuest) := goodIn_app (goodIn_of _ (by decide +kernel)) ggX5_feathers_X5_requireGuest
theorem dX5_feathers_0 : decode cX5_feathers 0 = .ok (.aload_n 0, 1) := by decide +kernel
theorem dX5_feathers_1 : decode cX5_feathers 1 = .ok (.iload_n 1, 1) := by decide +kernel
theorem dX5_feathers_2 : decode cX5_feathers 2 = .ok (.invokevirtual 119, 3) := by decide +kernel
theorem dX5_feathers_5 : decode cX5_feathers 5 = .ok (.aload_n 0, 1) := by decide +kernel
theorem dX5_feathers_6 : decode cX5_feathers 6 = .ok (.getfield 10, 3) := by decide +kernel
theorem dX5_feathers_9 : decode cX5_feathers 9 = .ok (.getfield 122, 3) := by decide +kernel
theorem dX5_feathers_12 : decode cX5_feathers 12 = .ok (.iload_n 1, 1) := by decide +kernel
theorem dX5_feathers_13 : decode cX5_feathers 13 = .ok (.iaload, 1) := by decide +kernel
theorem dX5_feathers_14 : decode cX5_feathers 14 = .ok (.ireturn, 1) := by decide +kernel
set_option maxRecDepth 20000 in
theorem ggX5_brim_X5_requireGuest : GoodIn wsX5_brim wsX5_requireGuest := goodIn_ca (goodIn_r _ [7, 8, 9, 1, 10, 11, 12, 13, 14, 15, 16, 17, 18, 19, 20, 21, 22, 23, 24, 25, 26, 27, 28, 29, 30, 31, 32, 33, 34, 35, 36, 37, 38, 39, 40] (by decide +kernel) (by decide +kernel)) (goodIn_sub (fun _ h => List.mem_cons_of_mem _ (List.mem_append_right _ h)) (by decide +kernel))
set_option maxRecDepth 20000 in
theorem gX5_brim_X5_requireGuest : GoodIn wsX5_brim (wsV RX5 119 RX5 yX5_requireGuest wsX5_requireGuest) := goodIn_app (goodIn_of _ (by decide +kernel)) ggX5_brim_X5_requireGuest
theorem dX5_brim_0 : decode cX5_brim 0 = .ok (.aload_n 0, 1) := by decide +kernel
theorem dX5_brim_1 : decode cX5_brim 1 = .ok (.iload_n 1, 1) := by decide +kernel
theorem dX5_brim_2 : decode cX5_brim 2 = .ok (.invokevirtual 119, 3) := by decide +kernel
theorem dX5_brim_5 : decode cX5_brim 5 = .ok (.aload_n 0, 1) := by decide +kernel
theorem dX5_brim_6 : decode cX5_brim 6 = .ok (.getfield 10, 3) := by decide +kernel
theorem dX5_brim_9 : decode cX5_brim 9 = .ok (.getfield 126, 3) := by decide +kernel
theorem dX5_brim_12 : decode cX5_brim 12 = .ok (.iload_n 1, 1) := by decide +kernel
theorem dX5_brim_13 : decode cX5_brim 13 = .ok (.iaload, 1) := by decide +kernel
theorem dX5_brim_14 : decode cX5_brim 14 = .ok (.ireturn, 1) := by decide +kernel
set_option maxRecDepth 20000 in
theorem ggX5_isPlaced_X5_requireGuest : GoodIn wsX5_isPlaced wsX5_requireGuest := goodIn_ca (goodIn_r _ [6, 7, 8, 1, 9, 10, 11, 12, 13, 14, 20, 21, 22, 23, 24, 25, 26, 27, 28, 29, 30, 31, 32, 33, 34, 35, 36, 37, 38, 39, 40, 41, 42, 43, 44] (by decide +kernel) (by decide +kernel)) (goodIn_sub (fun _ h => List.mem_cons_of_mem _ (List.mem_append_left _ (List.mem_append_right _ h))) (by decide +kernel))
set_option maxRecDepth 20000 in
theorem gX5_isPlaced_X5_requireGuest : GoodIn wsX5_isPlaced (wsV RX5 119 RX5 yX5_requireGuest wsX5_requireGuest) := goodIn_app (goodIn_of _ (by decide +kernel)) ggX5_isPlaced_X5_requireGuest
set_option maxRecDepth 20000 in
theorem ggX5_isPlaced_X3_hatIsPlaced : GoodIn wsX5_isPlaced wsX3_hatIsPlaced := goodIn_ca (goodIn_r _ [18, 19, 30, 31, 32, 33, 34, 35, 36, 37, 38, 39, 40, 41, 42, 43, 44] (by decide +kernel) (by decide +kernel)) (goodIn_sub (fun _ h => List.mem_cons_of_mem _ (List.mem_append_right _ h)) (by decide +kernel))
set_option maxRecDepth 20000 in
theorem gX5_isPlaced_X3_hatIsPlaced : GoodIn wsX5_isPlaced (wsV RX5 129 RX3 yX3_hatIsPlaced wsX3_hatIsPlaced) := goodIn_app (goodIn_of _ (by decide +kernel)) ggX5_isPlaced_X3_hatIsPlaced
theorem dX5_isPlaced_0 : decode cX5_isPlaced 0 = .ok (.aload_n 0, 1) := by decide +kernel
theorem dX5_isPlaced_1 : decode cX5_isPlaced 1 = .ok (.iload_n 1, 1) := by decide +kernel
theorem dX5_isPlaced_2 : decode cX5_isPlaced 2 = .ok (.invokevirtual 119, 3) := by decide +kernel
theorem dX5_isPlaced_5 : decode cX5_isPlaced 5 = .ok (.aload_n 0, 1) := by decide +kernel
theorem dX5_isPlaced_6 : decode cX5_isPlaced 6 = .ok (.getfield 10, 3) := by decide +kernel
theorem dX5_isPlaced_9 : decode cX5_isPlaced 9 = .ok (.iload_n 1, 1) := by decide +kernel
theorem dX5_isPlaced_10 : decode cX5_isPlaced 10 = .ok (.invokevirtual 129, 3) := by decide +kernel
theorem dX5_isPlaced_13 : decode cX5_isPlaced 13 = .ok (.ireturn, 1) := by decide +kernel
set_option maxRecDepth 20000 in
theorem ggX5_hatChair_X5_requirePlacedHat : GoodIn wsX5_hatChair wsX5_requirePlacedHat := goodIn_ca (goodIn_ca (goodIn_ca (goodIn_r _ [7, 8, 9, 10, 11, 1, 12, 13, 14, 15, 16, 17, 18, 19, 20, 21, 22, 23, 24, 25, 26, 27, 28, 29, 30, 31, 32, 33, 34, 35, 36, 37, 38, 39, 40, 41, 42, 43, 44, 45, 46, 47, 48, 49, 50, 51] (by decide +kernel) (by decide +kernel)) (goodIn_sub (fun _ h => List.mem_cons_of_mem _ (List.mem_append_left _ (List.mem_append_right _ h))) (by decide +kernel))) (goodIn_sub (fun _ h => List.mem_cons_of_mem _ (List.mem_append_right _ h)) (by decide +kernel))) (goodIn_sub (fun _ h => List.mem_cons_of_mem _ (List.mem_append_left _ (List.mem_append_left _ (List.mem_append_right _ h)))) (by decide +kernel))
set_option maxRecDepth 20000 in
theorem gX5_hatChair_X5_requirePlacedHat : GoodIn wsX5_hatChair (wsV RX5 106 RX5 yX5_requirePlacedHat wsX5_requirePlacedHat) := goodIn_app (goodIn_of _ (by decide +kernel)) ggX5_hatChair_X5_requirePlacedHat
theorem dX5_hatChair_0 : decode cX5_hatChair 0 = .ok (.aload_n 0, 1) := by decide +kernel
theorem dX5_hatChair_1 : decode cX5_hatChair 1 = .ok (.iload_n 1, 1) := by decide +kernel
theorem dX5_hatChair_2 : decode cX5_hatChair 2 = .ok (.invokevirtual 106, 3) := by decide +kernel
theorem dX5_hatChair_5 : decode cX5_hatChair 5 = .ok (.aload_n 0, 1) := by decide +kernel
theorem dX5_hatChair_6 : decode cX5_hatChair 6 = .ok (.getfield 10, 3) := by decide +kernel
theorem dX5_hatChair_9 : decode cX5_hatChair 9 = .ok (.getfield 133, 3) := by decide +kernel
theorem dX5_hatChair_12 : decode cX5_hatChair 12 = .ok (.iload_n 1, 1) := by decide +kernel
theorem dX5_hatChair_13 : decode cX5_hatChair 13 = .ok (.iaload, 1) := by decide +kernel
theorem dX5_hatChair_14 : decode cX5_hatChair 14 = .ok (.ireturn, 1) := by decide +kernel
set_option maxRecDepth 20000 in
theorem ggX5_coverSize_X5_requireGuest : GoodIn wsX5_coverSize wsX5_requireGuest := goodIn_ca (goodIn_r _ [6, 7, 8, 1, 9, 10, 11, 12, 13, 14, 27, 28, 29, 30, 31, 32, 33, 34, 35, 36, 37, 38, 39, 40, 41, 42, 43, 44, 45, 46, 47, 48, 49, 50, 51] (by decide +kernel) (by decide +kernel)) (goodIn_sub (fun _ h => List.mem_cons_of_mem _ (List.mem_append_left _ (List.mem_append_right _ h))) (by decide +kernel))
set_option maxRecDepth 20000 in
theorem gX5_coverSize_X5_requireGuest : GoodIn wsX5_coverSize (wsV RX5 119 RX5 yX5_requireGuest wsX5_requireGuest) := goodIn_app (goodIn_of _ (by decide +kernel)) ggX5_coverSize_X5_requireGuest
set_option maxRecDepth 20000 in
theorem ggX5_coverSize_X3_coverOf : GoodIn wsX5_coverSize wsX3_coverOf := goodIn_ca (goodIn_r _ [18, 19, 20, 21, 22, 23, 24, 25, 26, 37, 38, 39, 40, 41, 42, 43, 44, 45, 46, 47, 48, 49, 50, 51] (by decide +kernel) (by decide +kernel)) (goodIn_sub (fun _ h => List.mem_cons_of_mem _ (List.mem_append_right _ h)) (by decide +kernel))
set_option maxRecDepth 20000 in
theorem gX5_coverSize_X3_coverOf : GoodIn wsX5_coverSize (wsV RX5 136 RX3 yX3_coverOf wsX3_coverOf) := goodIn_app (goodIn_of _ (by decide +kernel)) ggX5_coverSize_X3_coverOf
theorem dX5_coverSize_0 : decode cX5_coverSize 0 = .ok (.aload_n 0, 1) := by decide +kernel
theorem dX5_coverSize_1 : decode cX5_coverSize 1 = .ok (.iload_n 1, 1) := by decide +kernel
theorem dX5_coverSize_2 : decode cX5_coverSize 2 = .ok (.invokevirtual 119, 3) := by decide +kernel
theorem dX5_coverSize_5 : decode cX5_coverSize 5 = .ok (.aload_n 0, 1) := by decide +kernel
theorem dX5_coverSize_6 : decode cX5_coverSize 6 = .ok (.getfield 10, 3) := by decide +kernel
theorem dX5_coverSize_9 : decode cX5_coverSize 9 = .ok (.iload_n 1, 1) := by decide +kernel
theorem dX5_coverSize_10 : decode cX5_coverSize 10 = .ok (.invokevirtual 136, 3) := by decide +kernel
theorem dX5_coverSize_13 : decode cX5_coverSize 13 = .ok (.ireturn, 1) := by decide +kernel
set_option maxRecDepth 20000 in
theorem ggX5_idleMinutes_X5_requirePlacedHat : GoodIn wsX5_idleMinutes wsX5_requirePlacedHat := goodIn_ca (goodIn_ca (goodIn_ca (goodIn_r _ [6, 7, 8, 9, 10, 1, 11, 12, 13, 14, 15, 16, 17, 18, 19, 20, 21, 22, 23, 24, 25, 32, 33, 34, 35, 36, 37, 38, 39, 40, 41, 42, 43, 44, 45, 46, 47, 48, 49, 50, 51, 52, 53, 54, 55, 56] (by decide +kernel) (by decide +kernel)) (goodIn_sub (fun _ h => List.mem_cons_of_mem _ (List.mem_append_left _ (List.mem_append_left _ (List.mem_append_right _ h)))) (by decide +kernel))) (goodIn_sub (fun _ h => List.mem_cons_of_mem _ (List.mem_append_left _ (List.mem_append_right _ h))) (by decide +kernel))) (goodIn_sub (fun _ h => List.mem_cons_of_mem _ (List.mem_append_right _ h)) (by decide +kernel))
set_option maxRecDepth 20000 in
theorem gX5_idleMinutes_X5_requirePlacedHat : GoodIn wsX5_idleMinutes (wsV RX5 106 RX5 yX5_requirePlacedHat wsX5_requirePlacedHat) := goodIn_app (goodIn_of _ (by decide +kernel)) ggX5_idleMinutes_X5_requirePlacedHat
set_option maxRecDepth 20000 in
theorem ggX5_idleMinutes_X3_idleTime : GoodIn wsX5_idleMinutes wsX3_idleTime := goodIn_ca (goodIn_r _ [29, 30, 31, 42, 43, 44, 45, 46, 47, 48, 49, 50, 51, 52, 53, 54, 55, 56] (by decide +kernel) (by decide +kernel)) (goodIn_sub (fun _ h => List.mem_cons_of_mem _ (List.mem_append_right _ h)) (by decide +kernel))
set_option maxRecDepth 20000 in
theorem gX5_idleMinutes_X3_idleTime : GoodIn wsX5_idleMinutes (wsV RX5 139 RX3 yX3_idleTime wsX3_idleTime) := goodIn_app (goodIn_of _ (by decide +kernel)) ggX5_idleMinutes_X3_idleTime
theorem dX5_idleMinutes_0 : decode cX5_idleMinutes 0 = .ok (.aload_n 0, 1) := by decide +kernel
theorem dX5_idleMinutes_1 : decode cX5_idleMinutes 1 = .ok (.iload_n 1, 1) := by decide +kernel
theorem dX5_idleMinutes_2 : decode cX5_idleMinutes 2 = .ok (.invokevirtual 106, 3) := by decide +kernel
theorem dX5_idleMinutes_5 : decode cX5_idleMinutes 5 = .ok (.aload_n 0, 1) := by decide +kernel
theorem dX5_idleMinutes_6 : decode cX5_idleMinutes 6 = .ok (.getfield 10, 3) := by decide +kernel
theorem dX5_idleMinutes_9 : decode cX5_idleMinutes 9 = .ok (.iload_n 1, 1) := by decide +kernel
theorem dX5_idleMinutes_10 : decode cX5_idleMinutes 10 = .ok (.invokevirtual 139, 3) := by decide +kernel
theorem dX5_idleMinutes_13 : decode cX5_idleMinutes 13 = .ok (.ireturn, 1) := by decide +kernel
set_option maxRecDepth 20000 in
theorem ggX5_leaveCoat_X3_refusalOfCoat : GoodIn wsX5_leaveCoat wsX3_refusalOfCoat := goodIn_ca (goodIn_r _ [13, 14, 15, 16, 17, 12, 18, 19, 20, 21, 22, 23, 24, 25, 26, 27, 28, 29, 30, 31, 86, 87, 88, 89, 90, 91, 92, 93, 94, 95, 96, 97, 98, 99, 100] (by decide +kernel) (by decide +kernel)) (goodIn_sub (fun _ h => List.mem_cons_of_mem _ (List.mem_append_right _ h)) (by decide +kernel))
set_option maxRecDepth 20000 in
theorem gX5_leaveCoat_X3_refusalOfCoat : GoodIn wsX5_leaveCoat (wsV RX5 142 RX3 yX3_refusalOfCoat wsX3_refusalOfCoat) := goodIn_app (goodIn_of _ (by decide +kernel)) ggX5_leaveCoat_X3_refusalOfCoat
set_option maxRecDepth 20000 in
theorem ggX5_leaveCoat_X4_remember : GoodIn wsX5_leaveCoat wsX4_remember := goodIn_r _ [36, 37, 38, 39, 35, 40, 41, 42, 43, 44, 45, 12, 46, 47, 48, 49, 50, 51, 52, 53, 54, 27, 14, 55, 56, 57, 19, 58, 59, 60, 61, 62, 63, 64, 65, 66, 67, 68, 69, 70, 71, 101, 102, 103, 86, 87, 88, 89, 90, 91, 92, 93, 94, 95, 96, 97, 98, 99, 100] (by decide +kernel) (by decide +kernel)
set_option maxRecDepth 20000 in
theorem gX5_leaveCoat_X4_remember : GoodIn wsX5_leaveCoat (wsV RX5 70 RX4 yX4_remember wsX4_remember) := goodIn_app (goodIn_of _ (by decide +kernel)) ggX5_leaveCoat_X4_remember
set_option maxRecDepth 20000 in
theorem ggX5_leaveCoat_X3_putCoat : GoodIn wsX5_leaveCoat wsX3_putCoat := goodIn_ca (goodIn_r _ [75, 57, 56, 55, 14, 28, 29, 30, 12, 31, 86, 87, 88, 89, 90, 91, 92, 93, 94, 95, 96, 97, 98, 99, 100] (by decide +kernel) (by decide +kernel)) (goodIn_sub (fun _ h => List.mem_cons_of_mem _ (List.mem_append_right _ h)) (by decide +kernel))
set_option maxRecDepth 20000 in
theorem gX5_leaveCoat_X3_putCoat : GoodIn wsX5_leaveCoat (wsV RX5 149 RX3 yX3_putCoat wsX3_putCoat) := goodIn_app (goodIn_of _ (by decide +kernel)) ggX5_leaveCoat_X3_putCoat
theorem dX5_leaveCoat_0 : decode cX5_leaveCoat 0 = .ok (.aload_n 0, 1) := by decide +kernel
theorem dX5_leaveCoat_1 : decode cX5_leaveCoat 1 = .ok (.getfield 10, 3) := by decide +kernel
theorem dX5_leaveCoat_4 : decode cX5_leaveCoat 4 = .ok (.iload_n 1, 1) := by decide +kernel
theorem dX5_leaveCoat_5 : decode cX5_leaveCoat 5 = .ok (.iload_n 2, 1) := by decide +kernel
theorem dX5_leaveCoat_6 : decode cX5_leaveCoat 6 = .ok (.invokevirtual 142, 3) := by decide +kernel
theorem dX5_leaveCoat_9 : decode cX5_leaveCoat 9 = .ok (.istore_n 3, 1) := by decide +kernel
theorem dX5_leaveCoat_10 : decode cX5_leaveCoat 10 = .ok (.iload_n 3, 1) := by decide +kernel
theorem dX5_leaveCoat_11 : decode cX5_leaveCoat 11 = .ok (.iconst 1, 1) := by decide +kernel
theorem dX5_leaveCoat_12 : decode cX5_leaveCoat 12 = .ok (.if_icmp .ne 13, 3) := by decide +kernel
theorem dX5_leaveCoat_15 : decode cX5_leaveCoat 15 = .ok (.new 81, 3) := by decide +kernel
theorem dX5_leaveCoat_18 : decode cX5_leaveCoat 18 = .ok (.dup, 1) := by decide +kernel
theorem dX5_leaveCoat_19 : decode cX5_leaveCoat 19 = .ok (.ldc 94, 2) := by decide +kernel
theorem dX5_leaveCoat_21 : decode cX5_leaveCoat 21 = .ok (.invokespecial 85, 3) := by decide +kernel
theorem dX5_leaveCoat_24 : decode cX5_leaveCoat 24 = .ok (.athrow, 1) := by decide +kernel
theorem dX5_leaveCoat_25 : decode cX5_leaveCoat 25 = .ok (.iload_n 3, 1) := by decide +kernel
theorem dX5_leaveCoat_26 : decode cX5_leaveCoat 26 = .ok (.iconst 2, 1) := by decide +kernel
theorem dX5_leaveCoat_27 : decode cX5_leaveCoat 27 = .ok (.if_icmp .ne 13, 3) := by decide +kernel
theorem dX5_leaveCoat_30 : decode cX5_leaveCoat 30 = .ok (.new 65, 3) := by decide +kernel
theorem dX5_leaveCoat_33 : decode cX5_leaveCoat 33 = .ok (.dup, 1) := by decide +kernel
theorem dX5_leaveCoat_34 : decode cX5_leaveCoat 34 = .ok (.ldc 145, 2) := by decide +kernel
theorem dX5_leaveCoat_36 : decode cX5_leaveCoat 36 = .ok (.invokespecial 69, 3) := by decide +kernel
theorem dX5_leaveCoat_39 : decode cX5_leaveCoat 39 = .ok (.athrow, 1) := by decide +kernel
theorem dX5_leaveCoat_40 : decode cX5_leaveCoat 40 = .ok (.iload_n 3, 1) := by decide +kernel
theorem dX5_leaveCoat_41 : decode cX5_leaveCoat 41 = .ok (.ifCond .eq 13, 3) := by decide +kernel
theorem dX5_leaveCoat_44 : decode cX5_leaveCoat 44 = .ok (.new 98, 3) := by decide +kernel
theorem dX5_leaveCoat_47 : decode cX5_leaveCoat 47 = .ok (.dup, 1) := by decide +kernel
theorem dX5_leaveCoat_48 : decode cX5_leaveCoat 48 = .ok (.ldc 147, 2) := by decide +kernel
theorem dX5_leaveCoat_50 : decode cX5_leaveCoat 50 = .ok (.invokespecial 102, 3) := by decide +kernel
theorem dX5_leaveCoat_53 : decode cX5_leaveCoat 53 = .ok (.athrow, 1) := by decide +kernel
theorem dX5_leaveCoat_54 : decode cX5_leaveCoat 54 = .ok (.aload_n 0, 1) := by decide +kernel
theorem dX5_leaveCoat_55 : decode cX5_leaveCoat 55 = .ok (.getfield 22, 3) := by decide +kernel
theorem dX5_leaveCoat_58 : decode cX5_leaveCoat 58 = .ok (.aload_n 0, 1) := by decide +kernel
theorem dX5_leaveCoat_59 : decode cX5_leaveCoat 59 = .ok (.getfield 10, 3) := by decide +kernel
theorem dX5_leaveCoat_62 : decode cX5_leaveCoat 62 = .ok (.invokevirtual 70, 3) := by decide +kernel
theorem dX5_leaveCoat_65 : decode cX5_leaveCoat 65 = .ok (.aload_n 0, 1) := by decide +kernel
theorem dX5_leaveCoat_66 : decode cX5_leaveCoat 66 = .ok (.getfield 10, 3) := by decide +kernel
theorem dX5_leaveCoat_69 : decode cX5_leaveCoat 69 = .ok (.iload_n 1, 1) := by decide +kernel
theorem dX5_leaveCoat_70 : decode cX5_leaveCoat 70 = .ok (.iload_n 2, 1) := by decide +kernel
theorem dX5_leaveCoat_71 : decode cX5_leaveCoat 71 = .ok (.invokevirtual 149, 3) := by decide +kernel
theorem dX5_leaveCoat_74 : decode cX5_leaveCoat 74 = .ok (.ireturn, 1) := by decide +kernel
set_option maxRecDepth 20000 in
theorem ggX5_takeCoat_X5_requireLeftCoat : GoodIn wsX5_takeCoat wsX5_requireLeftCoat := goodIn_ca (goodIn_ca (goodIn_ca (goodIn_r _ [7, 8, 9, 10, 11, 2, 12, 13, 14, 15, 16, 17, 18, 19, 20, 21, 22, 68, 69, 70, 71, 72, 73, 74, 75, 76, 77, 78, 79, 80, 81, 82, 83, 84, 85, 86, 87, 88, 89, 90, 91, 92] (by decide +kernel) (by decide +kernel)) (goodIn_sub (fun _ h => List.mem_cons_of_mem _ (List.mem_append_left _ (List.mem_append_left _ (List.mem_append_right _ h)))) (by decide +kernel))) (goodIn_sub (fun _ h => List.mem_cons_of_mem _ (List.mem_append_left _ (List.mem_append_right _ h))) (by decide +kernel))) (goodIn_sub (fun _ h => List.mem_cons_of_mem _ (List.mem_append_right _ h)) (by decide +kernel))
set_option maxRecDepth 20000 in
theorem gX5_takeCoat_X5_requireLeftCoat : GoodIn wsX5_takeCoat (wsV RX5 152 RX5 yX5_requireLeftCoat wsX5_requireLeftCoat) := goodIn_app (goodIn_of _ (by decide +kernel)) ggX5_takeCoat_X5_requireLeftCoat
set_option maxRecDepth 20000 in
theorem ggX5_takeCoat_X4_remember : GoodIn wsX5_takeCoat wsX4_remember := goodIn_r _ [27, 28, 29, 30, 26, 31, 32, 33, 34, 35, 36, 15, 37, 38, 39, 40, 41, 42, 43, 44, 45, 46, 17, 47, 48, 49, 22, 50, 51, 52, 53, 54, 55, 56, 57, 58, 59, 60, 61, 62, 63, 93, 94, 95, 78, 79, 80, 81, 82, 83, 84, 85, 86, 87, 88, 89, 90, 91, 92] (by decide +kernel) (by decide +kernel)
set_option maxRecDepth 20000 in
theorem gX5_takeCoat_X4_remember : GoodIn wsX5_takeCoat (wsV RX5 70 RX4 yX4_remember wsX4_remember) := goodIn_app (goodIn_of _ (by decide +kernel)) ggX5_takeCoat_X4_remember
set_option maxRecDepth 20000 in
theorem ggX5_takeCoat_X3_pullCoat : GoodIn wsX5_takeCoat wsX3_pullCoat := goodIn_ca (goodIn_r _ [67, 17, 47, 78, 79, 80, 81, 82, 83, 84, 85, 86, 87, 88, 89, 90, 91, 92] (by decide +kernel) (by decide +kernel)) (goodIn_sub (fun _ h => List.mem_cons_of_mem _ (List.mem_append_right _ h)) (by decide +kernel))
set_option maxRecDepth 20000 in
theorem gX5_takeCoat_X3_pullCoat : GoodIn wsX5_takeCoat (wsV RX5 155 RX3 yX3_pullCoat wsX3_pullCoat) := goodIn_app (goodIn_of _ (by decide +kernel)) ggX5_takeCoat_X3_pullCoat
theorem dX5_takeCoat_0 : decode cX5_takeCoat 0 = .ok (.aload_n 0, 1) := by decide +kernel
theorem dX5_takeCoat_1 : decode cX5_takeCoat 1 = .ok (.iload_n 1, 1) := by decide +kernel
theorem dX5_takeCoat_2 : decode cX5_takeCoat 2 = .ok (.invokevirtual 152, 3) := by decide +kernel
theorem dX5_takeCoat_5 : decode cX5_takeCoat 5 = .ok (.aload_n 0, 1) := by decide +kernel
theorem dX5_takeCoat_6 : decode cX5_takeCoat 6 = .ok (.getfield 22, 3) := by decide +kernel
theorem dX5_takeCoat_9 : decode cX5_takeCoat 9 = .ok (.aload_n 0, 1) := by decide +kernel
theorem dX5_takeCoat_10 : decode cX5_takeCoat 10 = .ok (.getfield 10, 3) := by decide +kernel
theorem dX5_takeCoat_13 : decode cX5_takeCoat 13 = .ok (.invokevirtual 70, 3) := by decide +kernel
theorem dX5_takeCoat_16 : decode cX5_takeCoat 16 = .ok (.aload_n 0, 1) := by decide +kernel
theorem dX5_takeCoat_17 : decode cX5_takeCoat 17 = .ok (.getfield 10, 3) := by decide +kernel
theorem dX5_takeCoat_20 : decode cX5_takeCoat 20 = .ok (.iload_n 1, 1) := by decide +kernel
theorem dX5_takeCoat_21 : decode cX5_takeCoat 21 = .ok (.invokevirtual 155, 3) := by decide +kernel
theorem dX5_takeCoat_24 : decode cX5_takeCoat 24 = .ok (.ireturn, 1) := by decide +kernel
set_option maxRecDepth 20000 in
theorem ggX5_hasCoatLeft_X5_requireGuest : GoodIn wsX5_hasCoatLeft wsX5_requireGuest := goodIn_ca (goodIn_r _ [7, 8, 9, 1, 10, 11, 12, 13, 14, 15, 16, 17, 18, 19, 20, 21, 22, 23, 24, 25, 26, 27, 28, 29, 30, 31, 32, 33, 34, 35, 36, 37, 38, 39, 40] (by decide +kernel) (by decide +kernel)) (goodIn_sub (fun _ h => List.mem_cons_of_mem _ (List.mem_append_right _ h)) (by decide +kernel))
set_option maxRecDepth 20000 in
theorem gX5_hasCoatLeft_X5_requireGuest : GoodIn wsX5_hasCoatLeft (wsV RX5 119 RX5 yX5_requireGuest wsX5_requireGuest) := goodIn_app (goodIn_of _ (by decide +kernel)) ggX5_hasCoatLeft_X5_requireGuest
theorem dX5_hasCoatLeft_0 : decode cX5_hasCoatLeft 0 = .ok (.aload_n 0, 1) := by decide +kernel
theorem dX5_hasCoatLeft_1 : decode cX5_hasCoatLeft 1 = .ok (.iload_n 1, 1) := by decide +kernel
theorem dX5_hasCoatLeft_2 : decode cX5_hasCoatLeft 2 = .ok (.invokevirtual 119, 3) := by decide +kernel
theorem dX5_hasCoatLeft_5 : decode cX5_hasCoatLeft 5 = .ok (.aload_n 0, 1) := by decide +kernel
theorem dX5_hasCoatLeft_6 : decode cX5_hasCoatLeft 6 = .ok (.getfield 10, 3) := by decide +kernel
theorem dX5_hasCoatLeft_9 : decode cX5_hasCoatLeft 9 = .ok (.getfield 158, 3) := by decide +kernel
theorem dX5_hasCoatLeft_12 : decode cX5_hasCoatLeft 12 = .ok (.iload_n 1, 1) := by decide +kernel
theorem dX5_hasCoatLeft_13 : decode cX5_hasCoatLeft 13 = .ok (.iaload, 1) := by decide +kernel
theorem dX5_hasCoatLeft_14 : decode cX5_hasCoatLeft 14 = .ok (.iconst (-1), 1) := by decide +kernel
theorem dX5_hasCoatLeft_15 : decode cX5_hasCoatLeft 15 = .ok (.if_icmp .eq 7, 3) := by decide +kernel
theorem dX5_hasCoatLeft_18 : decode cX5_hasCoatLeft 18 = .ok (.iconst 1, 1) := by decide +kernel
theorem dX5_hasCoatLeft_19 : decode cX5_hasCoatLeft 19 = .ok (.goto 4, 3) := by decide +kernel
theorem dX5_hasCoatLeft_22 : decode cX5_hasCoatLeft 22 = .ok (.iconst 0, 1) := by decide +kernel
theorem dX5_hasCoatLeft_23 : decode cX5_hasCoatLeft 23 = .ok (.ireturn, 1) := by decide +kernel
set_option maxRecDepth 20000 in
theorem ggX5_coatChair_X5_requireLeftCoat : GoodIn wsX5_coatChair wsX5_requireLeftCoat := goodIn_ca (goodIn_ca (goodIn_ca (goodIn_r _ [7, 8, 9, 10, 11, 1, 12, 13, 14, 15, 16, 17, 18, 19, 20, 21, 22, 23, 24, 25, 26, 27, 28, 29, 30, 31, 32, 33, 34, 35, 36, 37, 38, 39, 40, 41, 42, 43, 44, 45, 46, 47] (by decide +kernel) (by decide +kernel)) (goodIn_sub (fun _ h => List.mem_cons_of_mem _ (List.mem_append_left _ (List.mem_append_right _ h))) (by decide +kernel))) (goodIn_sub (fun _ h => List.mem_cons_of_mem _ (List.mem_append_right _ h)) (by decide +kernel))) (goodIn_sub (fun _ h => List.mem_cons_of_mem _ (List.mem_append_left _ (List.mem_append_left _ (List.mem_append_right _ h)))) (by decide +kernel))
set_option maxRecDepth 20000 in
theorem gX5_coatChair_X5_requireLeftCoat : GoodIn wsX5_coatChair (wsV RX5 152 RX5 yX5_requireLeftCoat wsX5_requireLeftCoat) := goodIn_app (goodIn_of _ (by decide +kernel)) ggX5_coatChair_X5_requireLeftCoat
theorem dX5_coatChair_0 : decode cX5_coatChair 0 = .ok (.aload_n 0, 1) := by decide +kernel
theorem dX5_coatChair_1 : decode cX5_coatChair 1 = .ok (.iload_n 1, 1) := by decide +kernel
theorem dX5_coatChair_2 : decode cX5_coatChair 2 = .ok (.invokevirtual 152, 3) := by decide +kernel
theorem dX5_coatChair_5 : decode cX5_coatChair 5 = .ok (.aload_n 0, 1) := by decide +kernel
theorem dX5_coatChair_6 : decode cX5_coatChair 6 = .ok (.getfield 10, 3) := by decide +kernel
theorem dX5_coatChair_9 : decode cX5_coatChair 9 = .ok (.getfield 158, 3) := by decide +kernel
theorem dX5_coatChair_12 : decode cX5_coatChair 12 = .ok (.iload_n 1, 1) := by decide +kernel
theorem dX5_coatChair_13 : decode cX5_coatChair 13 = .ok (.iaload, 1) := by decide +kernel
theorem dX5_coatChair_14 : decode cX5_coatChair 14 = .ok (.ireturn, 1) := by decide +kernel
set_option maxRecDepth 20000 in
theorem ggX5_coatCount_X5_requireChair : GoodIn wsX5_coatCount wsX5_requireChair := goodIn_ca (goodIn_r _ [5, 6, 7, 8, 9, 10, 11] (by decide +kernel) (by decide +kernel)) (goodIn_sub (fun _ h => List.mem_cons_of_mem _ (List.mem_append_left _ (List.mem_append_right _ h))) (by decide +kernel))
set_option maxRecDepth 20000 in
theorem gX5_coatCount_X5_requireChair : GoodIn wsX5_coatCount (va_wsS RX5 161 yX5_requireChair wsX5_requireChair) := goodIn_app (goodIn_of _ (by decide +kernel)) ggX5_coatCount_X5_requireChair
set_option maxRecDepth 20000 in
theorem ggX5_coatCount_X3_coatsOn : GoodIn wsX5_coatCount wsX3_coatsOn := goodIn_ca (goodIn_r _ [15, 16, 27, 28, 29, 30, 31, 32, 33, 34, 35, 36, 37, 38, 39, 40, 41] (by decide +kernel) (by decide +kernel)) (goodIn_sub (fun _ h => List.mem_cons_of_mem _ (List.mem_append_right _ h)) (by decide +kernel))
set_option maxRecDepth 20000 in
theorem gX5_coatCount_X3_coatsOn : GoodIn wsX5_coatCount (wsV RX5 164 RX3 yX3_coatsOn wsX3_coatsOn) := goodIn_app (goodIn_of _ (by decide +kernel)) ggX5_coatCount_X3_coatsOn
theorem dX5_coatCount_0 : decode cX5_coatCount 0 = .ok (.iload_n 1, 1) := by decide +kernel
theorem dX5_coatCount_1 : decode cX5_coatCount 1 = .ok (.invokestatic 161, 3) := by decide +kernel
theorem dX5_coatCount_4 : decode cX5_coatCount 4 = .ok (.aload_n 0, 1) := by decide +kernel
theorem dX5_coatCount_5 : decode cX5_coatCount 5 = .ok (.getfield 10, 3) := by decide +kernel
theorem dX5_coatCount_8 : decode cX5_coatCount 8 = .ok (.iload_n 1, 1) := by decide +kernel
theorem dX5_coatCount_9 : decode cX5_coatCount 9 = .ok (.invokevirtual 164, 3) := by decide +kernel
theorem dX5_coatCount_12 : decode cX5_coatCount 12 = .ok (.ireturn, 1) := by decide +kernel
set_option maxRecDepth 20000 in
theorem ggX5_coatOwner_X5_requireChair : GoodIn wsX5_coatOwner wsX5_requireChair := goodIn_ca (goodIn_r _ [7, 8, 9, 10, 11, 12, 13] (by decide +kernel) (by decide +kernel)) (goodIn_sub (fun _ h => List.mem_cons_of_mem _ (List.mem_append_left _ (List.mem_append_right _ h))) (by decide +kernel))
set_option maxRecDepth 20000 in
theorem gX5_coatOwner_X5_requireChair : GoodIn wsX5_coatOwner (va_wsS RX5 161 yX5_requireChair wsX5_requireChair) := goodIn_app (goodIn_of _ (by decide +kernel)) ggX5_coatOwner_X5_requireChair
set_option maxRecDepth 20000 in
theorem ggX5_coatOwner_X3_ownerAt : GoodIn wsX5_coatOwner wsX3_ownerAt := goodIn_ca (goodIn_r _ [17, 18, 19, 30, 31, 32, 33, 34, 35, 36, 37, 38, 39, 40, 41, 42, 43, 44] (by decide +kernel) (by decide +kernel)) (goodIn_sub (fun _ h => List.mem_cons_of_mem _ (List.mem_append_right _ h)) (by decide +kernel))
set_option maxRecDepth 20000 in
theorem gX5_coatOwner_X3_ownerAt : GoodIn wsX5_coatOwner (wsV RX5 167 RX3 yX3_ownerAt wsX3_ownerAt) := goodIn_app (goodIn_of _ (by decide +kernel)) ggX5_coatOwner_X3_ownerAt
theorem dX5_coatOwner_0 : decode cX5_coatOwner 0 = .ok (.iload_n 1, 1) := by decide +kernel
theorem dX5_coatOwner_1 : decode cX5_coatOwner 1 = .ok (.invokestatic 161, 3) := by decide +kernel
theorem dX5_coatOwner_4 : decode cX5_coatOwner 4 = .ok (.aload_n 0, 1) := by decide +kernel
theorem dX5_coatOwner_5 : decode cX5_coatOwner 5 = .ok (.getfield 10, 3) := by decide +kernel
theorem dX5_coatOwner_8 : decode cX5_coatOwner 8 = .ok (.iload_n 1, 1) := by decide +kernel
theorem dX5_coatOwner_9 : decode cX5_coatOwner 9 = .ok (.iload_n 2, 1) := by decide +kernel
theorem dX5_coatOwner_10 : decode cX5_coatOwner 10 = .ok (.invokevirtual 167, 3) := by decide +kernel
theorem dX5_coatOwner_13 : decode cX5_coatOwner 13 = .ok (.istore_n 3, 1) := by decide +kernel
theorem dX5_coatOwner_14 : decode cX5_coatOwner 14 = .ok (.iload_n 3, 1) := by decide +kernel
theorem dX5_coatOwner_15 : decode cX5_coatOwner 15 = .ok (.iconst (-1), 1) := by decide +kernel
theorem dX5_coatOwner_16 : decode cX5_coatOwner 16 = .ok (.if_icmp .ne 13, 3) := by decide +kernel
theorem dX5_coatOwner_19 : decode cX5_coatOwner 19 = .ok (.new 170, 3) := by decide +kernel
theorem dX5_coatOwner_22 : decode cX5_coatOwner 22 = .ok (.dup, 1) := by decide +kernel
theorem dX5_coatOwner_23 : decode cX5_coatOwner 23 = .ok (.ldc 172, 2) := by decide +kernel
theorem dX5_coatOwner_25 : decode cX5_coatOwner 25 = .ok (.invokespecial 174, 3) := by decide +kernel
theorem dX5_coatOwner_28 : decode cX5_coatOwner 28 = .ok (.athrow, 1) := by decide +kernel
theorem dX5_coatOwner_29 : decode cX5_coatOwner 29 = .ok (.iload_n 3, 1) := by decide +kernel
theorem dX5_coatOwner_30 : decode cX5_coatOwner 30 = .ok (.ireturn, 1) := by decide +kernel
set_option maxRecDepth 20000 in
theorem ggX5_nextClaimant_X5_requireChair : GoodIn wsX5_nextClaimant wsX5_requireChair := goodIn_ca (goodIn_r _ [7, 8, 9, 10, 11, 12, 13] (by decide +kernel) (by decide +kernel)) (goodIn_sub (fun _ h => List.mem_cons_of_mem _ (List.mem_append_left _ (List.mem_append_right _ h))) (by decide +kernel))
set_option maxRecDepth 20000 in
theorem gX5_nextClaimant_X5_requireChair : GoodIn wsX5_nextClaimant (va_wsS RX5 161 yX5_requireChair wsX5_requireChair) := goodIn_app (goodIn_of _ (by decide +kernel)) ggX5_nextClaimant_X5_requireChair
set_option maxRecDepth 20000 in
theorem ggX5_nextClaimant_X3_claimantByQueue : GoodIn wsX5_nextClaimant wsX3_claimantByQueue := goodIn_ca (goodIn_r _ [17, 18, 19, 20, 12, 21, 22, 23, 24, 25, 26, 27, 28, 39, 40, 41, 42, 43, 44, 45, 46, 47, 48, 49, 50, 51, 52, 53] (by decide +kernel) (by decide +kernel)) (goodIn_sub (fun _ h => List.mem_cons_of_mem _ (List.mem_append_right _ h)) (by decide +kernel))
set_option maxRecDepth 20000 in
theorem gX5_nextClaimant_X3_claimantByQueue : GoodIn wsX5_nextClaimant (wsV RX5 175 RX3 yX3_claimantByQueue wsX3_claimantByQueue) := goodIn_app (goodIn_of _ (by decide +kernel)) ggX5_nextClaimant_X3_claimantByQueue
theorem dX5_nextClaimant_0 : decode cX5_nextClaimant 0 = .ok (.iload_n 1, 1) := by decide +kernel
theorem dX5_nextClaimant_1 : decode cX5_nextClaimant 1 = .ok (.invokestatic 161, 3) := by decide +kernel
theorem dX5_nextClaimant_4 : decode cX5_nextClaimant 4 = .ok (.aload_n 0, 1) := by decide +kernel
theorem dX5_nextClaimant_5 : decode cX5_nextClaimant 5 = .ok (.getfield 10, 3) := by decide +kernel
theorem dX5_nextClaimant_8 : decode cX5_nextClaimant 8 = .ok (.iload_n 1, 1) := by decide +kernel
theorem dX5_nextClaimant_9 : decode cX5_nextClaimant 9 = .ok (.invokevirtual 175, 3) := by decide +kernel
theorem dX5_nextClaimant_12 : decode cX5_nextClaimant 12 = .ok (.istore_n 2, 1) := by decide +kernel
theorem dX5_nextClaimant_13 : decode cX5_nextClaimant 13 = .ok (.iload_n 2, 1) := by decide +kernel
theorem dX5_nextClaimant_14 : decode cX5_nextClaimant 14 = .ok (.iconst (-1), 1) := by decide +kernel
theorem dX5_nextClaimant_15 : decode cX5_nextClaimant 15 = .ok (.if_icmp .ne 13, 3) := by decide +kernel
theorem dX5_nextClaimant_18 : decode cX5_nextClaimant 18 = .ok (.new 170, 3) := by decide +kernel
theorem dX5_nextClaimant_21 : decode cX5_nextClaimant 21 = .ok (.dup, 1) := by decide +kernel
theorem dX5_nextClaimant_22 : decode cX5_nextClaimant 22 = .ok (.ldc 178, 2) := by decide +kernel
theorem dX5_nextClaimant_24 : decode cX5_nextClaimant 24 = .ok (.invokespecial 174, 3) := by decide +kernel
theorem dX5_nextClaimant_27 : decode cX5_nextClaimant 27 = .ok (.athrow, 1) := by decide +kernel
theorem dX5_nextClaimant_28 : decode cX5_nextClaimant 28 = .ok (.iload_n 2, 1) := by decide +kernel
theorem dX5_nextClaimant_29 : decode cX5_nextClaimant 29 = .ok (.ireturn, 1) := by decide +kernel
set_option maxRecDepth 20000 in
theorem ggX5_nextClaimantByTime_X5_requireChair : GoodIn wsX5_nextClaimantByTime wsX5_requireChair := goodIn_ca (goodIn_r _ [7, 8, 9, 10, 11, 12, 13] (by decide +kernel) (by decide +kernel)) (goodIn_sub (fun _ h => List.mem_cons_of_mem _ (List.mem_append_left _ (List.mem_append_right _ h))) (by decide +kernel))
set_option maxRecDepth 20000 in
theorem gX5_nextClaimantByTime_X5_requireChair : GoodIn wsX5_nextClaimantByTime (va_wsS RX5 161 yX5_requireChair wsX5_requireChair) := goodIn_app (goodIn_of _ (by decide +kernel)) ggX5_nextClaimantByTime_X5_requireChair
set_option maxRecDepth 20000 in
theorem ggX5_nextClaimantByTime_X3_claimantByOrder : GoodIn wsX5_nextClaimantByTime wsX3_claimantByOrder := goodIn_ca (goodIn_r _ [17, 18, 19, 20, 21, 22, 12, 23, 24, 35, 36, 37, 38, 39, 40, 41, 42, 43, 44, 45, 46, 47, 48, 49] (by decide +kernel) (by decide +kernel)) (goodIn_sub (fun _ h => List.mem_cons_of_mem _ (List.mem_append_right _ h)) (by decide +kernel))
set_option maxRecDepth 20000 in
theorem gX5_nextClaimantByTime_X3_claimantByOrder : GoodIn wsX5_nextClaimantByTime (wsV RX5 180 RX3 yX3_claimantByOrder wsX3_claimantByOrder) := goodIn_app (goodIn_of _ (by decide +kernel)) ggX5_nextClaimantByTime_X3_claimantByOrder
theorem dX5_nextClaimantByTime_0 : decode cX5_nextClaimantByTime 0 = .ok (.iload_n 1, 1) := by decide +kernel
theorem dX5_nextClaimantByTime_1 : decode cX5_nextClaimantByTime 1 = .ok (.invokestatic 161, 3) := by decide +kernel
theorem dX5_nextClaimantByTime_4 : decode cX5_nextClaimantByTime 4 = .ok (.aload_n 0, 1) := by decide +kernel
theorem dX5_nextClaimantByTime_5 : decode cX5_nextClaimantByTime 5 = .ok (.getfield 10, 3) := by decide +kernel
theorem dX5_nextClaimantByTime_8 : decode cX5_nextClaimantByTime 8 = .ok (.iload_n 1, 1) := by decide +kernel
theorem dX5_nextClaimantByTime_9 : decode cX5_nextClaimantByTime 9 = .ok (.invokevirtual 180, 3) := by decide +kernel
theorem dX5_nextClaimantByTime_12 : decode cX5_nextClaimantByTime 12 = .ok (.istore_n 2, 1) := by decide +kernel
theorem dX5_nextClaimantByTime_13 : decode cX5_nextClaimantByTime 13 = .ok (.iload_n 2, 1) := by decide +kernel
theorem dX5_nextClaimantByTime_14 : decode cX5_nextClaimantByTime 14 = .ok (.iconst (-1), 1) := by decide +kernel
theorem dX5_nextClaimantByTime_15 : decode cX5_nextClaimantByTime 15 = .ok (.if_icmp .ne 13, 3) := by decide +kernel
theorem dX5_nextClaimantByTime_18 : decode cX5_nextClaimantByTime 18 = .ok (.new 170, 3) := by decide +kernel
theorem dX5_nextClaimantByTime_21 : decode cX5_nextClaimantByTime 21 = .ok (.dup, 1) := by decide +kernel
theorem dX5_nextClaimantByTime_22 : decode cX5_nextClaimantByTime 22 = .ok (.ldc 178, 2) := by decide +kernel
theorem dX5_nextClaimantByTime_24 : decode cX5_nextClaimantByTime 24 = .ok (.invokespecial 174, 3) := by decide +kernel
theorem dX5_nextClaimantByTime_27 : decode cX5_nextClaimantByTime 27 = .ok (.athrow, 1) := by decide +kernel
theorem dX5_nextClaimantByTime_28 : decode cX5_nextClaimantByTime 28 = .ok (.iload_n 2, 1) := by decide +kernel
theorem dX5_nextClaimantByTime_29 : decode cX5_nextClaimantByTime 29 = .ok (.ireturn, 1) := by decide +kernel
set_option maxRecDepth 20000 in
theorem ggX5_contest_X3_refusalOfContest : GoodIn wsX5_contest wsX3_refusalOfContest := goodIn_ca (goodIn_r _ [13, 14, 15, 16, 12, 17, 18, 19, 20, 21, 22, 23, 24, 25, 26, 27, 28, 29, 30, 31, 136, 137, 138, 139, 140, 141, 142, 143, 144, 145, 146, 147, 148, 149, 150] (by decide +kernel) (by decide +kernel)) (goodIn_sub (fun _ h => List.mem_cons_of_mem _ (List.mem_append_right _ h)) (by decide +kernel))
set_option maxRecDepth 20000 in
theorem gX5_contest_X3_refusalOfContest : GoodIn wsX5_contest (wsV RX5 183 RX3 yX3_refusalOfContest wsX3_refusalOfContest) := goodIn_app (goodIn_of _ (by decide +kernel)) ggX5_contest_X3_refusalOfContest
set_option maxRecDepth 20000 in
theorem ggX5_contest_X4_remember : GoodIn wsX5_contest wsX4_remember := goodIn_r _ [36, 37, 38, 39, 35, 40, 41, 42, 43, 44, 45, 12, 46, 47, 48, 49, 50, 51, 52, 31, 53, 26, 54, 55, 56, 57, 18, 58, 59, 60, 61, 62, 63, 64, 65, 66, 67, 68, 69, 70, 71, 151, 152, 153, 136, 137, 138, 139, 140, 141, 142, 143, 144, 145, 146, 147, 148, 149, 150] (by decide +kernel) (by decide +kernel)
set_option maxRecDepth 20000 in
theorem gX5_contest_X4_remember : GoodIn wsX5_contest (wsV RX5 70 RX4 yX4_remember wsX4_remember) := goodIn_app (goodIn_of _ (by decide +kernel)) ggX5_contest_X4_remember
set_option maxRecDepth 20000 in
theorem ggX5_contest_X3_fightFor : GoodIn wsX5_contest wsX3_fightFor := goodIn_ca (goodIn_r _ [75, 47, 76, 77, 70, 78, 62, 22, 23, 24, 12, 25, 26, 79, 80, 81, 82, 83, 84, 85, 86, 31, 87, 88, 89, 90, 91, 92, 93, 94, 95, 53, 58, 52, 96, 97, 98, 99, 100, 101, 102, 103, 104, 105, 106, 107, 108, 109, 110, 111, 112, 113, 114, 115, 116, 117, 61, 60, 118, 119, 120, 121, 54, 55, 122, 123, 124, 125, 27, 28, 29, 30, 136, 137, 138, 139, 140, 141, 142, 143, 144, 145, 146, 147, 148, 149, 150] (by decide +kernel) (by decide +kernel)) (goodIn_sub (fun _ h => List.mem_cons_of_mem _ (List.mem_append_right _ h)) (by decide +kernel))
set_option maxRecDepth 20000 in
theorem gX5_contest_X3_fightFor : GoodIn wsX5_contest (wsV RX5 188 RX3 yX3_fightFor wsX3_fightFor) := goodIn_app (goodIn_of _ (by decide +kernel)) ggX5_contest_X3_fightFor
theorem dX5_contest_0 : decode cX5_contest 0 = .ok (.aload_n 0, 1) := by decide +kernel
theorem dX5_contest_1 : decode cX5_contest 1 = .ok (.getfield 10, 3) := by decide +kernel
theorem dX5_contest_4 : decode cX5_contest 4 = .ok (.iload_n 1, 1) := by decide +kernel
theorem dX5_contest_5 : decode cX5_contest 5 = .ok (.iload_n 2, 1) := by decide +kernel
theorem dX5_contest_6 : decode cX5_contest 6 = .ok (.invokevirtual 183, 3) := by decide +kernel
theorem dX5_contest_9 : decode cX5_contest 9 = .ok (.istore_n 3, 1) := by decide +kernel
theorem dX5_contest_10 : decode cX5_contest 10 = .ok (.iload_n 3, 1) := by decide +kernel
theorem dX5_contest_11 : decode cX5_contest 11 = .ok (.iconst 1, 1) := by decide +kernel
theorem dX5_contest_12 : decode cX5_contest 12 = .ok (.if_icmp .ne 13, 3) := by decide +kernel
theorem dX5_contest_15 : decode cX5_contest 15 = .ok (.new 81, 3) := by decide +kernel
theorem dX5_contest_18 : decode cX5_contest 18 = .ok (.dup, 1) := by decide +kernel
theorem dX5_contest_19 : decode cX5_contest 19 = .ok (.ldc 94, 2) := by decide +kernel
theorem dX5_contest_21 : decode cX5_contest 21 = .ok (.invokespecial 85, 3) := by decide +kernel
theorem dX5_contest_24 : decode cX5_contest 24 = .ok (.athrow, 1) := by decide +kernel
theorem dX5_contest_25 : decode cX5_contest 25 = .ok (.iload_n 3, 1) := by decide +kernel
theorem dX5_contest_26 : decode cX5_contest 26 = .ok (.iconst 2, 1) := by decide +kernel
theorem dX5_contest_27 : decode cX5_contest 27 = .ok (.if_icmp .ne 13, 3) := by decide +kernel
theorem dX5_contest_30 : decode cX5_contest 30 = .ok (.new 170, 3) := by decide +kernel
theorem dX5_contest_33 : decode cX5_contest 33 = .ok (.dup, 1) := by decide +kernel
theorem dX5_contest_34 : decode cX5_contest 34 = .ok (.ldc 186, 2) := by decide +kernel
theorem dX5_contest_36 : decode cX5_contest 36 = .ok (.invokespecial 174, 3) := by decide +kernel
theorem dX5_contest_39 : decode cX5_contest 39 = .ok (.athrow, 1) := by decide +kernel
theorem dX5_contest_40 : decode cX5_contest 40 = .ok (.iload_n 3, 1) := by decide +kernel
theorem dX5_contest_41 : decode cX5_contest 41 = .ok (.ifCond .eq 13, 3) := by decide +kernel
theorem dX5_contest_44 : decode cX5_contest 44 = .ok (.new 65, 3) := by decide +kernel
theorem dX5_contest_47 : decode cX5_contest 47 = .ok (.dup, 1) := by decide +kernel
theorem dX5_contest_48 : decode cX5_contest 48 = .ok (.ldc 96, 2) := by decide +kernel
theorem dX5_contest_50 : decode cX5_contest 50 = .ok (.invokespecial 69, 3) := by decide +kernel
theorem dX5_contest_53 : decode cX5_contest 53 = .ok (.athrow, 1) := by decide +kernel
theorem dX5_contest_54 : decode cX5_contest 54 = .ok (.aload_n 0, 1) := by decide +kernel
theorem dX5_contest_55 : decode cX5_contest 55 = .ok (.getfield 22, 3) := by decide +kernel
theorem dX5_contest_58 : decode cX5_contest 58 = .ok (.aload_n 0, 1) := by decide +kernel
theorem dX5_contest_59 : decode cX5_contest 59 = .ok (.getfield 10, 3) := by decide +kernel
theorem dX5_contest_62 : decode cX5_contest 62 = .ok (.invokevirtual 70, 3) := by decide +kernel
theorem dX5_contest_65 : decode cX5_contest 65 = .ok (.aload_n 0, 1) := by decide +kernel
theorem dX5_contest_66 : decode cX5_contest 66 = .ok (.getfield 10, 3) := by decide +kernel
theorem dX5_contest_69 : decode cX5_contest 69 = .ok (.iload_n 1, 1) := by decide +kernel
theorem dX5_contest_70 : decode cX5_contest 70 = .ok (.iload_n 2, 1) := by decide +kernel
theorem dX5_contest_71 : decode cX5_contest 71 = .ok (.invokevirtual 188, 3) := by decide +kernel
theorem dX5_contest_74 : decode cX5_contest 74 = .ok (.ireturn, 1) := by decide +kernel
set_option maxRecDepth 20000 in
theorem ggX5_wouldWin_X3_refusalOfContest : GoodIn wsX5_wouldWin wsX3_refusalOfContest := goodIn_ca (goodIn_r _ [8, 9, 10, 11, 7, 12, 13, 14, 15, 16, 17, 18, 19, 20, 21, 22, 23, 24, 25, 26, 43, 44, 45, 46, 47, 48, 49, 50, 51, 52, 53, 54, 55, 56, 57] (by decide +kernel) (by decide +kernel)) (goodIn_sub (fun _ h => List.mem_cons_of_mem _ (List.mem_append_right _ h)) (by decide +kernel))
set_option maxRecDepth 20000 in
theorem gX5_wouldWin_X3_refusalOfContest : GoodIn wsX5_wouldWin (wsV RX5 183 RX3 yX3_refusalOfContest wsX3_refusalOfContest) := goodIn_app (goodIn_of _ (by decide +kernel)) ggX5_wouldWin_X3_refusalOfContest
set_option maxRecDepth 20000 in
theorem ggX5_wouldWin_X3_covererAt : GoodIn wsX5_wouldWin wsX3_covererAt := goodIn_ca (goodIn_r _ [20, 21, 43, 44, 45, 46, 47, 48, 49, 50, 51, 52, 53, 54, 55, 56, 57] (by decide +kernel) (by decide +kernel)) (goodIn_sub (fun _ h => List.mem_cons_of_mem _ (List.mem_append_right _ h)) (by decide +kernel))
set_option maxRecDepth 20000 in
theorem gX5_wouldWin_X3_covererAt : GoodIn wsX5_wouldWin (wsV RX5 192 RX3 yX3_covererAt wsX3_covererAt) := goodIn_app (goodIn_of _ (by decide +kernel)) ggX5_wouldWin_X3_covererAt
set_option maxRecDepth 20000 in
theorem ggX5_wouldWin_X3_isStronger : GoodIn wsX5_wouldWin wsX3_isStronger := goodIn_ca (goodIn_r _ [31, 32, 43, 44, 45, 46, 47, 48, 49, 50, 51, 52, 53, 54, 55, 56, 57] (by decide +kernel) (by decide +kernel)) (goodIn_sub (fun _ h => List.mem_cons_of_mem _ (List.mem_append_right _ h)) (by decide +kernel))
set_option maxRecDepth 20000 in
theorem gX5_wouldWin_X3_isStronger : GoodIn wsX5_wouldWin (wsV RX5 195 RX3 yX3_isStronger wsX3_isStronger) := goodIn_app (goodIn_of _ (by decide +kernel)) ggX5_wouldWin_X3_isStronger
theorem dX5_wouldWin_0 : decode cX5_wouldWin 0 = .ok (.aload_n 0, 1) := by decide +kernel
theorem dX5_wouldWin_1 : decode cX5_wouldWin 1 = .ok (.getfield 10, 3) := by decide +kernel
theorem dX5_wouldWin_4 : decode cX5_wouldWin 4 = .ok (.iload_n 1, 1) := by decide +kernel
theorem dX5_wouldWin_5 : decode cX5_wouldWin 5 = .ok (.iload_n 2, 1) := by decide +kernel
theorem dX5_wouldWin_6 : decode cX5_wouldWin 6 = .ok (.invokevirtual 183, 3) := by decide +kernel
theorem dX5_wouldWin_9 : decode cX5_wouldWin 9 = .ok (.istore_n 3, 1) := by decide +kernel
theorem dX5_wouldWin_10 : decode cX5_wouldWin 10 = .ok (.iload_n 3, 1) := by decide +kernel
theorem dX5_wouldWin_11 : decode cX5_wouldWin 11 = .ok (.iconst 1, 1) := by decide +kernel
theorem dX5_wouldWin_12 : decode cX5_wouldWin 12 = .ok (.if_icmp .ne 13, 3) := by decide +kernel
theorem dX5_wouldWin_15 : decode cX5_wouldWin 15 = .ok (.new 81, 3) := by decide +kernel
theorem dX5_wouldWin_18 : decode cX5_wouldWin 18 = .ok (.dup, 1) := by decide +kernel
theorem dX5_wouldWin_19 : decode cX5_wouldWin 19 = .ok (.ldc 94, 2) := by decide +kernel
theorem dX5_wouldWin_21 : decode cX5_wouldWin 21 = .ok (.invokespecial 85, 3) := by decide +kernel
theorem dX5_wouldWin_24 : decode cX5_wouldWin 24 = .ok (.athrow, 1) := by decide +kernel
theorem dX5_wouldWin_25 : decode cX5_wouldWin 25 = .ok (.iload_n 3, 1) := by decide +kernel
theorem dX5_wouldWin_26 : decode cX5_wouldWin 26 = .ok (.ifCond .ne 26, 3) := by decide +kernel
theorem dX5_wouldWin_29 : decode cX5_wouldWin 29 = .ok (.aload_n 0, 1) := by decide +kernel
theorem dX5_wouldWin_30 : decode cX5_wouldWin 30 = .ok (.getfield 10, 3) := by decide +kernel
theorem dX5_wouldWin_33 : decode cX5_wouldWin 33 = .ok (.iload_n 1, 1) := by decide +kernel
theorem dX5_wouldWin_34 : decode cX5_wouldWin 34 = .ok (.aload_n 0, 1) := by decide +kernel
theorem dX5_wouldWin_35 : decode cX5_wouldWin 35 = .ok (.getfield 10, 3) := by decide +kernel
theorem dX5_wouldWin_38 : decode cX5_wouldWin 38 = .ok (.iload_n 2, 1) := by decide +kernel
theorem dX5_wouldWin_39 : decode cX5_wouldWin 39 = .ok (.invokevirtual 192, 3) := by decide +kernel
theorem dX5_wouldWin_42 : decode cX5_wouldWin 42 = .ok (.invokevirtual 195, 3) := by decide +kernel
theorem dX5_wouldWin_45 : decode cX5_wouldWin 45 = .ok (.ifCond .eq 7, 3) := by decide +kernel
theorem dX5_wouldWin_48 : decode cX5_wouldWin 48 = .ok (.iconst 1, 1) := by decide +kernel
theorem dX5_wouldWin_49 : decode cX5_wouldWin 49 = .ok (.goto 4, 3) := by decide +kernel
theorem dX5_wouldWin_52 : decode cX5_wouldWin 52 = .ok (.iconst 0, 1) := by decide +kernel
theorem dX5_wouldWin_53 : decode cX5_wouldWin 53 = .ok (.ireturn, 1) := by decide +kernel
set_option maxRecDepth 20000 in
theorem ggX5_pass_X3_refusalOfPass : GoodIn wsX5_pass wsX3_refusalOfPass := goodIn_r _ [9] (by decide +kernel) (by decide +kernel)
set_option maxRecDepth 20000 in
theorem gX5_pass_X3_refusalOfPass : GoodIn wsX5_pass (wsV RX5 198 RX3 yX3_refusalOfPass wsX3_refusalOfPass) := goodIn_app (goodIn_of _ (by decide +kernel)) ggX5_pass_X3_refusalOfPass
set_option maxRecDepth 20000 in
theorem ggX5_pass_X4_remember : GoodIn wsX5_pass wsX4_remember := goodIn_r _ [14, 15, 16, 17, 13, 18, 19, 20, 21, 22, 23, 8, 24, 25, 26, 27, 28, 29, 30, 31, 32, 33, 34, 35, 36, 37, 38, 39, 40, 41, 42, 43, 44, 45, 46, 47, 48, 49, 50, 51, 52, 67, 68, 69, 70, 71, 72, 73, 74, 75, 76, 77, 78, 79, 80, 81, 82, 83, 84] (by decide +kernel) (by decide +kernel)
set_option maxRecDepth 20000 in
theorem gX5_pass_X4_remember : GoodIn wsX5_pass (wsV RX5 70 RX4 yX4_remember wsX4_remember) := goodIn_app (goodIn_of _ (by decide +kernel)) ggX5_pass_X4_remember
set_option maxRecDepth 20000 in
theorem ggX5_pass_X3_letPass : GoodIn wsX5_pass wsX3_letPass := goodIn_r _ [56, 39, 70, 71, 72, 73, 74, 75, 76, 77, 78, 79, 80, 81, 82, 83, 84] (by decide +kernel) (by decide +kernel)
set_option maxRecDepth 20000 in
theorem gX5_pass_X3_letPass : GoodIn wsX5_pass (wsV RX5 203 RX3 yX3_letPass wsX3_letPass) := goodIn_app (goodIn_of _ (by decide +kernel)) ggX5_pass_X3_letPass
theorem dX5_pass_0 : decode cX5_pass 0 = .ok (.aload_n 0, 1) := by decide +kernel
theorem dX5_pass_1 : decode cX5_pass 1 = .ok (.getfield 10, 3) := by decide +kernel
theorem dX5_pass_4 : decode cX5_pass 4 = .ok (.iload_n 1, 1) := by decide +kernel
theorem dX5_pass_5 : decode cX5_pass 5 = .ok (.invokevirtual 198, 3) := by decide +kernel
theorem dX5_pass_8 : decode cX5_pass 8 = .ok (.ifCond .eq 13, 3) := by decide +kernel
theorem dX5_pass_11 : decode cX5_pass 11 = .ok (.new 58, 3) := by decide +kernel
theorem dX5_pass_14 : decode cX5_pass 14 = .ok (.dup, 1) := by decide +kernel
theorem dX5_pass_15 : decode cX5_pass 15 = .ok (.ldc 201, 2) := by decide +kernel
theorem dX5_pass_17 : decode cX5_pass 17 = .ok (.invokespecial 62, 3) := by decide +kernel
theorem dX5_pass_20 : decode cX5_pass 20 = .ok (.athrow, 1) := by decide +kernel
theorem dX5_pass_21 : decode cX5_pass 21 = .ok (.aload_n 0, 1) := by decide +kernel
theorem dX5_pass_22 : decode cX5_pass 22 = .ok (.getfield 22, 3) := by decide +kernel
theorem dX5_pass_25 : decode cX5_pass 25 = .ok (.aload_n 0, 1) := by decide +kernel
theorem dX5_pass_26 : decode cX5_pass 26 = .ok (.getfield 10, 3) := by decide +kernel
theorem dX5_pass_29 : decode cX5_pass 29 = .ok (.invokevirtual 70, 3) := by decide +kernel
theorem dX5_pass_32 : decode cX5_pass 32 = .ok (.aload_n 0, 1) := by decide +kernel
theorem dX5_pass_33 : decode cX5_pass 33 = .ok (.getfield 10, 3) := by decide +kernel
theorem dX5_pass_36 : decode cX5_pass 36 = .ok (.iload_n 1, 1) := by decide +kernel
theorem dX5_pass_37 : decode cX5_pass 37 = .ok (.invokevirtual 203, 3) := by decide +kernel
theorem dX5_pass_40 : decode cX5_pass 40 = .ok (.ireturn, 1) := by decide +kernel
set_option maxRecDepth 20000 in
theorem ggX5_sweep_X3_refusalOfSweep : GoodIn wsX5_sweep wsX3_refusalOfSweep := goodIn_r _ [9] (by decide +kernel) (by decide +kernel)
set_option maxRecDepth 20000 in
theorem gX5_sweep_X3_refusalOfSweep : GoodIn wsX5_sweep (wsV RX5 206 RX3 yX3_refusalOfSweep wsX3_refusalOfSweep) := goodIn_app (goodIn_of _ (by decide +kernel)) ggX5_sweep_X3_refusalOfSweep
set_option maxRecDepth 20000 in
theorem ggX5_sweep_X4_remember : GoodIn wsX5_sweep wsX4_remember := goodIn_r _ [14, 15, 16, 17, 13, 18, 19, 20, 21, 22, 23, 8, 24, 25, 26, 27, 28, 29, 30, 31, 32, 33, 34, 35, 36, 37, 38, 39, 40, 41, 42, 43, 44, 45, 46, 47, 48, 49, 50, 51, 52, 117, 118, 119, 120, 121, 122, 123, 124, 125, 126, 127, 128, 129, 130, 131, 132, 133, 134] (by decide +kernel) (by decide +kernel)
set_option maxRecDepth 20000 in
theorem gX5_sweep_X4_remember : GoodIn wsX5_sweep (wsV RX5 70 RX4 yX4_remember wsX4_remember) := goodIn_app (goodIn_of _ (by decide +kernel)) ggX5_sweep_X4_remember
set_option maxRecDepth 20000 in
theorem ggX5_sweep_X3_sweepHats : GoodIn wsX5_sweep wsX3_sweepHats := goodIn_ca (goodIn_r _ [56, 40, 57, 58, 59, 8, 60, 31, 61, 62, 63, 64, 39, 32, 65, 66, 67, 68, 33, 69, 70, 71, 72, 73, 74, 75, 76, 77, 78, 79, 80, 42, 41, 81, 82, 83, 84, 34, 35, 85, 86, 87, 88, 89, 90, 91, 92, 30, 93, 94, 95, 96, 97, 98, 99, 100, 101, 102, 103, 104, 105, 106, 120, 121, 122, 123, 124, 125, 126, 127, 128, 129, 130, 131, 132, 133, 134] (by decide +kernel) (by decide +kernel)) (goodIn_sub (fun _ h => List.mem_cons_of_mem _ (List.mem_append_right _ h)) (by decide +kernel))
set_option maxRecDepth 20000 in
theorem gX5_sweep_X3_sweepHats : GoodIn wsX5_sweep (wsV RX5 211 RX3 yX3_sweepHats wsX3_sweepHats) := goodIn_app (goodIn_of _ (by decide +kernel)) ggX5_sweep_X3_sweepHats
theorem dX5_sweep_0 : decode cX5_sweep 0 = .ok (.aload_n 0, 1) := by decide +kernel
theorem dX5_sweep_1 : decode cX5_sweep 1 = .ok (.getfield 10, 3) := by decide +kernel
theorem dX5_sweep_4 : decode cX5_sweep 4 = .ok (.iload_n 1, 1) := by decide +kernel
theorem dX5_sweep_5 : decode cX5_sweep 5 = .ok (.invokevirtual 206, 3) := by decide +kernel
theorem dX5_sweep_8 : decode cX5_sweep 8 = .ok (.ifCond .eq 13, 3) := by decide +kernel
theorem dX5_sweep_11 : decode cX5_sweep 11 = .ok (.new 58, 3) := by decide +kernel
theorem dX5_sweep_14 : decode cX5_sweep 14 = .ok (.dup, 1) := by decide +kernel
theorem dX5_sweep_15 : decode cX5_sweep 15 = .ok (.ldc 209, 2) := by decide +kernel
theorem dX5_sweep_17 : decode cX5_sweep 17 = .ok (.invokespecial 62, 3) := by decide +kernel
theorem dX5_sweep_20 : decode cX5_sweep 20 = .ok (.athrow, 1) := by decide +kernel
theorem dX5_sweep_21 : decode cX5_sweep 21 = .ok (.aload_n 0, 1) := by decide +kernel
theorem dX5_sweep_22 : decode cX5_sweep 22 = .ok (.getfield 22, 3) := by decide +kernel
theorem dX5_sweep_25 : decode cX5_sweep 25 = .ok (.aload_n 0, 1) := by decide +kernel
theorem dX5_sweep_26 : decode cX5_sweep 26 = .ok (.getfield 10, 3) := by decide +kernel
theorem dX5_sweep_29 : decode cX5_sweep 29 = .ok (.invokevirtual 70, 3) := by decide +kernel
theorem dX5_sweep_32 : decode cX5_sweep 32 = .ok (.aload_n 0, 1) := by decide +kernel
theorem dX5_sweep_33 : decode cX5_sweep 33 = .ok (.getfield 10, 3) := by decide +kernel
theorem dX5_sweep_36 : decode cX5_sweep 36 = .ok (.iload_n 1, 1) := by decide +kernel
theorem dX5_sweep_37 : decode cX5_sweep 37 = .ok (.invokevirtual 211, 3) := by decide +kernel
theorem dX5_sweep_40 : decode cX5_sweep 40 = .ok (.ireturn, 1) := by decide +kernel
theorem dX5_now_0 : decode cX5_now 0 = .ok (.aload_n 0, 1) := by decide +kernel
theorem dX5_now_1 : decode cX5_now 1 = .ok (.getfield 10, 3) := by decide +kernel
theorem dX5_now_4 : decode cX5_now 4 = .ok (.getfield 214, 3) := by decide +kernel
theorem dX5_now_7 : decode cX5_now 7 = .ok (.ireturn, 1) := by decide +kernel
set_option maxRecDepth 20000 in
theorem ggX5_idlestGuest_X3_idlest : GoodIn wsX5_idlestGuest wsX3_idlest := goodIn_ca (goodIn_r _ [8, 9, 10, 11, 7, 12, 13, 14, 15, 16, 17, 18, 19, 30, 31, 32, 33, 34, 35, 36, 37, 38, 39, 40, 41, 42, 43, 44] (by decide +kernel) (by decide +kernel)) (goodIn_sub (fun _ h => List.mem_cons_of_mem _ (List.mem_append_right _ h)) (by decide +kernel))
set_option maxRecDepth 20000 in
theorem gX5_idlestGuest_X3_idlest : GoodIn wsX5_idlestGuest (wsV RX5 217 RX3 yX3_idlest wsX3_idlest) := goodIn_app (goodIn_of _ (by decide +kernel)) ggX5_idlestGuest_X3_idlest
theorem dX5_idlestGuest_0 : decode cX5_idlestGuest 0 = .ok (.aload_n 0, 1) := by decide +kernel
theorem dX5_idlestGuest_1 : decode cX5_idlestGuest 1 = .ok (.getfield 10, 3) := by decide +kernel
theorem dX5_idlestGuest_4 : decode cX5_idlestGuest 4 = .ok (.invokevirtual 217, 3) := by decide +kernel
theorem dX5_idlestGuest_7 : decode cX5_idlestGuest 7 = .ok (.istore_n 1, 1) := by decide +kernel
theorem dX5_idlestGuest_8 : decode cX5_idlestGuest 8 = .ok (.iload_n 1, 1) := by decide +kernel
theorem dX5_idlestGuest_9 : decode cX5_idlestGuest 9 = .ok (.iconst (-1), 1) := by decide +kernel
theorem dX5_idlestGuest_10 : decode cX5_idlestGuest 10 = .ok (.if_icmp .ne 13, 3) := by decide +kernel
theorem dX5_idlestGuest_13 : decode cX5_idlestGuest 13 = .ok (.new 170, 3) := by decide +kernel
theorem dX5_idlestGuest_16 : decode cX5_idlestGuest 16 = .ok (.dup, 1) := by decide +kernel
theorem dX5_idlestGuest_17 : decode cX5_idlestGuest 17 = .ok (.ldc 221, 2) := by decide +kernel
theorem dX5_idlestGuest_19 : decode cX5_idlestGuest 19 = .ok (.invokespecial 174, 3) := by decide +kernel
theorem dX5_idlestGuest_22 : decode cX5_idlestGuest 22 = .ok (.athrow, 1) := by decide +kernel
theorem dX5_idlestGuest_23 : decode cX5_idlestGuest 23 = .ok (.iload_n 1, 1) := by decide +kernel
theorem dX5_idlestGuest_24 : decode cX5_idlestGuest 24 = .ok (.ireturn, 1) := by decide +kernel
set_option maxRecDepth 20000 in
theorem ggX5_isCovered_X5_requireChair : GoodIn wsX5_isCovered wsX5_requireChair := goodIn_ca (goodIn_r _ [5, 6, 7, 8, 9, 10, 11] (by decide +kernel) (by decide +kernel)) (goodIn_sub (fun _ h => List.mem_cons_of_mem _ (List.mem_append_left _ (List.mem_append_right _ h))) (by decide +kernel))
set_option maxRecDepth 20000 in
theorem gX5_isCovered_X5_requireChair : GoodIn wsX5_isCovered (va_wsS RX5 161 yX5_requireChair wsX5_requireChair) := goodIn_app (goodIn_of _ (by decide +kernel)) ggX5_isCovered_X5_requireChair
set_option maxRecDepth 20000 in
theorem ggX5_isCovered_X3_covererAt : GoodIn wsX5_isCovered wsX3_covererAt := goodIn_ca (goodIn_r _ [15, 16, 27, 28, 29, 30, 31, 32, 33, 34, 35, 36, 37, 38, 39, 40, 41] (by decide +kernel) (by decide +kernel)) (goodIn_sub (fun _ h => List.mem_cons_of_mem _ (List.mem_append_right _ h)) (by decide +kernel))
set_option maxRecDepth 20000 in
theorem gX5_isCovered_X3_covererAt : GoodIn wsX5_isCovered (wsV RX5 192 RX3 yX3_covererAt wsX3_covererAt) := goodIn_app (goodIn_of _ (by decide +kernel)) ggX5_isCovered_X3_covererAt
theorem dX5_isCovered_0 : decode cX5_isCovered 0 = .ok (.iload_n 1, 1) := by decide +kernel
theorem dX5_isCovered_1 : decode cX5_isCovered 1 = .ok (.invokestatic 161, 3) := by decide +kernel
theorem dX5_isCovered_4 : decode cX5_isCovered 4 = .ok (.aload_n 0, 1) := by decide +kernel
theorem dX5_isCovered_5 : decode cX5_isCovered 5 = .ok (.getfield 10, 3) := by decide +kernel
theorem dX5_isCovered_8 : decode cX5_isCovered 8 = .ok (.iload_n 1, 1) := by decide +kernel
theorem dX5_isCovered_9 : decode cX5_isCovered 9 = .ok (.invokevirtual 192, 3) := by decide +kernel
theorem dX5_isCovered_12 : decode cX5_isCovered 12 = .ok (.iconst (-1), 1) := by decide +kernel
theorem dX5_isCovered_13 : decode cX5_isCovered 13 = .ok (.if_icmp .eq 7, 3) := by decide +kernel
theorem dX5_isCovered_16 : decode cX5_isCovered 16 = .ok (.iconst 1, 1) := by decide +kernel
theorem dX5_isCovered_17 : decode cX5_isCovered 17 = .ok (.goto 4, 3) := by decide +kernel
theorem dX5_isCovered_20 : decode cX5_isCovered 20 = .ok (.iconst 0, 1) := by decide +kernel
theorem dX5_isCovered_21 : decode cX5_isCovered 21 = .ok (.ireturn, 1) := by decide +kernel
set_option maxRecDepth 20000 in
theorem ggX5_covererOf_X5_requireChair : GoodIn wsX5_covererOf wsX5_requireChair := goodIn_ca (goodIn_r _ [7, 8, 9, 10, 11, 12, 13] (by decide +kernel) (by decide +kernel)) (goodIn_sub (fun _ h => List.mem_cons_of_mem _ (List.mem_append_left _ (List.mem_append_right _ h))) (by decide +kernel))
set_option maxRecDepth 20000 in
theorem gX5_covererOf_X5_requireChair : GoodIn wsX5_covererOf (va_wsS RX5 161 yX5_requireChair wsX5_requireChair) := goodIn_app (goodIn_of _ (by decide +kernel)) ggX5_covererOf_X5_requireChair
set_option maxRecDepth 20000 in
theorem ggX5_covererOf_X3_covererAt : GoodIn wsX5_covererOf wsX3_covererAt := goodIn_ca (goodIn_r _ [17, 18, 29, 30, 31, 32, 33, 34, 35, 36, 37, 38, 39, 40, 41, 42, 43] (by decide +kernel) (by decide +kernel)) (goodIn_sub (fun _ h => List.mem_cons_of_mem _ (List.mem_append_right _ h)) (by decide +kernel))
set_option maxRecDepth 20000 in
theorem gX5_covererOf_X3_covererAt : GoodIn wsX5_covererOf (wsV RX5 192 RX3 yX3_covererAt wsX3_covererAt) := goodIn_app (goodIn_of _ (by decide +kernel)) ggX5_covererOf_X3_covererAt
theorem dX5_covererOf_0 : decode cX5_covererOf 0 = .ok (.iload_n 1, 1) := by decide +kernel
theorem dX5_covererOf_1 : decode cX5_covererOf 1 = .ok (.invokestatic 161, 3) := by decide +kernel
theorem dX5_covererOf_4 : decode cX5_covererOf 4 = .ok (.aload_n 0, 1) := by decide +kernel
theorem dX5_covererOf_5 : decode cX5_covererOf 5 = .ok (.getfield 10, 3) := by decide +kernel
theorem dX5_covererOf_8 : decode cX5_covererOf 8 = .ok (.iload_n 1, 1) := by decide +kernel
theorem dX5_covererOf_9 : decode cX5_covererOf 9 = .ok (.invokevirtual 192, 3) := by decide +kernel
theorem dX5_covererOf_12 : decode cX5_covererOf 12 = .ok (.istore_n 2, 1) := by decide +kernel
theorem dX5_covererOf_13 : decode cX5_covererOf 13 = .ok (.iload_n 2, 1) := by decide +kernel
theorem dX5_covererOf_14 : decode cX5_covererOf 14 = .ok (.iconst (-1), 1) := by decide +kernel
theorem dX5_covererOf_15 : decode cX5_covererOf 15 = .ok (.if_icmp .ne 13, 3) := by decide +kernel
theorem dX5_covererOf_18 : decode cX5_covererOf 18 = .ok (.new 170, 3) := by decide +kernel
theorem dX5_covererOf_21 : decode cX5_covererOf 21 = .ok (.dup, 1) := by decide +kernel
theorem dX5_covererOf_22 : decode cX5_covererOf 22 = .ok (.ldc 186, 2) := by decide +kernel
theorem dX5_covererOf_24 : decode cX5_covererOf 24 = .ok (.invokespecial 174, 3) := by decide +kernel
theorem dX5_covererOf_27 : decode cX5_covererOf 27 = .ok (.athrow, 1) := by decide +kernel
theorem dX5_covererOf_28 : decode cX5_covererOf 28 = .ok (.iload_n 2, 1) := by decide +kernel
theorem dX5_covererOf_29 : decode cX5_covererOf 29 = .ok (.ireturn, 1) := by decide +kernel
set_option maxRecDepth 20000 in
theorem ggX5_coveredMask_X3_coveredChairs : GoodIn wsX5_coveredMask wsX3_coveredChairs := goodIn_ca (goodIn_r _ [6, 7, 18, 19, 20, 21, 22, 23, 24, 25, 26, 27, 28, 29, 30, 31, 32] (by decide +kernel) (by decide +kernel)) (goodIn_sub (fun _ h => List.mem_cons_of_mem _ (List.mem_append_right _ h)) (by decide +kernel))
set_option maxRecDepth 20000 in
theorem gX5_coveredMask_X3_coveredChairs : GoodIn wsX5_coveredMask (wsV RX5 223 RX3 yX3_coveredChairs wsX3_coveredChairs) := goodIn_app (goodIn_of _ (by decide +kernel)) ggX5_coveredMask_X3_coveredChairs
theorem dX5_coveredMask_0 : decode cX5_coveredMask 0 = .ok (.aload_n 0, 1) := by decide +kernel
theorem dX5_coveredMask_1 : decode cX5_coveredMask 1 = .ok (.getfield 10, 3) := by decide +kernel
theorem dX5_coveredMask_4 : decode cX5_coveredMask 4 = .ok (.invokevirtual 223, 3) := by decide +kernel
theorem dX5_coveredMask_7 : decode cX5_coveredMask 7 = .ok (.lreturn, 1) := by decide +kernel
set_option maxRecDepth 20000 in
theorem ggX5_coveredCount_X3_countByChair : GoodIn wsX5_coveredCount wsX3_countByChair := goodIn_ca (goodIn_r _ [6, 7, 8, 9, 5, 10, 11, 22, 23, 24, 25, 26, 27, 28, 29, 30, 31, 32, 33, 34, 35, 36] (by decide +kernel) (by decide +kernel)) (goodIn_sub (fun _ h => List.mem_cons_of_mem _ (List.mem_append_right _ h)) (by decide +kernel))
set_option maxRecDepth 20000 in
theorem gX5_coveredCount_X3_countByChair : GoodIn wsX5_coveredCount (wsV RX5 227 RX3 yX3_countByChair wsX3_countByChair) := goodIn_app (goodIn_of _ (by decide +kernel)) ggX5_coveredCount_X3_countByChair
theorem dX5_coveredCount_0 : decode cX5_coveredCount 0 = .ok (.aload_n 0, 1) := by decide +kernel
theorem dX5_coveredCount_1 : decode cX5_coveredCount 1 = .ok (.getfield 10, 3) := by decide +kernel
theorem dX5_coveredCount_4 : decode cX5_coveredCount 4 = .ok (.invokevirtual 227, 3) := by decide +kernel
theorem dX5_coveredCount_7 : decode cX5_coveredCount 7 = .ok (.ireturn, 1) := by decide +kernel
set_option maxRecDepth 20000 in
theorem ggX5_longestFreeRun_X5_requireRow : GoodIn wsX5_longestFreeRun wsX5_requireRow := goodIn_ca (goodIn_r _ [5, 6, 7] (by decide +kernel) (by decide +kernel)) (goodIn_sub (fun _ h => List.mem_cons_of_mem _ (List.mem_append_left _ (List.mem_append_right _ h))) (by decide +kernel))
set_option maxRecDepth 20000 in
theorem gX5_longestFreeRun_X5_requireRow : GoodIn wsX5_longestFreeRun (va_wsS RX5 233 yX5_requireRow wsX5_requireRow) := goodIn_app (goodIn_of _ (by decide +kernel)) ggX5_longestFreeRun_X5_requireRow
set_option maxRecDepth 20000 in
theorem ggX5_longestFreeRun_X3_freeRunByScan : GoodIn wsX5_longestFreeRun wsX3_freeRunByScan := goodIn_ca (goodIn_r _ [12, 13, 14, 15, 16, 17, 18, 19, 11, 20, 21, 32, 33, 34, 35, 36, 37, 38, 39, 40, 41, 42, 43, 44, 45, 46] (by decide +kernel) (by decide +kernel)) (goodIn_sub (fun _ h => List.mem_cons_of_mem _ (List.mem_append_right _ h)) (by decide +kernel))
set_option maxRecDepth 20000 in
theorem gX5_longestFreeRun_X3_freeRunByScan : GoodIn wsX5_longestFreeRun (wsV RX5 236 RX3 yX3_freeRunByScan wsX3_freeRunByScan) := goodIn_app (goodIn_of _ (by decide +kernel)) ggX5_longestFreeRun_X3_freeRunByScan
theorem dX5_longestFreeRun_0 : decode cX5_longestFreeRun 0 = .ok (.iload_n 1, 1) := by decide +kernel
theorem dX5_longestFreeRun_1 : decode cX5_longestFreeRun 1 = .ok (.invokestatic 233, 3) := by decide +kernel
theorem dX5_longestFreeRun_4 : decode cX5_longestFreeRun 4 = .ok (.aload_n 0, 1) := by decide +kernel
theorem dX5_longestFreeRun_5 : decode cX5_longestFreeRun 5 = .ok (.getfield 10, 3) := by decide +kernel
theorem dX5_longestFreeRun_8 : decode cX5_longestFreeRun 8 = .ok (.iload_n 1, 1) := by decide +kernel
theorem dX5_longestFreeRun_9 : decode cX5_longestFreeRun 9 = .ok (.invokevirtual 236, 3) := by decide +kernel
theorem dX5_longestFreeRun_12 : decode cX5_longestFreeRun 12 = .ok (.ireturn, 1) := by decide +kernel
set_option maxRecDepth 20000 in
theorem ggX5_longestFreeRunByMask_X5_requireRow : GoodIn wsX5_longestFreeRunByMask wsX5_requireRow := goodIn_ca (goodIn_r _ [5, 6, 7] (by decide +kernel) (by decide +kernel)) (goodIn_sub (fun _ h => List.mem_cons_of_mem _ (List.mem_append_left _ (List.mem_append_right _ h))) (by decide +kernel))
set_option maxRecDepth 20000 in
theorem gX5_longestFreeRunByMask_X5_requireRow : GoodIn wsX5_longestFreeRunByMask (va_wsS RX5 233 yX5_requireRow wsX5_requireRow) := goodIn_app (goodIn_of _ (by decide +kernel)) ggX5_longestFreeRunByMask_X5_requireRow
set_option maxRecDepth 20000 in
theorem ggX5_longestFreeRunByMask_X3_freeRunByShift : GoodIn wsX5_longestFreeRunByMask wsX3_freeRunByShift := goodIn_ca (goodIn_r _ [12, 13, 14, 15, 16, 17, 11, 18, 19, 30, 31, 32, 33, 34, 35, 36, 37, 38, 39, 40, 41, 42, 43, 44] (by decide +kernel) (by decide +kernel)) (goodIn_sub (fun _ h => List.mem_cons_of_mem _ (List.mem_append_right _ h)) (by decide +kernel))
set_option maxRecDepth 20000 in
theorem gX5_longestFreeRunByMask_X3_freeRunByShift : GoodIn wsX5_longestFreeRunByMask (wsV RX5 239 RX3 yX3_freeRunByShift wsX3_freeRunByShift) := goodIn_app (goodIn_of _ (by decide +kernel)) ggX5_longestFreeRunByMask_X3_freeRunByShift
theorem dX5_longestFreeRunByMask_0 : decode cX5_longestFreeRunByMask 0 = .ok (.iload_n 1, 1) := by decide +kernel
theorem dX5_longestFreeRunByMask_1 : decode cX5_longestFreeRunByMask 1 = .ok (.invokestatic 233, 3) := by decide +kernel
theorem dX5_longestFreeRunByMask_4 : decode cX5_longestFreeRunByMask 4 = .ok (.aload_n 0, 1) := by decide +kernel
theorem dX5_longestFreeRunByMask_5 : decode cX5_longestFreeRunByMask 5 = .ok (.getfield 10, 3) := by decide +kernel
theorem dX5_longestFreeRunByMask_8 : decode cX5_longestFreeRunByMask 8 = .ok (.iload_n 1, 1) := by decide +kernel
theorem dX5_longestFreeRunByMask_9 : decode cX5_longestFreeRunByMask 9 = .ok (.invokevirtual 239, 3) := by decide +kernel
theorem dX5_longestFreeRunByMask_12 : decode cX5_longestFreeRunByMask 12 = .ok (.ireturn, 1) := by decide +kernel
set_option maxRecDepth 20000 in
theorem ggX5_guestAtRank_X3_guestBehind : GoodIn wsX5_guestAtRank wsX3_guestBehind := goodIn_ca (goodIn_r _ [8, 9, 10, 11, 12, 7, 13, 14, 15, 16, 17, 18, 19, 20, 21, 22, 23, 24, 25, 26, 27, 28, 29, 30, 41, 42, 43, 44, 45, 46, 47, 48, 49, 50, 51, 52, 53, 54, 55] (by decide +kernel) (by decide +kernel)) (goodIn_sub (fun _ h => List.mem_cons_of_mem _ (List.mem_append_right _ h)) (by decide +kernel))
set_option maxRecDepth 20000 in
theorem gX5_guestAtRank_X3_guestBehind : GoodIn wsX5_guestAtRank (wsV RX5 242 RX3 yX3_guestBehind wsX3_guestBehind) := goodIn_app (goodIn_of _ (by decide +kernel)) ggX5_guestAtRank_X3_guestBehind
theorem dX5_guestAtRank_0 : decode cX5_guestAtRank 0 = .ok (.aload_n 0, 1) := by decide +kernel
theorem dX5_guestAtRank_1 : decode cX5_guestAtRank 1 = .ok (.getfield 10, 3) := by decide +kernel
theorem dX5_guestAtRank_4 : decode cX5_guestAtRank 4 = .ok (.iload_n 1, 1) := by decide +kernel
theorem dX5_guestAtRank_5 : decode cX5_guestAtRank 5 = .ok (.invokevirtual 242, 3) := by decide +kernel
theorem dX5_guestAtRank_8 : decode cX5_guestAtRank 8 = .ok (.istore_n 2, 1) := by decide +kernel
theorem dX5_guestAtRank_9 : decode cX5_guestAtRank 9 = .ok (.iload_n 2, 1) := by decide +kernel
theorem dX5_guestAtRank_10 : decode cX5_guestAtRank 10 = .ok (.iconst (-1), 1) := by decide +kernel
theorem dX5_guestAtRank_11 : decode cX5_guestAtRank 11 = .ok (.if_icmp .ne 13, 3) := by decide +kernel
theorem dX5_guestAtRank_14 : decode cX5_guestAtRank 14 = .ok (.new 170, 3) := by decide +kernel
theorem dX5_guestAtRank_17 : decode cX5_guestAtRank 17 = .ok (.dup, 1) := by decide +kernel
theorem dX5_guestAtRank_18 : decode cX5_guestAtRank 18 = .ok (.ldc 245, 2) := by decide +kernel
theorem dX5_guestAtRank_20 : decode cX5_guestAtRank 20 = .ok (.invokespecial 174, 3) := by decide +kernel
theorem dX5_guestAtRank_23 : decode cX5_guestAtRank 23 = .ok (.athrow, 1) := by decide +kernel
theorem dX5_guestAtRank_24 : decode cX5_guestAtRank 24 = .ok (.iload_n 2, 1) := by decide +kernel
theorem dX5_guestAtRank_25 : decode cX5_guestAtRank 25 = .ok (.ireturn, 1) := by decide +kernel
theorem dX5_sweptTotal_0 : decode cX5_sweptTotal 0 = .ok (.aload_n 0, 1) := by decide +kernel
theorem dX5_sweptTotal_1 : decode cX5_sweptTotal 1 = .ok (.getfield 10, 3) := by decide +kernel
theorem dX5_sweptTotal_4 : decode cX5_sweptTotal 4 = .ok (.getfield 247, 3) := by decide +kernel
theorem dX5_sweptTotal_7 : decode cX5_sweptTotal 7 = .ok (.ireturn, 1) := by decide +kernel
theorem dX5_lapsedTotal_0 : decode cX5_lapsedTotal 0 = .ok (.aload_n 0, 1) := by decide +kernel
theorem dX5_lapsedTotal_1 : decode cX5_lapsedTotal 1 = .ok (.getfield 10, 3) := by decide +kernel
theorem dX5_lapsedTotal_4 : decode cX5_lapsedTotal 4 = .ok (.getfield 250, 3) := by decide +kernel
theorem dX5_lapsedTotal_7 : decode cX5_lapsedTotal 7 = .ok (.ireturn, 1) := by decide +kernel
theorem dX5_offersTaken_0 : decode cX5_offersTaken 0 = .ok (.aload_n 0, 1) := by decide +kernel
theorem dX5_offersTaken_1 : decode cX5_offersTaken 1 = .ok (.getfield 10, 3) := by decide +kernel
theorem dX5_offersTaken_4 : decode cX5_offersTaken 4 = .ok (.getfield 253, 3) := by decide +kernel
theorem dX5_offersTaken_7 : decode cX5_offersTaken 7 = .ok (.ireturn, 1) := by decide +kernel
theorem dX5_contestsWon_0 : decode cX5_contestsWon 0 = .ok (.aload_n 0, 1) := by decide +kernel
theorem dX5_contestsWon_1 : decode cX5_contestsWon 1 = .ok (.getfield 10, 3) := by decide +kernel
theorem dX5_contestsWon_4 : decode cX5_contestsWon 4 = .ok (.getfield 256, 3) := by decide +kernel
theorem dX5_contestsWon_7 : decode cX5_contestsWon 7 = .ok (.ireturn, 1) := by decide +kernel
set_option maxRecDepth 20000 in
theorem ggX5_append_X2_isFull : GoodIn wsX5_append wsX2_isFull := goodIn_r _ [10, 11, 27, 28, 29, 30, 31, 32, 33] (by decide +kernel) (by decide +kernel)
set_option maxRecDepth 20000 in
theorem gX5_append_X2_isFull : GoodIn wsX5_append (wsV RX5 261 RX2 yX2_isFull wsX2_isFull) := goodIn_app (goodIn_of _ (by decide +kernel)) ggX5_append_X2_isFull
set_option maxRecDepth 20000 in
theorem ggX5_append_X2_add : GoodIn wsX5_append wsX2_add := goodIn_ca (goodIn_r _ [15, 16, 11, 27, 28, 29, 30, 31, 32, 33] (by decide +kernel) (by decide +kernel)) (goodIn_sub (fun _ h => List.mem_cons_of_mem _ (List.mem_append_right _ h)) (by decide +kernel))
set_option maxRecDepth 20000 in
theorem gX5_append_X2_add : GoodIn wsX5_append (wsV RX5 267 RX2 yX2_add wsX2_add) := goodIn_app (goodIn_of _ (by decide +kernel)) ggX5_append_X2_add
theorem dX5_append_0 : decode cX5_append 0 = .ok (.iload_n 1, 1) := by decide +kernel
theorem dX5_append_1 : decode cX5_append 1 = .ok (.bipush 32, 2) := by decide +kernel
theorem dX5_append_3 : decode cX5_append 3 = .ok (.if_icmp .lt 9, 3) := by decide +kernel
theorem dX5_append_6 : decode cX5_append 6 = .ok (.iload_n 1, 1) := by decide +kernel
theorem dX5_append_7 : decode cX5_append 7 = .ok (.bipush 126, 2) := by decide +kernel
theorem dX5_append_9 : decode cX5_append 9 = .ok (.if_icmp .le 14, 3) := by decide +kernel
theorem dX5_append_12 : decode cX5_append 12 = .ok (.new 58, 3) := by decide +kernel
theorem dX5_append_15 : decode cX5_append 15 = .ok (.dup, 1) := by decide +kernel
theorem dX5_append_16 : decode cX5_append 16 = .ok (.ldc_w 259, 3) := by decide +kernel
theorem dX5_append_19 : decode cX5_append 19 = .ok (.invokespecial 62, 3) := by decide +kernel
theorem dX5_append_22 : decode cX5_append 22 = .ok (.athrow, 1) := by decide +kernel
theorem dX5_append_23 : decode cX5_append 23 = .ok (.aload_n 0, 1) := by decide +kernel
theorem dX5_append_24 : decode cX5_append 24 = .ok (.getfield 29, 3) := by decide +kernel
theorem dX5_append_27 : decode cX5_append 27 = .ok (.invokevirtual 261, 3) := by decide +kernel
theorem dX5_append_30 : decode cX5_append 30 = .ok (.ifCond .eq 14, 3) := by decide +kernel
theorem dX5_append_33 : decode cX5_append 33 = .ok (.new 65, 3) := by decide +kernel
theorem dX5_append_36 : decode cX5_append 36 = .ok (.dup, 1) := by decide +kernel
theorem dX5_append_37 : decode cX5_append 37 = .ok (.ldc_w 265, 3) := by decide +kernel
theorem dX5_append_40 : decode cX5_append 40 = .ok (.invokespecial 69, 3) := by decide +kernel
theorem dX5_append_43 : decode cX5_append 43 = .ok (.athrow, 1) := by decide +kernel
theorem dX5_append_44 : decode cX5_append 44 = .ok (.aload_n 0, 1) := by decide +kernel
theorem dX5_append_45 : decode cX5_append 45 = .ok (.getfield 29, 3) := by decide +kernel
theorem dX5_append_48 : decode cX5_append 48 = .ok (.iload_n 1, 1) := by decide +kernel
theorem dX5_append_49 : decode cX5_append 49 = .ok (.invokevirtual 267, 3) := by decide +kernel
theorem dX5_append_52 : decode cX5_append 52 = .ok (.ireturn, 1) := by decide +kernel
set_option maxRecDepth 20000 in
theorem ggX5_run_X2_read : GoodIn wsX5_run wsX2_read := goodIn_ca (goodIn_r _ [20, 21, 22, 23, 24, 25, 26, 19, 27, 28, 29, 30, 31, 32, 33, 34, 35, 36, 37, 38, 39, 40, 41, 42, 43, 44, 45, 46, 47, 48, 49, 50, 51, 52, 53, 54, 55, 56, 57, 58, 59, 60, 61, 62, 63, 64, 65, 66, 67, 68, 69, 70, 71, 72, 73, 74, 75, 76, 77, 78, 79, 80, 81, 82, 83, 84, 85, 86, 87, 88, 89, 90, 91, 92, 93, 94, 95, 96, 97, 98, 99, 100, 101, 102, 103, 104, 105, 106, 107, 108, 324, 325, 326, 327, 328, 329, 330, 331, 332, 333, 334] (by decide +kernel) (by decide +kernel)) (goodIn_sub (fun _ h => List.mem_cons_of_mem _ (List.mem_append_left _ (List.mem_append_right _ h))) (by decide +kernel))
set_option maxRecDepth 20000 in
theorem gX5_run_X2_read : GoodIn wsX5_run (wsV RX5 271 RX2 yX2_read wsX2_read) := goodIn_app (goodIn_of _ (by decide +kernel)) ggX5_run_X2_read
set_option maxRecDepth 20000 in
theorem ggX5_run_X2_empty : GoodIn wsX5_run wsX2_empty := goodIn_r _ [112, 23, 324, 325, 326, 327, 328, 329, 330] (by decide +kernel) (by decide +kernel)
set_option maxRecDepth 20000 in
theorem gX5_run_X2_empty : GoodIn wsX5_run (wsV RX5 274 RX2 yX2_empty wsX2_empty) := goodIn_app (goodIn_of _ (by decide +kernel)) ggX5_run_X2_empty
set_option maxRecDepth 20000 in
theorem ggX5_run_X4_prepare : GoodIn wsX5_run wsX4_prepare := goodIn_r _ [117, 118, 119, 120, 121, 122, 123, 124, 125, 126, 127, 128, 129, 130, 131, 132, 133, 134, 135, 136, 137, 138, 139, 140, 141, 142, 143, 335, 336, 337, 338, 339, 340, 341, 342, 343, 344, 345, 346, 347, 348, 349, 350, 351, 352] (by decide +kernel) (by decide +kernel)
set_option maxRecDepth 20000 in
theorem gX5_run_X4_prepare : GoodIn wsX5_run (wsV RX5 282 RX4 yX4_prepare wsX4_prepare) := goodIn_app (goodIn_of _ (by decide +kernel)) ggX5_run_X4_prepare
set_option maxRecDepth 20000 in
theorem ggX5_run_X1_refusalIn : GoodIn wsX5_run wsX1_refusalIn := goodIn_ca (goodIn_r _ [148, 149, 150, 151, 152, 153, 154, 155, 156, 157, 158, 159, 123, 160, 138, 161, 162, 163, 164, 165, 166, 167, 168, 169, 170, 171, 172, 173, 174, 175, 131, 176, 177, 178, 179, 133, 180, 181, 182, 183, 184, 185, 186, 187, 134, 188, 189, 190, 191, 192, 193, 194, 195, 196, 197, 198, 199, 200, 201, 202, 203, 204, 205, 206, 207, 208, 209, 210, 211, 125, 338, 339, 340, 341, 342, 343, 344, 345, 346, 347, 348, 349, 350, 351, 352] (by decide +kernel) (by decide +kernel)) (goodIn_sub (fun _ h => List.mem_cons_of_mem _ (List.mem_append_left _ (List.mem_append_right _ h))) (by decide +kernel))
set_option maxRecDepth 20000 in
theorem gX5_run_X1_refusalIn : GoodIn wsX5_run (wsV RX5 298 RX1 yX1_refusalIn wsX1_refusalIn) := goodIn_app (goodIn_of _ (by decide +kernel)) ggX5_run_X1_refusalIn
set_option maxRecDepth 20000 in
theorem ggX5_run_X4_takeBack : GoodIn wsX5_run wsX4_takeBack := goodIn_r _ [215, 118, 119, 120, 121, 122, 123, 124, 125, 126, 127, 128, 129, 130, 131, 132, 133, 134, 135, 136, 137, 138, 139, 140, 141, 142, 143, 335, 336, 337, 338, 339, 340, 341, 342, 343, 344, 345, 346, 347, 348, 349, 350, 351, 352] (by decide +kernel) (by decide +kernel)
set_option maxRecDepth 20000 in
theorem gX5_run_X4_takeBack : GoodIn wsX5_run (wsV RX5 304 RX4 yX4_takeBack wsX4_takeBack) := goodIn_app (goodIn_of _ (by decide +kernel)) ggX5_run_X4_takeBack
set_option maxRecDepth 20000 in
theorem ggX5_run_X1_carryOutIn : GoodIn wsX5_run wsX1_carryOutIn := goodIn_ca (goodIn_r _ [219, 149, 150, 151, 152, 153, 154, 155, 156, 220, 221, 222, 123, 223, 138, 125, 130, 224, 225, 226, 227, 131, 132, 139, 133, 228, 229, 230, 231, 232, 233, 234, 235, 236, 237, 238, 239, 240, 241, 242, 243, 244, 245, 246, 247, 248, 249, 250, 251, 252, 253, 176, 177, 178, 179, 254, 255, 256, 257, 142, 141, 258, 259, 260, 261, 134, 135, 262, 263, 264, 265, 172, 173, 174, 175, 266, 267, 268, 269, 270, 271, 272, 273, 274, 275, 276, 277, 278, 137, 136, 188, 189, 190, 191, 279, 280, 281, 282, 283, 284, 40, 41, 42, 143, 285, 286, 287, 288, 289, 290, 291, 292, 293, 294, 295, 296, 297, 298, 299, 300, 301, 140, 302, 303, 304, 305, 338, 339, 340, 341, 342, 343, 344, 345, 346, 347, 348, 349, 350, 351, 352] (by decide +kernel) (by decide +kernel)) (goodIn_sub (fun _ h => List.mem_cons_of_mem _ (List.mem_append_left _ (List.mem_append_right _ h))) (by decide +kernel))
set_option maxRecDepth 20000 in
theorem gX5_run_X1_carryOutIn : GoodIn wsX5_run (wsV RX5 309 RX1 yX1_carryOutIn wsX1_carryOutIn) := goodIn_app (goodIn_of _ (by decide +kernel)) ggX5_run_X1_carryOutIn
set_option maxRecDepth 20000 in
theorem ggX5_run_X4_keep : GoodIn wsX5_run wsX4_keep := goodIn_r _ [309, 119, 310, 311, 312, 41, 313, 335, 336, 337] (by decide +kernel) (by decide +kernel)
set_option maxRecDepth 20000 in
theorem gX5_run_X4_keep : GoodIn wsX5_run (wsV RX5 313 RX4 yX4_keep wsX4_keep) := goodIn_app (goodIn_of _ (by decide +kernel)) ggX5_run_X4_keep
theorem dX5_run_0 : decode cX5_run 0 = .ok (.aload_n 0, 1) := by decide +kernel
theorem dX5_run_1 : decode cX5_run 1 = .ok (.getfield 29, 3) := by decide +kernel
theorem dX5_run_4 : decode cX5_run 4 = .ok (.invokevirtual 271, 3) := by decide +kernel
theorem dX5_run_7 : decode cX5_run 7 = .ok (.istore_n 1, 1) := by decide +kernel
theorem dX5_run_8 : decode cX5_run 8 = .ok (.aload_n 0, 1) := by decide +kernel
theorem dX5_run_9 : decode cX5_run 9 = .ok (.getfield 29, 3) := by decide +kernel
theorem dX5_run_12 : decode cX5_run 12 = .ok (.invokevirtual 274, 3) := by decide +kernel
theorem dX5_run_15 : decode cX5_run 15 = .ok (.iload_n 1, 1) := by decide +kernel
theorem dX5_run_16 : decode cX5_run 16 = .ok (.ifCond .ne 25, 3) := by decide +kernel
theorem dX5_run_19 : decode cX5_run 19 = .ok (.aload_n 0, 1) := by decide +kernel
theorem dX5_run_20 : decode cX5_run 20 = .ok (.aload_n 0, 1) := by decide +kernel
theorem dX5_run_21 : decode cX5_run 21 = .ok (.getfield 29, 3) := by decide +kernel
theorem dX5_run_24 : decode cX5_run 24 = .ok (.getfield 277, 3) := by decide +kernel
theorem dX5_run_27 : decode cX5_run 27 = .ok (.putfield 45, 3) := by decide +kernel
theorem dX5_run_30 : decode cX5_run 30 = .ok (.new 58, 3) := by decide +kernel
theorem dX5_run_33 : decode cX5_run 33 = .ok (.dup, 1) := by decide +kernel
theorem dX5_run_34 : decode cX5_run 34 = .ok (.ldc_w 280, 3) := by decide +kernel
theorem dX5_run_37 : decode cX5_run 37 = .ok (.invokespecial 62, 3) := by decide +kernel
theorem dX5_run_40 : decode cX5_run 40 = .ok (.athrow, 1) := by decide +kernel
theorem dX5_run_41 : decode cX5_run 41 = .ok (.aload_n 0, 1) := by decide +kernel
theorem dX5_run_42 : decode cX5_run 42 = .ok (.getfield 22, 3) := by decide +kernel
theorem dX5_run_45 : decode cX5_run 45 = .ok (.aload_n 0, 1) := by decide +kernel
theorem dX5_run_46 : decode cX5_run 46 = .ok (.getfield 10, 3) := by decide +kernel
theorem dX5_run_49 : decode cX5_run 49 = .ok (.invokevirtual 282, 3) := by decide +kernel
theorem dX5_run_52 : decode cX5_run 52 = .ok (.iconst 0, 1) := by decide +kernel
theorem dX5_run_53 : decode cX5_run 53 = .ok (.istore_n 2, 1) := by decide +kernel
theorem dX5_run_54 : decode cX5_run 54 = .ok (.iload_n 2, 1) := by decide +kernel
theorem dX5_run_55 : decode cX5_run 55 = .ok (.bipush 10, 2) := by decide +kernel
theorem dX5_run_57 : decode cX5_run 57 = .ok (.if_icmp .ge 116, 3) := by decide +kernel
theorem dX5_run_60 : decode cX5_run 60 = .ok (.iload_n 2, 1) := by decide +kernel
theorem dX5_run_61 : decode cX5_run 61 = .ok (.aload_n 0, 1) := by decide +kernel
theorem dX5_run_62 : decode cX5_run 62 = .ok (.getfield 29, 3) := by decide +kernel
theorem dX5_run_65 : decode cX5_run 65 = .ok (.getfield 285, 3) := by decide +kernel
theorem dX5_run_68 : decode cX5_run 68 = .ok (.if_icmp .ge 105, 3) := by decide +kernel
theorem dX5_run_71 : decode cX5_run 71 = .ok (.aload_n 0, 1) := by decide +kernel
theorem dX5_run_72 : decode cX5_run 72 = .ok (.getfield 29, 3) := by decide +kernel
theorem dX5_run_75 : decode cX5_run 75 = .ok (.getfield 288, 3) := by decide +kernel
theorem dX5_run_78 : decode cX5_run 78 = .ok (.iload_n 2, 1) := by decide +kernel
theorem dX5_run_79 : decode cX5_run 79 = .ok (.aaload, 1) := by decide +kernel
theorem dX5_run_80 : decode cX5_run 80 = .ok (.astore_n 3, 1) := by decide +kernel
theorem dX5_run_81 : decode cX5_run 81 = .ok (.aload_n 0, 1) := by decide +kernel
theorem dX5_run_82 : decode cX5_run 82 = .ok (.getfield 29, 3) := by decide +kernel
theorem dX5_run_85 : decode cX5_run 85 = .ok (.getfield 292, 3) := by decide +kernel
theorem dX5_run_88 : decode cX5_run 88 = .ok (.iload_n 2, 1) := by decide +kernel
theorem dX5_run_89 : decode cX5_run 89 = .ok (.iaload, 1) := by decide +kernel
theorem dX5_run_90 : decode cX5_run 90 = .ok (.istore 4, 2) := by decide +kernel
theorem dX5_run_92 : decode cX5_run 92 = .ok (.aload_n 0, 1) := by decide +kernel
theorem dX5_run_93 : decode cX5_run 93 = .ok (.getfield 29, 3) := by decide +kernel
theorem dX5_run_96 : decode cX5_run 96 = .ok (.getfield 295, 3) := by decide +kernel
theorem dX5_run_99 : decode cX5_run 99 = .ok (.iload_n 2, 1) := by decide +kernel
theorem dX5_run_100 : decode cX5_run 100 = .ok (.iaload, 1) := by decide +kernel
theorem dX5_run_101 : decode cX5_run 101 = .ok (.istore 5, 2) := by decide +kernel
theorem dX5_run_103 : decode cX5_run 103 = .ok (.aload_n 3, 1) := by decide +kernel
theorem dX5_run_104 : decode cX5_run 104 = .ok (.aload_n 0, 1) := by decide +kernel
theorem dX5_run_105 : decode cX5_run 105 = .ok (.getfield 10, 3) := by decide +kernel
theorem dX5_run_108 : decode cX5_run 108 = .ok (.iload 4, 2) := by decide +kernel
theorem dX5_run_110 : decode cX5_run 110 = .ok (.iload 5, 2) := by decide +kernel
theorem dX5_run_112 : decode cX5_run 112 = .ok (.invokevirtual 298, 3) := by decide +kernel
theorem dX5_run_115 : decode cX5_run 115 = .ok (.istore 6, 2) := by decide +kernel
theorem dX5_run_117 : decode cX5_run 117 = .ok (.iload 6, 2) := by decide +kernel
theorem dX5_run_119 : decode cX5_run 119 = .ok (.ifCond .eq 36, 3) := by decide +kernel
theorem dX5_run_122 : decode cX5_run 122 = .ok (.aload_n 0, 1) := by decide +kernel
theorem dX5_run_123 : decode cX5_run 123 = .ok (.getfield 22, 3) := by decide +kernel
theorem dX5_run_126 : decode cX5_run 126 = .ok (.aload_n 0, 1) := by decide +kernel
theorem dX5_run_127 : decode cX5_run 127 = .ok (.getfield 10, 3) := by decide +kernel
theorem dX5_run_130 : decode cX5_run 130 = .ok (.invokevirtual 304, 3) := by decide +kernel
theorem dX5_run_133 : decode cX5_run 133 = .ok (.aload_n 0, 1) := by decide +kernel
theorem dX5_run_134 : decode cX5_run 134 = .ok (.iload_n 2, 1) := by decide +kernel
theorem dX5_run_135 : decode cX5_run 135 = .ok (.putfield 48, 3) := by decide +kernel
theorem dX5_run_138 : decode cX5_run 138 = .ok (.aload_n 0, 1) := by decide +kernel
theorem dX5_run_139 : decode cX5_run 139 = .ok (.iload 6, 2) := by decide +kernel
theorem dX5_run_141 : decode cX5_run 141 = .ok (.putfield 51, 3) := by decide +kernel
theorem dX5_run_144 : decode cX5_run 144 = .ok (.new 65, 3) := by decide +kernel
theorem dX5_run_147 : decode cX5_run 147 = .ok (.dup, 1) := by decide +kernel
theorem dX5_run_148 : decode cX5_run 148 = .ok (.ldc_w 307, 3) := by decide +kernel
theorem dX5_run_151 : decode cX5_run 151 = .ok (.invokespecial 69, 3) := by decide +kernel
theorem dX5_run_154 : decode cX5_run 154 = .ok (.athrow, 1) := by decide +kernel
theorem dX5_run_155 : decode cX5_run 155 = .ok (.aload_n 3, 1) := by decide +kernel
theorem dX5_run_156 : decode cX5_run 156 = .ok (.aload_n 0, 1) := by decide +kernel
theorem dX5_run_157 : decode cX5_run 157 = .ok (.getfield 10, 3) := by decide +kernel
theorem dX5_run_160 : decode cX5_run 160 = .ok (.iload 4, 2) := by decide +kernel
theorem dX5_run_162 : decode cX5_run 162 = .ok (.iload 5, 2) := by decide +kernel
theorem dX5_run_164 : decode cX5_run 164 = .ok (.invokevirtual 309, 3) := by decide +kernel
theorem dX5_run_167 : decode cX5_run 167 = .ok (.iinc 2 1, 3) := by decide +kernel
theorem dX5_run_170 : decode cX5_run 170 = .ok (.goto (-116), 3) := by decide +kernel
theorem dX5_run_173 : decode cX5_run 173 = .ok (.aload_n 0, 1) := by decide +kernel
theorem dX5_run_174 : decode cX5_run 174 = .ok (.getfield 22, 3) := by decide +kernel
theorem dX5_run_177 : decode cX5_run 177 = .ok (.invokevirtual 313, 3) := by decide +kernel
theorem dX5_run_180 : decode cX5_run 180 = .ok (.aload_n 0, 1) := by decide +kernel
theorem dX5_run_181 : decode cX5_run 181 = .ok (.getfield 29, 3) := by decide +kernel
theorem dX5_run_184 : decode cX5_run 184 = .ok (.getfield 285, 3) := by decide +kernel
theorem dX5_run_187 : decode cX5_run 187 = .ok (.ireturn, 1) := by decide +kernel
theorem dX5_errorPosition_0 : decode cX5_errorPosition 0 = .ok (.aload_n 0, 1) := by decide +kernel
theorem dX5_errorPosition_1 : decode cX5_errorPosition 1 = .ok (.getfield 45, 3) := by decide +kernel
theorem dX5_errorPosition_4 : decode cX5_errorPosition 4 = .ok (.iconst (-1), 1) := by decide +kernel
theorem dX5_errorPosition_5 : decode cX5_errorPosition 5 = .ok (.if_icmp .ne 14, 3) := by decide +kernel
theorem dX5_errorPosition_8 : decode cX5_errorPosition 8 = .ok (.new 170, 3) := by decide +kernel
theorem dX5_errorPosition_11 : decode cX5_errorPosition 11 = .ok (.dup, 1) := by decide +kernel
theorem dX5_errorPosition_12 : decode cX5_errorPosition 12 = .ok (.ldc_w 316, 3) := by decide +kernel
theorem dX5_errorPosition_15 : decode cX5_errorPosition 15 = .ok (.invokespecial 174, 3) := by decide +kernel
theorem dX5_errorPosition_18 : decode cX5_errorPosition 18 = .ok (.athrow, 1) := by decide +kernel
theorem dX5_errorPosition_19 : decode cX5_errorPosition 19 = .ok (.aload_n 0, 1) := by decide +kernel
theorem dX5_errorPosition_20 : decode cX5_errorPosition 20 = .ok (.getfield 45, 3) := by decide +kernel
theorem dX5_errorPosition_23 : decode cX5_errorPosition 23 = .ok (.ireturn, 1) := by decide +kernel
theorem dX5_failedCommand_0 : decode cX5_failedCommand 0 = .ok (.aload_n 0, 1) := by decide +kernel
theorem dX5_failedCommand_1 : decode cX5_failedCommand 1 = .ok (.getfield 48, 3) := by decide +kernel
theorem dX5_failedCommand_4 : decode cX5_failedCommand 4 = .ok (.iconst (-1), 1) := by decide +kernel
theorem dX5_failedCommand_5 : decode cX5_failedCommand 5 = .ok (.if_icmp .ne 14, 3) := by decide +kernel
theorem dX5_failedCommand_8 : decode cX5_failedCommand 8 = .ok (.new 170, 3) := by decide +kernel
theorem dX5_failedCommand_11 : decode cX5_failedCommand 11 = .ok (.dup, 1) := by decide +kernel
theorem dX5_failedCommand_12 : decode cX5_failedCommand 12 = .ok (.ldc_w 318, 3) := by decide +kernel
theorem dX5_failedCommand_15 : decode cX5_failedCommand 15 = .ok (.invokespecial 174, 3) := by decide +kernel
theorem dX5_failedCommand_18 : decode cX5_failedCommand 18 = .ok (.athrow, 1) := by decide +kernel
theorem dX5_failedCommand_19 : decode cX5_failedCommand 19 = .ok (.aload_n 0, 1) := by decide +kernel
theorem dX5_failedCommand_20 : decode cX5_failedCommand 20 = .ok (.getfield 48, 3) := by decide +kernel
theorem dX5_failedCommand_23 : decode cX5_failedCommand 23 = .ok (.ireturn, 1) := by decide +kernel
theorem dX5_failedException_0 : decode cX5_failedException 0 = .ok (.aload_n 0, 1) := by decide +kernel
theorem dX5_failedException_1 : decode cX5_failedException 1 = .ok (.getfield 51, 3) := by decide +kernel
theorem dX5_failedException_4 : decode cX5_failedException 4 = .ok (.iconst (-1), 1) := by decide +kernel
theorem dX5_failedException_5 : decode cX5_failedException 5 = .ok (.if_icmp .ne 14, 3) := by decide +kernel
theorem dX5_failedException_8 : decode cX5_failedException 8 = .ok (.new 170, 3) := by decide +kernel
theorem dX5_failedException_11 : decode cX5_failedException 11 = .ok (.dup, 1) := by decide +kernel
theorem dX5_failedException_12 : decode cX5_failedException 12 = .ok (.ldc_w 318, 3) := by decide +kernel
theorem dX5_failedException_15 : decode cX5_failedException 15 = .ok (.invokespecial 174, 3) := by decide +kernel
theorem dX5_failedException_18 : decode cX5_failedException 18 = .ok (.athrow, 1) := by decide +kernel
theorem dX5_failedException_19 : decode cX5_failedException 19 = .ok (.aload_n 0, 1) := by decide +kernel
theorem dX5_failedException_20 : decode cX5_failedException 20 = .ok (.getfield 51, 3) := by decide +kernel
theorem dX5_failedException_23 : decode cX5_failedException 23 = .ok (.ireturn, 1) := by decide +kernel
set_option maxRecDepth 20000 in
theorem ggX5_describeRow_X5_requireRow : GoodIn wsX5_describeRow wsX5_requireRow := goodIn_ca (goodIn_r _ [7, 8, 9] (by decide +kernel) (by decide +kernel)) (goodIn_sub (fun _ h => List.mem_cons_of_mem _ (List.mem_append_right _ h)) (by decide +kernel))
set_option maxRecDepth 20000 in
theorem gX5_describeRow_X5_requireRow : GoodIn wsX5_describeRow (va_wsS RX5 233 yX5_requireRow wsX5_requireRow) := goodIn_app (goodIn_of _ (by decide +kernel)) ggX5_describeRow_X5_requireRow
set_option maxRecDepth 20000 in
theorem ggX5_describeRow_X3_signOf : GoodIn wsX5_describeRow wsX3_signOf := goodIn_ca (goodIn_r _ [14, 15, 16, 17, 18, 13, 19, 20, 31, 32, 33, 34, 35, 36, 37, 38, 39, 40, 41, 42, 43, 44, 45] (by decide +kernel) (by decide +kernel)) (goodIn_sub (fun _ h => List.mem_cons_of_mem _ (List.mem_append_left _ (List.mem_append_right _ h))) (by decide +kernel))
set_option maxRecDepth 20000 in
theorem gX5_describeRow_X3_signOf : GoodIn wsX5_describeRow (wsV RX5 320 RX3 yX3_signOf wsX3_signOf) := goodIn_app (goodIn_of _ (by decide +kernel)) ggX5_describeRow_X3_signOf
theorem dX5_describeRow_0 : decode cX5_describeRow 0 = .ok (.iload_n 1, 1) := by decide +kernel
theorem dX5_describeRow_1 : decode cX5_describeRow 1 = .ok (.invokestatic 233, 3) := by decide +kernel
theorem dX5_describeRow_4 : decode cX5_describeRow 4 = .ok (.iconst 0, 1) := by decide +kernel
theorem dX5_describeRow_5 : decode cX5_describeRow 5 = .ok (.istore_n 2, 1) := by decide +kernel
theorem dX5_describeRow_6 : decode cX5_describeRow 6 = .ok (.iload_n 2, 1) := by decide +kernel
theorem dX5_describeRow_7 : decode cX5_describeRow 7 = .ok (.bipush 10, 2) := by decide +kernel
theorem dX5_describeRow_9 : decode cX5_describeRow 9 = .ok (.if_icmp .ge 28, 3) := by decide +kernel
theorem dX5_describeRow_12 : decode cX5_describeRow 12 = .ok (.aload_n 0, 1) := by decide +kernel
theorem dX5_describeRow_13 : decode cX5_describeRow 13 = .ok (.getfield 33, 3) := by decide +kernel
theorem dX5_describeRow_16 : decode cX5_describeRow 16 = .ok (.iload_n 2, 1) := by decide +kernel
theorem dX5_describeRow_17 : decode cX5_describeRow 17 = .ok (.aload_n 0, 1) := by decide +kernel
theorem dX5_describeRow_18 : decode cX5_describeRow 18 = .ok (.getfield 10, 3) := by decide +kernel
theorem dX5_describeRow_21 : decode cX5_describeRow 21 = .ok (.iload_n 1, 1) := by decide +kernel
theorem dX5_describeRow_22 : decode cX5_describeRow 22 = .ok (.bipush 10, 2) := by decide +kernel
theorem dX5_describeRow_24 : decode cX5_describeRow 24 = .ok (.imul, 1) := by decide +kernel
theorem dX5_describeRow_25 : decode cX5_describeRow 25 = .ok (.iload_n 2, 1) := by decide +kernel
theorem dX5_describeRow_26 : decode cX5_describeRow 26 = .ok (.iadd, 1) := by decide +kernel
theorem dX5_describeRow_27 : decode cX5_describeRow 27 = .ok (.invokevirtual 320, 3) := by decide +kernel
theorem dX5_describeRow_30 : decode cX5_describeRow 30 = .ok (.castore, 1) := by decide +kernel
theorem dX5_describeRow_31 : decode cX5_describeRow 31 = .ok (.iinc 2 1, 3) := by decide +kernel
theorem dX5_describeRow_34 : decode cX5_describeRow 34 = .ok (.goto (-28), 3) := by decide +kernel
theorem dX5_describeRow_37 : decode cX5_describeRow 37 = .ok (.aload_n 0, 1) := by decide +kernel
theorem dX5_describeRow_38 : decode cX5_describeRow 38 = .ok (.bipush 10, 2) := by decide +kernel
theorem dX5_describeRow_40 : decode cX5_describeRow 40 = .ok (.putfield 37, 3) := by decide +kernel
theorem dX5_describeRow_43 : decode cX5_describeRow 43 = .ok (.aload_n 0, 1) := by decide +kernel
theorem dX5_describeRow_44 : decode cX5_describeRow 44 = .ok (.getfield 37, 3) := by decide +kernel
theorem dX5_describeRow_47 : decode cX5_describeRow 47 = .ok (.ireturn, 1) := by decide +kernel
theorem dX5_lineAt_0 : decode cX5_lineAt 0 = .ok (.iload_n 1, 1) := by decide +kernel
theorem dX5_lineAt_1 : decode cX5_lineAt 1 = .ok (.ifCond .lt 11, 3) := by decide +kernel
theorem dX5_lineAt_4 : decode cX5_lineAt 4 = .ok (.iload_n 1, 1) := by decide +kernel
theorem dX5_lineAt_5 : decode cX5_lineAt 5 = .ok (.aload_n 0, 1) := by decide +kernel
theorem dX5_lineAt_6 : decode cX5_lineAt 6 = .ok (.getfield 37, 3) := by decide +kernel
theorem dX5_lineAt_9 : decode cX5_lineAt 9 = .ok (.if_icmp .lt 14, 3) := by decide +kernel
theorem dX5_lineAt_12 : decode cX5_lineAt 12 = .ok (.new 81, 3) := by decide +kernel
theorem dX5_lineAt_15 : decode cX5_lineAt 15 = .ok (.dup, 1) := by decide +kernel
theorem dX5_lineAt_16 : decode cX5_lineAt 16 = .ok (.ldc_w 324, 3) := by decide +kernel
theorem dX5_lineAt_19 : decode cX5_lineAt 19 = .ok (.invokespecial 85, 3) := by decide +kernel
theorem dX5_lineAt_22 : decode cX5_lineAt 22 = .ok (.athrow, 1) := by decide +kernel
theorem dX5_lineAt_23 : decode cX5_lineAt 23 = .ok (.aload_n 0, 1) := by decide +kernel
theorem dX5_lineAt_24 : decode cX5_lineAt 24 = .ok (.getfield 33, 3) := by decide +kernel
theorem dX5_lineAt_27 : decode cX5_lineAt 27 = .ok (.iload_n 1, 1) := by decide +kernel
theorem dX5_lineAt_28 : decode cX5_lineAt 28 = .ok (.caload, 1) := by decide +kernel
theorem dX5_lineAt_29 : decode cX5_lineAt 29 = .ok (.ireturn, 1) := by decide +kernel
set_option maxRecDepth 20000 in
theorem ggX5_meanCover_X3_countPlaced : GoodIn wsX5_meanCover wsX3_countPlaced := goodIn_ca (goodIn_r _ [8, 9, 10, 11, 7, 12, 13, 33, 34, 35, 36, 37, 38, 39, 40, 41, 42, 43, 44, 45, 46, 47] (by decide +kernel) (by decide +kernel)) (goodIn_sub (fun _ h => List.mem_cons_of_mem _ (List.mem_append_right _ h)) (by decide +kernel))
set_option maxRecDepth 20000 in
theorem gX5_meanCover_X3_countPlaced : GoodIn wsX5_meanCover (wsV RX5 326 RX3 yX3_countPlaced wsX3_countPlaced) := goodIn_app (goodIn_of _ (by decide +kernel)) ggX5_meanCover_X3_countPlaced
set_option maxRecDepth 20000 in
theorem ggX5_meanCover_X3_countByChair : GoodIn wsX5_meanCover wsX3_countByChair := goodIn_ca (goodIn_r _ [17, 18, 19, 20, 7, 21, 22, 33, 34, 35, 36, 37, 38, 39, 40, 41, 42, 43, 44, 45, 46, 47] (by decide +kernel) (by decide +kernel)) (goodIn_sub (fun _ h => List.mem_cons_of_mem _ (List.mem_append_right _ h)) (by decide +kernel))
set_option maxRecDepth 20000 in
theorem gX5_meanCover_X3_countByChair : GoodIn wsX5_meanCover (wsV RX5 227 RX3 yX3_countByChair wsX3_countByChair) := goodIn_app (goodIn_of _ (by decide +kernel)) ggX5_meanCover_X3_countByChair
theorem dX5_meanCover_0 : decode cX5_meanCover 0 = .ok (.aload_n 0, 1) := by decide +kernel
theorem dX5_meanCover_1 : decode cX5_meanCover 1 = .ok (.getfield 10, 3) := by decide +kernel
theorem dX5_meanCover_4 : decode cX5_meanCover 4 = .ok (.invokevirtual 326, 3) := by decide +kernel
theorem dX5_meanCover_7 : decode cX5_meanCover 7 = .ok (.istore_n 1, 1) := by decide +kernel
theorem dX5_meanCover_8 : decode cX5_meanCover 8 = .ok (.iload_n 1, 1) := by decide +kernel
theorem dX5_meanCover_9 : decode cX5_meanCover 9 = .ok (.ifCond .ne 13, 3) := by decide +kernel
theorem dX5_meanCover_12 : decode cX5_meanCover 12 = .ok (.new 329, 3) := by decide +kernel
theorem dX5_meanCover_15 : decode cX5_meanCover 15 = .ok (.dup, 1) := by decide +kernel
theorem dX5_meanCover_16 : decode cX5_meanCover 16 = .ok (.ldc 221, 2) := by decide +kernel
theorem dX5_meanCover_18 : decode cX5_meanCover 18 = .ok (.invokespecial 331, 3) := by decide +kernel
theorem dX5_meanCover_21 : decode cX5_meanCover 21 = .ok (.athrow, 1) := by decide +kernel
theorem dX5_meanCover_22 : decode cX5_meanCover 22 = .ok (.aload_n 0, 1) := by decide +kernel
theorem dX5_meanCover_23 : decode cX5_meanCover 23 = .ok (.getfield 10, 3) := by decide +kernel
theorem dX5_meanCover_26 : decode cX5_meanCover 26 = .ok (.invokevirtual 227, 3) := by decide +kernel
theorem dX5_meanCover_29 : decode cX5_meanCover 29 = .ok (.i2d, 1) := by decide +kernel
theorem dX5_meanCover_30 : decode cX5_meanCover 30 = .ok (.iload_n 1, 1) := by decide +kernel
theorem dX5_meanCover_31 : decode cX5_meanCover 31 = .ok (.i2d, 1) := by decide +kernel
theorem dX5_meanCover_32 : decode cX5_meanCover 32 = .ok (.ddiv, 1) := by decide +kernel
theorem dX5_meanCover_33 : decode cX5_meanCover 33 = .ok (.dreturn, 1) := by decide +kernel
set_option maxRecDepth 20000 in
theorem ggX5_coveredShare_X3_countByChair : GoodIn wsX5_coveredShare wsX3_countByChair := goodIn_ca (goodIn_r _ [7, 8, 9, 10, 6, 11, 12, 23, 24, 25, 26, 27, 28, 29, 30, 31, 32, 33, 34, 35, 36, 37] (by decide +kernel) (by decide +kernel)) (goodIn_sub (fun _ h => List.mem_cons_of_mem _ (List.mem_append_right _ h)) (by decide +kernel))
set_option maxRecDepth 20000 in
theorem gX5_coveredShare_X3_countByChair : GoodIn wsX5_coveredShare (wsV RX5 227 RX3 yX3_countByChair wsX3_countByChair) := goodIn_app (goodIn_of _ (by decide +kernel)) ggX5_coveredShare_X3_countByChair
theorem dX5_coveredShare_0 : decode cX5_coveredShare 0 = .ok (.aload_n 0, 1) := by decide +kernel
theorem dX5_coveredShare_1 : decode cX5_coveredShare 1 = .ok (.getfield 10, 3) := by decide +kernel
theorem dX5_coveredShare_4 : decode cX5_coveredShare 4 = .ok (.invokevirtual 227, 3) := by decide +kernel
theorem dX5_coveredShare_7 : decode cX5_coveredShare 7 = .ok (.i2f, 1) := by decide +kernel
theorem dX5_coveredShare_8 : decode cX5_coveredShare 8 = .ok (.ldc_w 332, 3) := by decide +kernel
theorem dX5_coveredShare_11 : decode cX5_coveredShare 11 = .ok (.fdiv, 1) := by decide +kernel
theorem dX5_coveredShare_12 : decode cX5_coveredShare 12 = .ok (.freturn, 1) := by decide +kernel
set_option maxRecDepth 20000 in
theorem ggX5_undo_X4_stepBack : GoodIn wsX5_undo wsX4_stepBack := goodIn_r _ [10, 11, 12, 13, 14, 15, 16, 17, 18, 19, 20, 21, 22, 23, 24, 25, 26, 27, 28, 29, 30, 31, 32, 33, 34, 35, 36, 37, 48, 49, 50, 51, 52, 53, 54, 55, 56, 57, 58, 59, 60, 61, 62, 63, 64, 65] (by decide +kernel) (by decide +kernel)
set_option maxRecDepth 20000 in
theorem gX5_undo_X4_stepBack : GoodIn wsX5_undo (wsV RX5 344 RX4 yX4_stepBack wsX4_stepBack) := goodIn_app (goodIn_of _ (by decide +kernel)) ggX5_undo_X4_stepBack
theorem dX5_undo_0 : decode cX5_undo 0 = .ok (.aload_n 0, 1) := by decide +kernel
theorem dX5_undo_1 : decode cX5_undo 1 = .ok (.getfield 22, 3) := by decide +kernel
theorem dX5_undo_4 : decode cX5_undo 4 = .ok (.getfield 339, 3) := by decide +kernel
theorem dX5_undo_7 : decode cX5_undo 7 = .ok (.ifCond .ne 14, 3) := by decide +kernel
theorem dX5_undo_10 : decode cX5_undo 10 = .ok (.new 65, 3) := by decide +kernel
theorem dX5_undo_13 : decode cX5_undo 13 = .ok (.dup, 1) := by decide +kernel
theorem dX5_undo_14 : decode cX5_undo 14 = .ok (.ldc_w 342, 3) := by decide +kernel
theorem dX5_undo_17 : decode cX5_undo 17 = .ok (.invokespecial 69, 3) := by decide +kernel
theorem dX5_undo_20 : decode cX5_undo 20 = .ok (.athrow, 1) := by decide +kernel
theorem dX5_undo_21 : decode cX5_undo 21 = .ok (.aload_n 0, 1) := by decide +kernel
theorem dX5_undo_22 : decode cX5_undo 22 = .ok (.getfield 22, 3) := by decide +kernel
theorem dX5_undo_25 : decode cX5_undo 25 = .ok (.aload_n 0, 1) := by decide +kernel
theorem dX5_undo_26 : decode cX5_undo 26 = .ok (.getfield 10, 3) := by decide +kernel
theorem dX5_undo_29 : decode cX5_undo 29 = .ok (.invokevirtual 344, 3) := by decide +kernel
theorem dX5_undo_32 : decode cX5_undo 32 = .ok (.ireturn, 1) := by decide +kernel
set_option maxRecDepth 20000 in
theorem ggX5_save_X3_become : GoodIn wsX5_save wsX3_become := goodIn_r _ [8, 9, 10, 11, 12, 13, 14, 15, 16, 17, 18, 19, 20, 21, 22, 23, 24, 25, 26, 27, 46, 47, 48, 49, 50, 51, 52, 53, 54, 55, 56, 57, 58, 59, 60] (by decide +kernel) (by decide +kernel)
set_option maxRecDepth 20000 in
theorem gX5_save_X3_become : GoodIn wsX5_save (wsV RX5 348 RX3 yX3_become wsX3_become) := goodIn_app (goodIn_of _ (by decide +kernel)) ggX5_save_X3_become
set_option maxRecDepth 20000 in
theorem ggX5_save_X3_countPlaced : GoodIn wsX5_save wsX3_countPlaced := goodIn_ca (goodIn_r _ [31, 32, 33, 34, 7, 35, 15, 46, 47, 48, 49, 50, 51, 52, 53, 54, 55, 56, 57, 58, 59, 60] (by decide +kernel) (by decide +kernel)) (goodIn_sub (fun _ h => List.mem_cons_of_mem _ (List.mem_append_right _ h)) (by decide +kernel))
set_option maxRecDepth 20000 in
theorem gX5_save_X3_countPlaced : GoodIn wsX5_save (wsV RX5 326 RX3 yX3_countPlaced wsX3_countPlaced) := goodIn_app (goodIn_of _ (by decide +kernel)) ggX5_save_X3_countPlaced
theorem dX5_save_0 : decode cX5_save 0 = .ok (.aload_n 0, 1) := by decide +kernel
theorem dX5_save_1 : decode cX5_save 1 = .ok (.getfield 16, 3) := by decide +kernel
theorem dX5_save_4 : decode cX5_save 4 = .ok (.aload_n 0, 1) := by decide +kernel
theorem dX5_save_5 : decode cX5_save 5 = .ok (.getfield 10, 3) := by decide +kernel
theorem dX5_save_8 : decode cX5_save 8 = .ok (.invokevirtual 348, 3) := by decide +kernel
theorem dX5_save_11 : decode cX5_save 11 = .ok (.aload_n 0, 1) := by decide +kernel
theorem dX5_save_12 : decode cX5_save 12 = .ok (.iconst 1, 1) := by decide +kernel
theorem dX5_save_13 : decode cX5_save 13 = .ok (.putfield 41, 3) := by decide +kernel
theorem dX5_save_16 : decode cX5_save 16 = .ok (.aload_n 0, 1) := by decide +kernel
theorem dX5_save_17 : decode cX5_save 17 = .ok (.getfield 10, 3) := by decide +kernel
theorem dX5_save_20 : decode cX5_save 20 = .ok (.invokevirtual 326, 3) := by decide +kernel
theorem dX5_save_23 : decode cX5_save 23 = .ok (.ireturn, 1) := by decide +kernel
set_option maxRecDepth 20000 in
theorem ggX5_restore_X3_become : GoodIn wsX5_restore wsX3_become := goodIn_r _ [11, 12, 13, 14, 15, 16, 17, 18, 19, 20, 21, 22, 23, 24, 25, 26, 27, 28, 29, 30, 55, 56, 57, 58, 59, 60, 61, 62, 63, 64, 65, 66, 67, 68, 69] (by decide +kernel) (by decide +kernel)
set_option maxRecDepth 20000 in
theorem gX5_restore_X3_become : GoodIn wsX5_restore (wsV RX5 348 RX3 yX3_become wsX3_become) := goodIn_app (goodIn_of _ (by decide +kernel)) ggX5_restore_X3_become
set_option maxRecDepth 20000 in
theorem ggX5_restore_X4_forget : GoodIn wsX5_restore wsX4_forget := goodIn_r _ [35, 36, 70, 71, 72] (by decide +kernel) (by decide +kernel)
set_option maxRecDepth 20000 in
theorem gX5_restore_X4_forget : GoodIn wsX5_restore (wsV RX5 353 RX4 yX4_forget wsX4_forget) := goodIn_app (goodIn_of _ (by decide +kernel)) ggX5_restore_X4_forget
set_option maxRecDepth 20000 in
theorem ggX5_restore_X3_countPlaced : GoodIn wsX5_restore wsX3_countPlaced := goodIn_ca (goodIn_r _ [40, 41, 42, 43, 10, 44, 18, 55, 56, 57, 58, 59, 60, 61, 62, 63, 64, 65, 66, 67, 68, 69] (by decide +kernel) (by decide +kernel)) (goodIn_sub (fun _ h => List.mem_cons_of_mem _ (List.mem_append_right _ h)) (by decide +kernel))
set_option maxRecDepth 20000 in
theorem gX5_restore_X3_countPlaced : GoodIn wsX5_restore (wsV RX5 326 RX3 yX3_countPlaced wsX3_countPlaced) := goodIn_app (goodIn_of _ (by decide +kernel)) ggX5_restore_X3_countPlaced
theorem dX5_restore_0 : decode cX5_restore 0 = .ok (.aload_n 0, 1) := by decide +kernel
theorem dX5_restore_1 : decode cX5_restore 1 = .ok (.getfield 41, 3) := by decide +kernel
theorem dX5_restore_4 : decode cX5_restore 4 = .ok (.ifCond .ne 14, 3) := by decide +kernel
theorem dX5_restore_7 : decode cX5_restore 7 = .ok (.new 65, 3) := by decide +kernel
theorem dX5_restore_10 : decode cX5_restore 10 = .ok (.dup, 1) := by decide +kernel
theorem dX5_restore_11 : decode cX5_restore 11 = .ok (.ldc_w 351, 3) := by decide +kernel
theorem dX5_restore_14 : decode cX5_restore 14 = .ok (.invokespecial 69, 3) := by decide +kernel
theorem dX5_restore_17 : decode cX5_restore 17 = .ok (.athrow, 1) := by decide +kernel
theorem dX5_restore_18 : decode cX5_restore 18 = .ok (.aload_n 0, 1) := by decide +kernel
theorem dX5_restore_19 : decode cX5_restore 19 = .ok (.getfield 10, 3) := by decide +kernel
theorem dX5_restore_22 : decode cX5_restore 22 = .ok (.aload_n 0, 1) := by decide +kernel
theorem dX5_restore_23 : decode cX5_restore 23 = .ok (.getfield 16, 3) := by decide +kernel
theorem dX5_restore_26 : decode cX5_restore 26 = .ok (.invokevirtual 348, 3) := by decide +kernel
theorem dX5_restore_29 : decode cX5_restore 29 = .ok (.aload_n 0, 1) := by decide +kernel
theorem dX5_restore_30 : decode cX5_restore 30 = .ok (.getfield 22, 3) := by decide +kernel
theorem dX5_restore_33 : decode cX5_restore 33 = .ok (.invokevirtual 353, 3) := by decide +kernel
theorem dX5_restore_36 : decode cX5_restore 36 = .ok (.aload_n 0, 1) := by decide +kernel
theorem dX5_restore_37 : decode cX5_restore 37 = .ok (.getfield 10, 3) := by decide +kernel
theorem dX5_restore_40 : decode cX5_restore 40 = .ok (.invokevirtual 326, 3) := by decide +kernel
theorem dX5_restore_43 : decode cX5_restore 43 = .ok (.ireturn, 1) := by decide +kernel
set_option maxRecDepth 20000 in
theorem ggX5_requireGuest_X3_hasGuest : GoodIn wsX5_requireGuest wsX3_hasGuest := goodIn_r _ [8, 9, 20, 21, 22, 23, 24, 25, 26, 27, 28, 29, 30, 31, 32, 33, 34] (by decide +kernel) (by decide +kernel)
set_option maxRecDepth 20000 in
theorem gX5_requireGuest_X3_hasGuest : GoodIn wsX5_requireGuest (wsV RX5 356 RX3 yX3_hasGuest wsX3_hasGuest) := goodIn_app (goodIn_of _ (by decide +kernel)) ggX5_requireGuest_X3_hasGuest
theorem dX5_requireGuest_0 : decode cX5_requireGuest 0 = .ok (.aload_n 0, 1) := by decide +kernel
theorem dX5_requireGuest_1 : decode cX5_requireGuest 1 = .ok (.getfield 10, 3) := by decide +kernel
theorem dX5_requireGuest_4 : decode cX5_requireGuest 4 = .ok (.iload_n 1, 1) := by decide +kernel
theorem dX5_requireGuest_5 : decode cX5_requireGuest 5 = .ok (.invokevirtual 356, 3) := by decide +kernel
theorem dX5_requireGuest_8 : decode cX5_requireGuest 8 = .ok (.ifCond .ne 13, 3) := by decide +kernel
theorem dX5_requireGuest_11 : decode cX5_requireGuest 11 = .ok (.new 81, 3) := by decide +kernel
theorem dX5_requireGuest_14 : decode cX5_requireGuest 14 = .ok (.dup, 1) := by decide +kernel
theorem dX5_requireGuest_15 : decode cX5_requireGuest 15 = .ok (.ldc 83, 2) := by decide +kernel
theorem dX5_requireGuest_17 : decode cX5_requireGuest 17 = .ok (.invokespecial 85, 3) := by decide +kernel
theorem dX5_requireGuest_20 : decode cX5_requireGuest 20 = .ok (.athrow, 1) := by decide +kernel
theorem dX5_requireGuest_21 : decode cX5_requireGuest 21 = .ok (.return_, 1) := by decide +kernel
set_option maxRecDepth 20000 in
theorem ggX5_requirePlacedHat_X3_refusalWithoutHat : GoodIn wsX5_requirePlacedHat wsX3_refusalWithoutHat := goodIn_ca (goodIn_r _ [10, 11, 12, 13, 9, 14, 15, 16, 17, 18, 19, 20, 31, 32, 33, 34, 35, 36, 37, 38, 39, 40, 41, 42, 43, 44, 45] (by decide +kernel) (by decide +kernel)) (goodIn_sub (fun _ h => List.mem_cons_of_mem _ (List.mem_append_right _ h)) (by decide +kernel))
set_option maxRecDepth 20000 in
theorem gX5_requirePlacedHat_X3_refusalWithoutHat : GoodIn wsX5_requirePlacedHat (wsV RX5 359 RX3 yX3_refusalWithoutHat wsX3_refusalWithoutHat) := goodIn_app (goodIn_of _ (by decide +kernel)) ggX5_requirePlacedHat_X3_refusalWithoutHat
theorem dX5_requirePlacedHat_0 : decode cX5_requirePlacedHat 0 = .ok (.aload_n 0, 1) := by decide +kernel
theorem dX5_requirePlacedHat_1 : decode cX5_requirePlacedHat 1 = .ok (.getfield 10, 3) := by decide +kernel
theorem dX5_requirePlacedHat_4 : decode cX5_requirePlacedHat 4 = .ok (.iload_n 1, 1) := by decide +kernel
theorem dX5_requirePlacedHat_5 : decode cX5_requirePlacedHat 5 = .ok (.invokevirtual 359, 3) := by decide +kernel
theorem dX5_requirePlacedHat_8 : decode cX5_requirePlacedHat 8 = .ok (.istore_n 2, 1) := by decide +kernel
theorem dX5_requirePlacedHat_9 : decode cX5_requirePlacedHat 9 = .ok (.iload_n 2, 1) := by decide +kernel
theorem dX5_requirePlacedHat_10 : decode cX5_requirePlacedHat 10 = .ok (.iconst 1, 1) := by decide +kernel
theorem dX5_requirePlacedHat_11 : decode cX5_requirePlacedHat 11 = .ok (.if_icmp .ne 13, 3) := by decide +kernel
theorem dX5_requirePlacedHat_14 : decode cX5_requirePlacedHat 14 = .ok (.new 81, 3) := by decide +kernel
theorem dX5_requirePlacedHat_17 : decode cX5_requirePlacedHat 17 = .ok (.dup, 1) := by decide +kernel
theorem dX5_requirePlacedHat_18 : decode cX5_requirePlacedHat 18 = .ok (.ldc 83, 2) := by decide +kernel
theorem dX5_requirePlacedHat_20 : decode cX5_requirePlacedHat 20 = .ok (.invokespecial 85, 3) := by decide +kernel
theorem dX5_requirePlacedHat_23 : decode cX5_requirePlacedHat 23 = .ok (.athrow, 1) := by decide +kernel
theorem dX5_requirePlacedHat_24 : decode cX5_requirePlacedHat 24 = .ok (.iload_n 2, 1) := by decide +kernel
theorem dX5_requirePlacedHat_25 : decode cX5_requirePlacedHat 25 = .ok (.ifCond .eq 14, 3) := by decide +kernel
theorem dX5_requirePlacedHat_28 : decode cX5_requirePlacedHat 28 = .ok (.new 170, 3) := by decide +kernel
theorem dX5_requirePlacedHat_31 : decode cX5_requirePlacedHat 31 = .ok (.dup, 1) := by decide +kernel
theorem dX5_requirePlacedHat_32 : decode cX5_requirePlacedHat 32 = .ok (.ldc_w 362, 3) := by decide +kernel
theorem dX5_requirePlacedHat_35 : decode cX5_requirePlacedHat 35 = .ok (.invokespecial 174, 3) := by decide +kernel
theorem dX5_requirePlacedHat_38 : decode cX5_requirePlacedHat 38 = .ok (.athrow, 1) := by decide +kernel
theorem dX5_requirePlacedHat_39 : decode cX5_requirePlacedHat 39 = .ok (.return_, 1) := by decide +kernel
set_option maxRecDepth 20000 in
theorem ggX5_requireLeftCoat_X3_refusalWithoutCoat : GoodIn wsX5_requireLeftCoat wsX3_refusalWithoutCoat := goodIn_ca (goodIn_r _ [10, 11, 12, 13, 14, 9, 15, 16, 27, 28, 29, 30, 31, 32, 33, 34, 35, 36, 37, 38, 39, 40, 41] (by decide +kernel) (by decide +kernel)) (goodIn_sub (fun _ h => List.mem_cons_of_mem _ (List.mem_append_right _ h)) (by decide +kernel))
set_option maxRecDepth 20000 in
theorem gX5_requireLeftCoat_X3_refusalWithoutCoat : GoodIn wsX5_requireLeftCoat (wsV RX5 364 RX3 yX3_refusalWithoutCoat wsX3_refusalWithoutCoat) := goodIn_app (goodIn_of _ (by decide +kernel)) ggX5_requireLeftCoat_X3_refusalWithoutCoat
theorem dX5_requireLeftCoat_0 : decode cX5_requireLeftCoat 0 = .ok (.aload_n 0, 1) := by decide +kernel
theorem dX5_requireLeftCoat_1 : decode cX5_requireLeftCoat 1 = .ok (.getfield 10, 3) := by decide +kernel
theorem dX5_requireLeftCoat_4 : decode cX5_requireLeftCoat 4 = .ok (.iload_n 1, 1) := by decide +kernel
theorem dX5_requireLeftCoat_5 : decode cX5_requireLeftCoat 5 = .ok (.invokevirtual 364, 3) := by decide +kernel
theorem dX5_requireLeftCoat_8 : decode cX5_requireLeftCoat 8 = .ok (.istore_n 2, 1) := by decide +kernel
theorem dX5_requireLeftCoat_9 : decode cX5_requireLeftCoat 9 = .ok (.iload_n 2, 1) := by decide +kernel
theorem dX5_requireLeftCoat_10 : decode cX5_requireLeftCoat 10 = .ok (.iconst 1, 1) := by decide +kernel
theorem dX5_requireLeftCoat_11 : decode cX5_requireLeftCoat 11 = .ok (.if_icmp .ne 13, 3) := by decide +kernel
theorem dX5_requireLeftCoat_14 : decode cX5_requireLeftCoat 14 = .ok (.new 81, 3) := by decide +kernel
theorem dX5_requireLeftCoat_17 : decode cX5_requireLeftCoat 17 = .ok (.dup, 1) := by decide +kernel
theorem dX5_requireLeftCoat_18 : decode cX5_requireLeftCoat 18 = .ok (.ldc 83, 2) := by decide +kernel
theorem dX5_requireLeftCoat_20 : decode cX5_requireLeftCoat 20 = .ok (.invokespecial 85, 3) := by decide +kernel
theorem dX5_requireLeftCoat_23 : decode cX5_requireLeftCoat 23 = .ok (.athrow, 1) := by decide +kernel
theorem dX5_requireLeftCoat_24 : decode cX5_requireLeftCoat 24 = .ok (.iload_n 2, 1) := by decide +kernel
theorem dX5_requireLeftCoat_25 : decode cX5_requireLeftCoat 25 = .ok (.ifCond .eq 14, 3) := by decide +kernel
theorem dX5_requireLeftCoat_28 : decode cX5_requireLeftCoat 28 = .ok (.new 170, 3) := by decide +kernel
theorem dX5_requireLeftCoat_31 : decode cX5_requireLeftCoat 31 = .ok (.dup, 1) := by decide +kernel
theorem dX5_requireLeftCoat_32 : decode cX5_requireLeftCoat 32 = .ok (.ldc_w 367, 3) := by decide +kernel
theorem dX5_requireLeftCoat_35 : decode cX5_requireLeftCoat 35 = .ok (.invokespecial 174, 3) := by decide +kernel
theorem dX5_requireLeftCoat_38 : decode cX5_requireLeftCoat 38 = .ok (.athrow, 1) := by decide +kernel
theorem dX5_requireLeftCoat_39 : decode cX5_requireLeftCoat 39 = .ok (.return_, 1) := by decide +kernel
set_option maxRecDepth 20000 in
theorem ggX5_requireChair_X3_hasChair : GoodIn wsX5_requireChair wsX3_hasChair := goodIn_r _ [6] (by decide +kernel) (by decide +kernel)
set_option maxRecDepth 20000 in
theorem gX5_requireChair_X3_hasChair : GoodIn wsX5_requireChair (va_wsS RX5 369 yX3_hasChair wsX3_hasChair) := goodIn_app (goodIn_of _ (by decide +kernel)) ggX5_requireChair_X3_hasChair
theorem dX5_requireChair_0 : decode cX5_requireChair 0 = .ok (.iload_n 0, 1) := by decide +kernel
theorem dX5_requireChair_1 : decode cX5_requireChair 1 = .ok (.invokestatic 369, 3) := by decide +kernel
theorem dX5_requireChair_4 : decode cX5_requireChair 4 = .ok (.ifCond .ne 14, 3) := by decide +kernel
theorem dX5_requireChair_7 : decode cX5_requireChair 7 = .ok (.new 81, 3) := by decide +kernel
theorem dX5_requireChair_10 : decode cX5_requireChair 10 = .ok (.dup, 1) := by decide +kernel
theorem dX5_requireChair_11 : decode cX5_requireChair 11 = .ok (.ldc_w 372, 3) := by decide +kernel
theorem dX5_requireChair_14 : decode cX5_requireChair 14 = .ok (.invokespecial 85, 3) := by decide +kernel
theorem dX5_requireChair_17 : decode cX5_requireChair 17 = .ok (.athrow, 1) := by decide +kernel
theorem dX5_requireChair_18 : decode cX5_requireChair 18 = .ok (.return_, 1) := by decide +kernel
theorem dX5_requireRow_0 : decode cX5_requireRow 0 = .ok (.iload_n 0, 1) := by decide +kernel
theorem dX5_requireRow_1 : decode cX5_requireRow 1 = .ok (.ifCond .lt 8, 3) := by decide +kernel
theorem dX5_requireRow_4 : decode cX5_requireRow 4 = .ok (.iload_n 0, 1) := by decide +kernel
theorem dX5_requireRow_5 : decode cX5_requireRow 5 = .ok (.iconst 4, 1) := by decide +kernel
theorem dX5_requireRow_6 : decode cX5_requireRow 6 = .ok (.if_icmp .lt 14, 3) := by decide +kernel
theorem dX5_requireRow_9 : decode cX5_requireRow 9 = .ok (.new 81, 3) := by decide +kernel
theorem dX5_requireRow_12 : decode cX5_requireRow 12 = .ok (.dup, 1) := by decide +kernel
theorem dX5_requireRow_13 : decode cX5_requireRow 13 = .ok (.ldc_w 374, 3) := by decide +kernel
theorem dX5_requireRow_16 : decode cX5_requireRow 16 = .ok (.invokespecial 85, 3) := by decide +kernel
theorem dX5_requireRow_19 : decode cX5_requireRow 19 = .ok (.athrow, 1) := by decide +kernel
theorem dX5_requireRow_20 : decode cX5_requireRow 20 = .ok (.return_, 1) := by decide +kernel
