/-! the law's words stand in the tables -/
theorem in_r {big : List Cond} (ws : List Cond) (ps : List Nat) (hp : ws = ps.filterMap (fun i => big[i]?)) : ∀ w ∈ ws, w ∈ big := by
  intro w hw
  rw [hp] at hw
  obtain ⟨i, -, hi⟩ := List.mem_filterMap.mp hw
  exact List.mem_of_getElem? hi
theorem in_1 {big : List Cond} {w : Cond} (i : Nat) (h : big[i]? = some w) : w ∈ big := List.mem_of_getElem? h
theorem in_app {big a b : List Cond} (ha : ∀ w ∈ a, w ∈ big) (hb : ∀ w ∈ b, w ∈ big) : ∀ w ∈ a ++ b, w ∈ big := fun w h => (List.mem_append.mp h).elim (ha w) (hb w)
theorem in_cons {big a : List Cond} {c : Cond} (hc : c ∈ big) (ha : ∀ w ∈ a, w ∈ big) : ∀ w ∈ c :: a, w ∈ big := fun w h => (List.mem_cons.mp h).elim (fun e => e ▸ hc) (ha w)
theorem inT_x0 : ∀ w ∈ (vx_atM "java/lang/ArrayIndexOutOfBoundsException" ["java/lang/IndexOutOfBoundsException", "java/lang/RuntimeException", "java/lang/Exception"]).filter goodWord, w ∈ lw_tbl := by decide +kernel
theorem inT_wsL_at : ∀ w ∈ wsL_at, w ∈ lw_tbl := (in_cons (in_1 255 (by decide +kernel)) (in_app (in_r _ [] (by decide +kernel)) inT_x0))
theorem inT_x1 : ∀ w ∈ (vx_atM "java/lang/ArithmeticException" ["java/lang/RuntimeException", "java/lang/Exception"]).filter goodWord, w ∈ lw_tbl := by decide +kernel
theorem inT_wsL_some : ∀ w ∈ wsL_some, w ∈ lw_tbl := (in_cons (in_1 794 (by decide +kernel)) (in_app (in_r _ [] (by decide +kernel)) inT_x1))
theorem inT_wsL_addGuest_r1 : ∀ w ∈ wsL_addGuest_r1, w ∈ lw_tbl := (in_r _ [259, 261, 262, 263, 17, 264, 269, 28, 341, 26, 179, 181, 265, 266, 267, 18, 268, 76, 357, 358, 359, 19, 360, 361] (by decide +kernel))
theorem inT_wsL_addGuest_r2 : ∀ w ∈ wsL_addGuest_r2, w ∈ lw_tbl := (in_r _ [362, 363, 364, 130, 131, 365, 239, 240, 241, 63, 242, 244, 243, 27, 65, 67, 69, 70, 71, 73, 74, 75, 78, 80] (by decide +kernel))
theorem inT_wsL_addGuest_r3 : ∀ w ∈ wsL_addGuest_r3, w ∈ lw_tbl := (in_r _ [82, 84, 86, 366, 367, 368, 369, 132, 370, 371, 29, 372, 373, 374, 375, 376] (by decide +kernel))
theorem inT_wsX50 : ∀ w ∈ wsX50, w ∈ lw_tbl := by decide +kernel
theorem inT_wsX30 : ∀ w ∈ wsX30, w ∈ lw_tbl := by decide +kernel
theorem inT_wsX40 : ∀ w ∈ wsX40, w ∈ lw_tbl := by decide +kernel
theorem inT_x2 : ∀ w ∈ (vx_atS RX5 62 "java/lang/IllegalArgumentException" ["java/lang/RuntimeException", "java/lang/Exception"]).filter goodWord, w ∈ lw_tbl := by decide +kernel
theorem inT_x3 : ∀ w ∈ (vx_atS RX5 69 "java/lang/IllegalStateException" ["java/lang/RuntimeException", "java/lang/Exception"]).filter goodWord, w ∈ lw_tbl := by decide +kernel
theorem inT_wsL_addGuest : ∀ w ∈ wsL_addGuest, w ∈ lw_tbl := (in_cons (in_1 258 (by decide +kernel)) (in_app (in_app (in_app (in_app (in_app (in_app (in_app inT_wsL_addGuest_r1 (in_app inT_wsL_addGuest_r2 inT_wsL_addGuest_r3)) inT_wsX50) inT_wsX30) inT_wsX40) inT_x2) inT_x3) inT_x0))
theorem inT_lx : ∀ w ∈ lx, w ∈ lw_tbl := (in_r _ [259, 260, 380, 404, 491] (by decide +kernel))
theorem inT_wmL_addGuest : ∀ w ∈ wmL_addGuest, w ∈ lw_tbl := (in_app inT_wsL_addGuest inT_lx)
theorem inT_wsL_placeHat_r1 : ∀ w ∈ wsL_placeHat_r1, w ∈ lw_tbl := (in_r _ [380, 405, 406, 407, 17, 408, 420, 38, 341, 26, 434, 40, 179, 181, 409, 410, 411, 18, 412, 413, 414, 415, 416, 76] (by decide +kernel))
theorem inT_wsL_placeHat_r2 : ∀ w ∈ wsL_placeHat_r2, w ∈ lw_tbl := (in_r _ [417, 418, 419, 249, 250, 251, 252, 67, 226, 227, 228, 229, 70, 357, 358, 359, 19, 360, 361, 362, 363, 364, 130, 131] (by decide +kernel))
theorem inT_wsL_placeHat_r3 : ∀ w ∈ wsL_placeHat_r3, w ∈ lw_tbl := (in_r _ [365, 239, 240, 241, 63, 242, 244, 243, 27, 65, 69, 71, 73, 74, 75, 78, 80, 82, 84, 86, 366, 367, 368, 369] (by decide +kernel))
theorem inT_wsL_placeHat_r4 : ∀ w ∈ wsL_placeHat_r4, w ∈ lw_tbl := (in_r _ [132, 370, 371, 29, 372, 450, 451, 452, 453, 454, 455, 456, 457, 458, 459, 460, 461, 462, 36, 463, 464, 465, 466] (by decide +kernel))
theorem inT_x4 : ∀ w ∈ (vx_atS RX5 85 "java/lang/IndexOutOfBoundsException" ["java/lang/RuntimeException", "java/lang/Exception"]).filter goodWord, w ∈ lw_tbl := by decide +kernel
theorem inT_x5 : ∀ w ∈ (vx_atS RX5 102 "java/lang/UnsupportedOperationException" ["java/lang/RuntimeException", "java/lang/Exception"]).filter goodWord, w ∈ lw_tbl := by decide +kernel
theorem inT_wsL_placeHat : ∀ w ∈ wsL_placeHat, w ∈ lw_tbl := (in_cons (in_1 379 (by decide +kernel)) (in_app (in_app (in_app (in_app (in_app (in_app (in_app (in_app inT_wsL_placeHat_r1 (in_app inT_wsL_placeHat_r2 (in_app inT_wsL_placeHat_r3 inT_wsL_placeHat_r4))) inT_wsX50) inT_wsX30) inT_wsX40) inT_x4) inT_x3) inT_x5) inT_x0))
theorem inT_wmL_placeHat : ∀ w ∈ wmL_placeHat, w ∈ lw_tbl := (in_app inT_wsL_placeHat inT_lx)
theorem inT_wsL_leaveCoat_r1 : ∀ w ∈ wsL_leaveCoat_r1, w ∈ lw_tbl := (in_r _ [380, 798, 799, 800, 17, 801, 420, 38, 341, 26, 434, 40, 179, 181, 802, 697, 698, 18, 699, 71, 413, 414, 415, 416] (by decide +kernel))
theorem inT_wsL_leaveCoat_r2 : ∀ w ∈ wsL_leaveCoat_r2, w ∈ lw_tbl := (in_r _ [76, 417, 418, 419, 226, 227, 228, 229, 70, 700, 701, 702, 703, 357, 358, 359, 19, 360, 361, 362, 363, 364, 130, 131] (by decide +kernel))
theorem inT_wsL_leaveCoat_r3 : ∀ w ∈ wsL_leaveCoat_r3, w ∈ lw_tbl := (in_r _ [365, 239, 240, 241, 63, 242, 244, 243, 27, 65, 67, 69, 73, 74, 75, 78, 80, 82, 84, 86, 366, 367, 368, 369] (by decide +kernel))
theorem inT_wsL_leaveCoat_r4 : ∀ w ∈ wsL_leaveCoat_r4, w ∈ lw_tbl := (in_r _ [132, 370, 371, 29, 372, 805, 742, 743, 744] (by decide +kernel))
theorem inT_wsL_leaveCoat : ∀ w ∈ wsL_leaveCoat, w ∈ lw_tbl := (in_cons (in_1 797 (by decide +kernel)) (in_app (in_app (in_app (in_app (in_app (in_app (in_app (in_app inT_wsL_leaveCoat_r1 (in_app inT_wsL_leaveCoat_r2 (in_app inT_wsL_leaveCoat_r3 inT_wsL_leaveCoat_r4))) inT_wsX50) inT_wsX30) inT_wsX40) inT_x4) inT_x3) inT_x5) inT_x0))
theorem inT_wmL_leaveCoat : ∀ w ∈ wmL_leaveCoat, w ∈ lw_tbl := (in_app inT_wsL_leaveCoat inT_lx)
theorem inT_wsL_pass_r1 : ∀ w ∈ wsL_pass_r1, w ∈ lw_tbl := (in_r _ [259, 556, 557, 558, 17, 559, 269, 28, 179, 181, 560, 561, 562, 18, 563, 357, 358, 359, 19, 360, 361, 362, 363, 364] (by decide +kernel))
theorem inT_wsL_pass_r2 : ∀ w ∈ wsL_pass_r2, w ∈ lw_tbl := (in_r _ [130, 131, 365, 239, 240, 241, 63, 242, 244, 243, 27, 65, 67, 69, 70, 71, 73, 74, 75, 76, 78, 80, 82, 84] (by decide +kernel))
theorem inT_wsL_pass_r3 : ∀ w ∈ wsL_pass_r3, w ∈ lw_tbl := (in_r _ [86, 366, 367, 368, 369, 132, 370, 371, 29, 372, 565, 566, 567, 568] (by decide +kernel))
theorem inT_wsL_pass : ∀ w ∈ wsL_pass, w ∈ lw_tbl := (in_cons (in_1 555 (by decide +kernel)) (in_app (in_app (in_app (in_app (in_app inT_wsL_pass_r1 (in_app inT_wsL_pass_r2 inT_wsL_pass_r3)) inT_wsX50) inT_wsX40) inT_wsX30) inT_x2))
theorem inT_wmL_pass : ∀ w ∈ wmL_pass, w ∈ lw_tbl := (in_app inT_wsL_pass inT_lx)
theorem inT_wmL_makes : ∀ w ∈ wmL_makes, w ∈ lw_tbl := (in_cons (in_1 791 (by decide +kernel)) (in_app (in_app (in_r _ [253, 254, 16] (by decide +kernel)) inT_wsL_at) (in_app (in_app (in_r _ [792, 793, 16] (by decide +kernel)) inT_wsL_some) (in_app (in_app (in_r _ [256, 257, 16] (by decide +kernel)) inT_wmL_addGuest) (in_app (in_app (in_r _ [377, 378, 16] (by decide +kernel)) inT_wmL_placeHat) (in_app (in_app (in_r _ [795, 796, 16] (by decide +kernel)) inT_wmL_leaveCoat) (in_app (in_r _ [553, 554, 16] (by decide +kernel)) inT_wmL_pass)))))))
theorem inT_wsX5_guestCount : ∀ w ∈ wsX5_guestCount, w ∈ lw_tbl := (in_cons (in_1 213 (by decide +kernel)) (in_app (in_app (in_r _ [179, 77] (by decide +kernel)) inT_wsX50) inT_wsX30))
theorem inT_wsL_meanCover_r1 : ∀ w ∈ wsL_meanCover_r1, w ∈ lw_tbl := (in_r _ [813, 834, 827, 828, 829, 17, 830, 831, 41, 179, 245, 246, 247, 18, 248, 249, 250, 251, 252, 67, 222, 223, 224, 225] (by decide +kernel))
theorem inT_wsL_meanCover_r2 : ∀ w ∈ wsL_meanCover_r2, w ∈ lw_tbl := (in_r _ [226, 227, 228, 229, 70] (by decide +kernel))
theorem inT_x6 : ∀ w ∈ (vx_atS RX5 331 "java/lang/ArithmeticException" ["java/lang/RuntimeException", "java/lang/Exception"]).filter goodWord, w ∈ lw_tbl := by decide +kernel
theorem inT_wsL_meanCover : ∀ w ∈ wsL_meanCover, w ∈ lw_tbl := (in_cons (in_1 812 (by decide +kernel)) (in_app (in_app (in_app (in_app (in_app inT_wsL_meanCover_r1 inT_wsL_meanCover_r2) inT_wsX50) inT_wsX30) inT_x6) inT_x0))
theorem inT_wsJxe99ae_doubleToLongBits_ccdee : ∀ w ∈ wsJxe99ae_doubleToLongBits_ccdee, w ∈ lw_tbl := (in_cons (in_1 837 (by decide +kernel)) (in_r _ [841, 843, 842, 42, 844, 838, 839, 42, 840] (by decide +kernel)))
theorem inT_wsX5_coveredShare : ∀ w ∈ wsX5_coveredShare, w ∈ lw_tbl := (in_cons (in_1 848 (by decide +kernel)) (in_app (in_app (in_app (in_r _ [179, 849, 222, 223, 224, 18, 225, 226, 227, 228, 229, 70] (by decide +kernel)) inT_wsX50) inT_wsX30) inT_x0))
theorem inT_wsJxf58ca_floatToIntBits_5c35a : ∀ w ∈ wsJxf58ca_floatToIntBits_5c35a, w ∈ lw_tbl := (in_cons (in_1 852 (by decide +kernel)) (in_r _ [856, 858, 857, 43, 859, 853, 854, 43, 855] (by decide +kernel)))
theorem inT_wsX5_coveredMask : ∀ w ∈ wsX5_coveredMask, w ∈ lw_tbl := (in_cons (in_1 863 (by decide +kernel)) (in_app (in_app (in_app (in_r _ [179, 864, 455, 456, 18, 457, 70] (by decide +kernel)) inT_wsX50) inT_wsX30) inT_x0))
theorem inT_wsX5_now : ∀ w ∈ wsX5_now, w ∈ lw_tbl := (in_cons (in_1 217 (by decide +kernel)) (in_app (in_app (in_r _ [179, 79] (by decide +kernel)) inT_wsX50) inT_wsX30))
theorem inT_wsX5_sweptTotal : ∀ w ∈ wsX5_sweptTotal, w ∈ lw_tbl := (in_cons (in_1 868 (by decide +kernel)) (in_app (in_app (in_r _ [179, 81] (by decide +kernel)) inT_wsX50) inT_wsX30))
theorem inT_wsX5_lapsedTotal : ∀ w ∈ wsX5_lapsedTotal, w ∈ lw_tbl := (in_cons (in_1 872 (by decide +kernel)) (in_app (in_app (in_r _ [179, 83] (by decide +kernel)) inT_wsX50) inT_wsX30))
theorem inT_wsX5_offersTaken : ∀ w ∈ wsX5_offersTaken, w ∈ lw_tbl := (in_cons (in_1 876 (by decide +kernel)) (in_app (in_app (in_r _ [179, 85] (by decide +kernel)) inT_wsX50) inT_wsX30))
theorem inT_wsX5_contestsWon : ∀ w ∈ wsX5_contestsWon, w ∈ lw_tbl := (in_cons (in_1 233 (by decide +kernel)) (in_app (in_app (in_r _ [179, 87] (by decide +kernel)) inT_wsX50) inT_wsX30))
theorem inT_wsL_idlest_r1 : ∀ w ∈ wsL_idlest_r1, w ∈ lw_tbl := (in_r _ [491, 880, 881, 882, 17, 883, 500, 37, 179, 884, 885, 886, 18, 887, 249, 250, 251, 252, 67, 737, 738, 739, 740, 78] (by decide +kernel))
theorem inT_wsL_idlest_r2 : ∀ w ∈ wsL_idlest_r2, w ∈ lw_tbl := (in_r _ [69] (by decide +kernel))
theorem inT_x7 : ∀ w ∈ (vx_atS RX5 174 "java/util/NoSuchElementException" ["java/lang/RuntimeException", "java/lang/Exception"]).filter goodWord, w ∈ lw_tbl := by decide +kernel
theorem inT_wsL_idlest : ∀ w ∈ wsL_idlest, w ∈ lw_tbl := (in_cons (in_1 879 (by decide +kernel)) (in_app (in_app (in_app (in_app (in_app inT_wsL_idlest_r1 inT_wsL_idlest_r2) inT_wsX50) inT_wsX30) inT_x7) inT_x0))
theorem inT_wmL_idlest : ∀ w ∈ wmL_idlest, w ∈ lw_tbl := (in_app inT_wsL_idlest inT_lx)
theorem inT_wsL_feathers : ∀ w ∈ wsL_feathers, w ∈ lw_tbl := (in_cons (in_1 469 (by decide +kernel)) (in_app (in_app (in_app (in_app (in_r _ [380, 470, 471, 472, 17, 473, 179, 64, 474, 476, 1, 477, 420, 38, 478, 414, 415, 18, 416, 76] (by decide +kernel)) inT_wsX50) inT_wsX30) inT_x0) inT_x4))
theorem inT_wmL_feathers : ∀ w ∈ wmL_feathers, w ∈ lw_tbl := (in_app inT_wsL_feathers inT_lx)
theorem inT_wsL_brim : ∀ w ∈ wsL_brim, w ∈ lw_tbl := (in_cons (in_1 890 (by decide +kernel)) (in_app (in_app (in_app (in_app (in_r _ [380, 891, 892, 893, 17, 894, 179, 66, 474, 476, 1, 477, 420, 38, 478, 414, 415, 18, 416, 76] (by decide +kernel)) inT_wsX50) inT_wsX30) inT_x0) inT_x4))
theorem inT_wmL_brim : ∀ w ∈ wmL_brim, w ∈ lw_tbl := (in_app inT_wsL_brim inT_lx)
theorem inT_wsL_hatChair_r1 : ∀ w ∈ wsL_hatChair_r1, w ∈ lw_tbl := (in_r _ [380, 898, 899, 900, 17, 901, 179, 68, 902, 904, 12, 905, 420, 38, 500, 37, 906, 693, 694, 18, 695, 413, 414, 415] (by decide +kernel))
theorem inT_wsL_hatChair_r2 : ∀ w ∈ wsL_hatChair_r2, w ∈ lw_tbl := (in_r _ [416, 76, 249, 250, 251, 252, 67] (by decide +kernel))
