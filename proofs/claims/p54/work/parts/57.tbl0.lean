/-! the law's words stand in the tables -/
theorem in_r {big : List Cond} (ws : List Cond) (ps : List Nat) (hp : ws = ps.filterMap (fun i => big[i]?)) : ∀ w ∈ ws, w ∈ big := by
  intro w hw
  rw [hp] at hw
  obtain ⟨i, -, hi⟩ := List.mem_filterMap.mp hw
  exact List.mem_of_getElem? hi
theorem in_1 {big : List Cond} {w : Cond} (i : Nat) (h : big[i]? = some w) : w ∈ big := List.mem_of_getElem? h
theorem in_app {big a b : List Cond} (ha : ∀ w ∈ a, w ∈ big) (hb : ∀ w ∈ b, w ∈ big) : ∀ w ∈ a ++ b, w ∈ big := fun w h => (List.mem_append.mp h).elim (ha w) (hb w)
theorem in_cons {big a : List Cond} {c : Cond} (hc : c ∈ big) (ha : ∀ w ∈ a, w ∈ big) : ∀ w ∈ c :: a, w ∈ big := fun w h => (List.mem_cons.mp h).elim (fun e => e ▸ hc) (ha w)
def sbS : List Cond := [.selects RJ4 ⟨"java/lang/AbstractStringBuilder", "appendNull", "()Ljava/lang/AbstractStringBuilder;"⟩ ⟨"java/lang/AbstractStringBuilder", "appendNull", "()Ljava/lang/AbstractStringBuilder;"⟩, .selects RJ4 ⟨"java/lang/AbstractStringBuilder", "ensureCapacityInternal", "(I)V"⟩ ⟨"java/lang/AbstractStringBuilder", "ensureCapacityInternal", "(I)V"⟩, .selects RJ4 ⟨"java/lang/AbstractStringBuilder", "newCapacity", "(I)I"⟩ ⟨"java/lang/AbstractStringBuilder", "newCapacity", "(I)I"⟩, .selects RJ4 ⟨"java/lang/AbstractStringBuilder", "putStringAt", "(ILjava/lang/String;)V"⟩ ⟨"java/lang/AbstractStringBuilder", "putStringAt", "(ILjava/lang/String;)V"⟩, .selects RJ4 ⟨"java/lang/AbstractStringBuilder", "inflateIfNeededFor", "(Ljava/lang/String;)V"⟩ ⟨"java/lang/AbstractStringBuilder", "inflateIfNeededFor", "(Ljava/lang/String;)V"⟩, .selects RJ4 ⟨"java/lang/AbstractStringBuilder", "inflate", "()V"⟩ ⟨"java/lang/AbstractStringBuilder", "inflate", "()V"⟩]
def lw_T : List Cond := sbS ++ lw_tbl
theorem sel_sb {y g : MethodName} {C : String} {s : State} {args : Array Value} (hy : y.cls ≠ "java/lang/invoke/MethodHandle" ∧ y.cls ≠ "java/lang/invoke/VarHandle") (hg : (Cond.selects C g g).before args s = true) (hcls : g.cls = y.cls) (hpriv : (Cond.privateMethod y).before args s = true) (hinst : (Cond.instanceMethod y).before args s = true) : (Cond.selects C y y).before args s = true := by
  obtain ⟨c, r, m, q1, q2, q3, q4, k, q5, q6⟩ := Cond.selects_spec hg
  obtain ⟨my, methM, hnamed, hmethM, -, -⟩ := Cond.instanceMethod_spec hinst
  have hfound : s.methodFound? y.cls y.name y.desc = some my := State.methodFound?_of_named hnamed hy
  have h1 := findClass_of_methodNamed hnamed
  have h2 := findClass_of_methodNamed q3
  rw [hcls] at h2
  have e : my.cls = m.cls := Option.some.inj (h1.symm.trans h2)
  have hsel : selectMethod {} s.vm c my = .method my := selectMethod_private hmethM (Cond.privateMethod_at hpriv my methM hnamed hmethM)
  rw [← e] at q5
  simp only [Cond.before, Cond.holds, Cond.value, q1, hfound, hnamed, hsel, q5]
  simp [q6]
theorem sb_g : (Cond.selects RJ4 ⟨"java/lang/AbstractStringBuilder", "getValue", "()[B"⟩ ⟨"java/lang/AbstractStringBuilder", "getValue", "()[B"⟩) ∈ lw_tbl := List.mem_of_getElem? (i := 1231) (by decide +kernel)
theorem sb_p0 : (Cond.privateMethod ⟨"java/lang/AbstractStringBuilder", "appendNull", "()Ljava/lang/AbstractStringBuilder;"⟩) ∈ lw_tbl := List.mem_of_getElem? (i := 1104) (by decide +kernel)
theorem sb_i0 : (Cond.instanceMethod ⟨"java/lang/AbstractStringBuilder", "appendNull", "()Ljava/lang/AbstractStringBuilder;"⟩) ∈ lw_tbl := List.mem_of_getElem? (i := 1105) (by decide +kernel)
theorem sb_p1 : (Cond.privateMethod ⟨"java/lang/AbstractStringBuilder", "ensureCapacityInternal", "(I)V"⟩) ∈ lw_tbl := List.mem_of_getElem? (i := 1108) (by decide +kernel)
theorem sb_i1 : (Cond.instanceMethod ⟨"java/lang/AbstractStringBuilder", "ensureCapacityInternal", "(I)V"⟩) ∈ lw_tbl := List.mem_of_getElem? (i := 1109) (by decide +kernel)
theorem sb_p2 : (Cond.privateMethod ⟨"java/lang/AbstractStringBuilder", "newCapacity", "(I)I"⟩) ∈ lw_tbl := List.mem_of_getElem? (i := 1112) (by decide +kernel)
theorem sb_i2 : (Cond.instanceMethod ⟨"java/lang/AbstractStringBuilder", "newCapacity", "(I)I"⟩) ∈ lw_tbl := List.mem_of_getElem? (i := 1113) (by decide +kernel)
theorem sb_p3 : (Cond.privateMethod ⟨"java/lang/AbstractStringBuilder", "putStringAt", "(ILjava/lang/String;)V"⟩) ∈ lw_tbl := List.mem_of_getElem? (i := 1158) (by decide +kernel)
theorem sb_i3 : (Cond.instanceMethod ⟨"java/lang/AbstractStringBuilder", "putStringAt", "(ILjava/lang/String;)V"⟩) ∈ lw_tbl := List.mem_of_getElem? (i := 1159) (by decide +kernel)
theorem sb_p4 : (Cond.privateMethod ⟨"java/lang/AbstractStringBuilder", "inflateIfNeededFor", "(Ljava/lang/String;)V"⟩) ∈ lw_tbl := List.mem_of_getElem? (i := 1162) (by decide +kernel)
theorem sb_i4 : (Cond.instanceMethod ⟨"java/lang/AbstractStringBuilder", "inflateIfNeededFor", "(Ljava/lang/String;)V"⟩) ∈ lw_tbl := List.mem_of_getElem? (i := 1163) (by decide +kernel)
theorem sb_p5 : (Cond.privateMethod ⟨"java/lang/AbstractStringBuilder", "inflate", "()V"⟩) ∈ lw_tbl := List.mem_of_getElem? (i := 1167) (by decide +kernel)
theorem sb_i5 : (Cond.instanceMethod ⟨"java/lang/AbstractStringBuilder", "inflate", "()V"⟩) ∈ lw_tbl := List.mem_of_getElem? (i := 1168) (by decide +kernel)
theorem hts_T {s : State} {args : Array Value} (h : ∀ w ∈ lw_tbl, w.before args s = true) : ∀ w ∈ lw_T, w.before args s = true := by
  intro w hw
  rcases List.mem_append.mp hw with hw | hw
  · unfold sbS at hw
    simp only [List.mem_cons, List.not_mem_nil, or_false] at hw
    rcases hw with rfl | rfl | rfl | rfl | rfl | rfl
    · exact sel_sb (by decide) (h _ sb_g) rfl (h _ sb_p0) (h _ sb_i0)
    · exact sel_sb (by decide) (h _ sb_g) rfl (h _ sb_p1) (h _ sb_i1)
    · exact sel_sb (by decide) (h _ sb_g) rfl (h _ sb_p2) (h _ sb_i2)
    · exact sel_sb (by decide) (h _ sb_g) rfl (h _ sb_p3) (h _ sb_i3)
    · exact sel_sb (by decide) (h _ sb_g) rfl (h _ sb_p4) (h _ sb_i4)
    · exact sel_sb (by decide) (h _ sb_g) rfl (h _ sb_p5) (h _ sb_i5)
  · exact h w hw
theorem inT_x0 : ∀ w ∈ (vx_atM "java/lang/ArrayIndexOutOfBoundsException" ["java/lang/IndexOutOfBoundsException", "java/lang/RuntimeException", "java/lang/Exception"]).filter goodWord, w ∈ lw_T := by decide +kernel
theorem inT_wsL_at : ∀ w ∈ wsL_at, w ∈ lw_T := (in_cons (in_1 261 (by decide +kernel)) (in_app (in_r _ [] (by decide +kernel)) inT_x0))
theorem inB_0 : ∀ w ∈ (va_wsS RL 170 yL_at wsL_at), w ∈ lw_T := (in_app (in_r _ [259, 260, 22] (by decide +kernel)) inT_wsL_at)
theorem inT_x1 : ∀ w ∈ (vx_atM "java/lang/ArithmeticException" ["java/lang/RuntimeException", "java/lang/Exception"]).filter goodWord, w ∈ lw_T := by decide +kernel
theorem inT_wsL_some : ∀ w ∈ wsL_some, w ∈ lw_T := (in_cons (in_1 800 (by decide +kernel)) (in_app (in_r _ [] (by decide +kernel)) inT_x1))
theorem inB_1 : ∀ w ∈ (va_wsS RL 174 yL_some wsL_some), w ∈ lw_T := (in_app (in_r _ [798, 799, 22] (by decide +kernel)) inT_wsL_some)
theorem inT_wsL_addGuest_r1 : ∀ w ∈ wsL_addGuest_r1, w ∈ lw_T := (in_r _ [265, 267, 268, 269, 23, 270, 275, 34, 347, 32, 185, 187, 271, 272, 273, 24, 274, 82, 363, 364, 365, 25, 366, 367] (by decide +kernel))
theorem inT_wsL_addGuest_r2 : ∀ w ∈ wsL_addGuest_r2, w ∈ lw_T := (in_r _ [368, 369, 370, 136, 137, 371, 245, 246, 247, 69, 248, 250, 249, 33, 71, 73, 75, 76, 77, 79, 80, 81, 84, 86] (by decide +kernel))
theorem inT_wsL_addGuest_r3 : ∀ w ∈ wsL_addGuest_r3, w ∈ lw_T := (in_r _ [88, 90, 92, 372, 373, 374, 375, 138, 376, 377, 35, 378, 379, 380, 381, 382] (by decide +kernel))
theorem inT_wsX50 : ∀ w ∈ wsX50, w ∈ lw_T := by decide +kernel
theorem inT_wsX30 : ∀ w ∈ wsX30, w ∈ lw_T := by decide +kernel
theorem inT_wsX40 : ∀ w ∈ wsX40, w ∈ lw_T := by decide +kernel
theorem inT_x2 : ∀ w ∈ (vx_atS RX5 62 "java/lang/IllegalArgumentException" ["java/lang/RuntimeException", "java/lang/Exception"]).filter goodWord, w ∈ lw_T := by decide +kernel
theorem inT_x3 : ∀ w ∈ (vx_atS RX5 69 "java/lang/IllegalStateException" ["java/lang/RuntimeException", "java/lang/Exception"]).filter goodWord, w ∈ lw_T := by decide +kernel
theorem inT_wsL_addGuest : ∀ w ∈ wsL_addGuest, w ∈ lw_T := (in_cons (in_1 264 (by decide +kernel)) (in_app (in_app (in_app (in_app (in_app (in_app (in_app inT_wsL_addGuest_r1 (in_app inT_wsL_addGuest_r2 inT_wsL_addGuest_r3)) inT_wsX50) inT_wsX30) inT_wsX40) inT_x2) inT_x3) inT_x0))
theorem inT_lx : ∀ w ∈ lx, w ∈ lw_T := (in_r _ [265, 266, 386, 410, 497] (by decide +kernel))
theorem inT_wmL_addGuest : ∀ w ∈ wmL_addGuest, w ∈ lw_T := (in_app inT_wsL_addGuest inT_lx)
theorem inB_2 : ∀ w ∈ (va_wsS RL 177 yL_addGuest wmL_addGuest), w ∈ lw_T := (in_app (in_r _ [262, 263, 22] (by decide +kernel)) inT_wmL_addGuest)
theorem inT_wsL_placeHat_r1 : ∀ w ∈ wsL_placeHat_r1, w ∈ lw_T := (in_r _ [386, 411, 412, 413, 23, 414, 426, 44, 347, 32, 440, 46, 185, 187, 415, 416, 417, 24, 418, 419, 420, 421, 422, 82] (by decide +kernel))
theorem inT_wsL_placeHat_r2 : ∀ w ∈ wsL_placeHat_r2, w ∈ lw_T := (in_r _ [423, 424, 425, 255, 256, 257, 258, 73, 232, 233, 234, 235, 76, 363, 364, 365, 25, 366, 367, 368, 369, 370, 136, 137] (by decide +kernel))
theorem inT_wsL_placeHat_r3 : ∀ w ∈ wsL_placeHat_r3, w ∈ lw_T := (in_r _ [371, 245, 246, 247, 69, 248, 250, 249, 33, 71, 75, 77, 79, 80, 81, 84, 86, 88, 90, 92, 372, 373, 374, 375] (by decide +kernel))
theorem inT_wsL_placeHat_r4 : ∀ w ∈ wsL_placeHat_r4, w ∈ lw_T := (in_r _ [138, 376, 377, 35, 378, 456, 457, 458, 459, 460, 461, 462, 463, 464, 465, 466, 467, 468, 42, 469, 470, 471, 472] (by decide +kernel))
theorem inT_x4 : ∀ w ∈ (vx_atS RX5 85 "java/lang/IndexOutOfBoundsException" ["java/lang/RuntimeException", "java/lang/Exception"]).filter goodWord, w ∈ lw_T := by decide +kernel
theorem inT_x5 : ∀ w ∈ (vx_atS RX5 102 "java/lang/UnsupportedOperationException" ["java/lang/RuntimeException", "java/lang/Exception"]).filter goodWord, w ∈ lw_T := by decide +kernel
theorem inT_wsL_placeHat : ∀ w ∈ wsL_placeHat, w ∈ lw_T := (in_cons (in_1 385 (by decide +kernel)) (in_app (in_app (in_app (in_app (in_app (in_app (in_app (in_app inT_wsL_placeHat_r1 (in_app inT_wsL_placeHat_r2 (in_app inT_wsL_placeHat_r3 inT_wsL_placeHat_r4))) inT_wsX50) inT_wsX30) inT_wsX40) inT_x4) inT_x3) inT_x5) inT_x0))
theorem inT_wmL_placeHat : ∀ w ∈ wmL_placeHat, w ∈ lw_T := (in_app inT_wsL_placeHat inT_lx)
theorem inB_3 : ∀ w ∈ (va_wsS RL 180 yL_placeHat wmL_placeHat), w ∈ lw_T := (in_app (in_r _ [383, 384, 22] (by decide +kernel)) inT_wmL_placeHat)
theorem inT_wsL_leaveCoat_r1 : ∀ w ∈ wsL_leaveCoat_r1, w ∈ lw_T := (in_r _ [386, 804, 805, 806, 23, 807, 426, 44, 347, 32, 440, 46, 185, 187, 808, 703, 704, 24, 705, 77, 419, 420, 421, 422] (by decide +kernel))
theorem inT_wsL_leaveCoat_r2 : ∀ w ∈ wsL_leaveCoat_r2, w ∈ lw_T := (in_r _ [82, 423, 424, 425, 232, 233, 234, 235, 76, 706, 707, 708, 709, 363, 364, 365, 25, 366, 367, 368, 369, 370, 136, 137] (by decide +kernel))
theorem inT_wsL_leaveCoat_r3 : ∀ w ∈ wsL_leaveCoat_r3, w ∈ lw_T := (in_r _ [371, 245, 246, 247, 69, 248, 250, 249, 33, 71, 73, 75, 79, 80, 81, 84, 86, 88, 90, 92, 372, 373, 374, 375] (by decide +kernel))
theorem inT_wsL_leaveCoat_r4 : ∀ w ∈ wsL_leaveCoat_r4, w ∈ lw_T := (in_r _ [138, 376, 377, 35, 378, 811, 748, 749, 750] (by decide +kernel))
theorem inT_wsL_leaveCoat : ∀ w ∈ wsL_leaveCoat, w ∈ lw_T := (in_cons (in_1 803 (by decide +kernel)) (in_app (in_app (in_app (in_app (in_app (in_app (in_app (in_app inT_wsL_leaveCoat_r1 (in_app inT_wsL_leaveCoat_r2 (in_app inT_wsL_leaveCoat_r3 inT_wsL_leaveCoat_r4))) inT_wsX50) inT_wsX30) inT_wsX40) inT_x4) inT_x3) inT_x5) inT_x0))
theorem inT_wmL_leaveCoat : ∀ w ∈ wmL_leaveCoat, w ∈ lw_T := (in_app inT_wsL_leaveCoat inT_lx)
theorem inB_4 : ∀ w ∈ (va_wsS RL 182 yL_leaveCoat wmL_leaveCoat), w ∈ lw_T := (in_app (in_r _ [801, 802, 22] (by decide +kernel)) inT_wmL_leaveCoat)
theorem inT_wsL_pass_r1 : ∀ w ∈ wsL_pass_r1, w ∈ lw_T := (in_r _ [265, 562, 563, 564, 23, 565, 275, 34, 185, 187, 566, 567, 568, 24, 569, 363, 364, 365, 25, 366, 367, 368, 369, 370] (by decide +kernel))
theorem inT_wsL_pass_r2 : ∀ w ∈ wsL_pass_r2, w ∈ lw_T := (in_r _ [136, 137, 371, 245, 246, 247, 69, 248, 250, 249, 33, 71, 73, 75, 76, 77, 79, 80, 81, 82, 84, 86, 88, 90] (by decide +kernel))
theorem inT_wsL_pass_r3 : ∀ w ∈ wsL_pass_r3, w ∈ lw_T := (in_r _ [92, 372, 373, 374, 375, 138, 376, 377, 35, 378, 571, 572, 573, 574] (by decide +kernel))
theorem inT_wsL_pass : ∀ w ∈ wsL_pass, w ∈ lw_T := (in_cons (in_1 561 (by decide +kernel)) (in_app (in_app (in_app (in_app (in_app inT_wsL_pass_r1 (in_app inT_wsL_pass_r2 inT_wsL_pass_r3)) inT_wsX50) inT_wsX40) inT_wsX30) inT_x2))
theorem inT_wmL_pass : ∀ w ∈ wmL_pass, w ∈ lw_T := (in_app inT_wsL_pass inT_lx)
theorem inB_5 : ∀ w ∈ (va_wsS RL 184 yL_pass wmL_pass), w ∈ lw_T := (in_app (in_r _ [559, 560, 22] (by decide +kernel)) inT_wmL_pass)
theorem inT_wmL_makes : ∀ w ∈ wmL_makes, w ∈ lw_T := (in_cons (in_1 797 (by decide +kernel)) (in_app inB_0 (in_app inB_1 (in_app inB_2 (in_app inB_3 (in_app inB_4 inB_5))))))
theorem inT_wsX5_guestCount : ∀ w ∈ wsX5_guestCount, w ∈ lw_T := (in_cons (in_1 219 (by decide +kernel)) (in_app (in_app (in_r _ [185, 83] (by decide +kernel)) inT_wsX50) inT_wsX30))
theorem inB_6 : ∀ w ∈ (wsV RL 186 RX5 yX5_guestCount wsX5_guestCount), w ∈ lw_T := (in_app (in_r _ [216, 217, 218, 23] (by decide +kernel)) inT_wsX5_guestCount)
theorem inT_wsL_meanCover_r1 : ∀ w ∈ wsL_meanCover_r1, w ∈ lw_T := (in_r _ [819, 840, 833, 834, 835, 23, 836, 837, 47, 185, 251, 252, 253, 24, 254, 255, 256, 257, 258, 73, 228, 229, 230, 231] (by decide +kernel))
theorem inT_wsL_meanCover_r2 : ∀ w ∈ wsL_meanCover_r2, w ∈ lw_T := (in_r _ [232, 233, 234, 235, 76] (by decide +kernel))
theorem inT_x6 : ∀ w ∈ (vx_atS RX5 331 "java/lang/ArithmeticException" ["java/lang/RuntimeException", "java/lang/Exception"]).filter goodWord, w ∈ lw_T := by decide +kernel
theorem inT_wsL_meanCover : ∀ w ∈ wsL_meanCover, w ∈ lw_T := (in_cons (in_1 818 (by decide +kernel)) (in_app (in_app (in_app (in_app (in_app inT_wsL_meanCover_r1 inT_wsL_meanCover_r2) inT_wsX50) inT_wsX30) inT_x6) inT_x0))
theorem inB_7 : ∀ w ∈ (va_wsS RL 191 yL_meanCover wsL_meanCover), w ∈ lw_T := (in_app (in_r _ [816, 817, 22] (by decide +kernel)) inT_wsL_meanCover)
theorem inT_wsJxe99ae_doubleToLongBits_ccdee : ∀ w ∈ wsJxe99ae_doubleToLongBits_ccdee, w ∈ lw_T := (in_cons (in_1 843 (by decide +kernel)) (in_r _ [847, 849, 848, 48, 850, 844, 845, 48, 846] (by decide +kernel)))
theorem inB_8 : ∀ w ∈ (va_wsS RL 194 yJxe99ae_doubleToLongBits_ccdee wsJxe99ae_doubleToLongBits_ccdee), w ∈ lw_T := (in_app (in_r _ [841, 842, 48] (by decide +kernel)) inT_wsJxe99ae_doubleToLongBits_ccdee)
theorem inT_wsX5_coveredShare : ∀ w ∈ wsX5_coveredShare, w ∈ lw_T := (in_cons (in_1 854 (by decide +kernel)) (in_app (in_app (in_app (in_r _ [185, 855, 228, 229, 230, 24, 231, 232, 233, 234, 235, 76] (by decide +kernel)) inT_wsX50) inT_wsX30) inT_x0))
theorem inB_9 : ∀ w ∈ (wsV RL 200 RX5 yX5_coveredShare wsX5_coveredShare), w ∈ lw_T := (in_app (in_r _ [851, 852, 853, 23] (by decide +kernel)) inT_wsX5_coveredShare)
theorem inT_wsJxf58ca_floatToIntBits_5c35a : ∀ w ∈ wsJxf58ca_floatToIntBits_5c35a, w ∈ lw_T := (in_cons (in_1 858 (by decide +kernel)) (in_r _ [862, 864, 863, 49, 865, 859, 860, 49, 861] (by decide +kernel)))
theorem inB_10 : ∀ w ∈ (va_wsS RL 204 yJxf58ca_floatToIntBits_5c35a wsJxf58ca_floatToIntBits_5c35a), w ∈ lw_T := (in_app (in_r _ [856, 857, 49] (by decide +kernel)) inT_wsJxf58ca_floatToIntBits_5c35a)
theorem inT_wsX5_coveredMask : ∀ w ∈ wsX5_coveredMask, w ∈ lw_T := (in_cons (in_1 869 (by decide +kernel)) (in_app (in_app (in_app (in_r _ [185, 870, 461, 462, 24, 463, 76] (by decide +kernel)) inT_wsX50) inT_wsX30) inT_x0))
theorem inB_11 : ∀ w ∈ (wsV RL 210 RX5 yX5_coveredMask wsX5_coveredMask), w ∈ lw_T := (in_app (in_r _ [866, 867, 868, 23] (by decide +kernel)) inT_wsX5_coveredMask)
theorem inT_wsX5_now : ∀ w ∈ wsX5_now, w ∈ lw_T := (in_cons (in_1 223 (by decide +kernel)) (in_app (in_app (in_r _ [185, 85] (by decide +kernel)) inT_wsX50) inT_wsX30))
theorem inB_12 : ∀ w ∈ (wsV RL 214 RX5 yX5_now wsX5_now), w ∈ lw_T := (in_app (in_r _ [220, 221, 222, 23] (by decide +kernel)) inT_wsX5_now)
theorem inT_wsX5_sweptTotal : ∀ w ∈ wsX5_sweptTotal, w ∈ lw_T := (in_cons (in_1 874 (by decide +kernel)) (in_app (in_app (in_r _ [185, 87] (by decide +kernel)) inT_wsX50) inT_wsX30))
theorem inB_13 : ∀ w ∈ (wsV RL 217 RX5 yX5_sweptTotal wsX5_sweptTotal), w ∈ lw_T := (in_app (in_r _ [871, 872, 873, 23] (by decide +kernel)) inT_wsX5_sweptTotal)
