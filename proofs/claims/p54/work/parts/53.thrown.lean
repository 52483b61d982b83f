/-! thrown -/
def lawI : List Nat := [276, 288, 290, 315, 319, 325]
def lawT : List String := ["pass 5;lift ", "sweep 20;hat ", " 5", "q", "pass 1;pass 2;lift 9", "pass 60;pass 99"]
def digF (j : Nat) : Int32 := nI (48 + j % 10)
/-- what the law knows besides: its texts, the digits -/
def YX (en ks vs lk lv : Nat → Nat) (A : Nat → Prop) (U : State) (H : Heap) : Prop := HX en ks vs A U H ∧ (∀ i, i < 6 → vk_R RL (lawI.getD i 0) (lawT.getD i "") (lk i) U ∧ TX (lk i) (lv i) (lawN i) (lawF i) A U H) ∧ (∃ t, va_Z "java/lang/Integer" "DigitOnes" "[B" (.ref t) A U H ∧ va_T .byte t 100 (fun j => .int (digF j)) A U H) ∧ va_Nw (.castable "[B" "java/lang/Cloneable") U
theorem YX_ok (en ks vs lk lv : Nat → Nat) : SXok (YX en ks vs lk lv) := ⟨fun A u U H hW h => ⟨(HX_ok en ks vs).1 _ _ _ _ hW h.1, fun i hi => ⟨(h.2.1 i hi).1.warm hW, (h.2.1 i hi).2.moved hW.alike⟩, by obtain ⟨t, h1, h2⟩ := h.2.2.1; exact ⟨t, h1.moved hW.alike, h2.moved hW.alike⟩, va_Nw.warmC hW h.2.2.2⟩, fun A u U H hv h => ⟨(HX_ok en ks vs).2.1 _ _ _ _ hv h.1, fun i hi => ⟨(h.2.1 i hi).1.same hv, (h.2.1 i hi).2.moved (alike_of_same hv)⟩, by obtain ⟨t, h1, h2⟩ := h.2.2.1; exact ⟨t, h1.moved (alike_of_same hv), h2.moved (alike_of_same hv)⟩, va_Nw.same rfl hv.symm h.2.2.2⟩, fun A U H H1 h hq => ⟨(HX_ok en ks vs).2.2.1 _ _ _ _ h.1 hq, fun i hi => ⟨(h.2.1 i hi).1, (h.2.1 i hi).2.kept hq⟩, by obtain ⟨t, h1, h2⟩ := h.2.2.1; exact ⟨t, h1.kept hq, h2.kept hq⟩, h.2.2.2⟩, fun A B U H h hAB => ⟨(HX_ok en ks vs).2.2.2 _ _ _ _ h.1 hAB, fun i hi => ⟨(h.2.1 i hi).1, (h.2.1 i hi).2.narrow hAB⟩, by obtain ⟨t, h1, h2⟩ := h.2.2.1; exact ⟨t, h1.narrow hAB, h2.narrow hAB⟩, h.2.2.2⟩⟩
theorem YX_tx {en ks vs lk lv : Nat → Nat} {A : Nat → Prop} {U : State} {H : Heap} (h : YX en ks vs lk lv A U H) (i : Nat) (hi : i < 6) : TXX en ks vs (lk i) (lv i) (lawN i) (lawF i) A U H := ⟨h.1, (h.2.1 i hi).2⟩
section ROWLD
variable {p : Program} {l : Launch} {e : Env} {R : Room} {s : State} {m : MethodId} {args : Array Value} {below : List Frame} {meth : Method} {c : Code} {H : Heap} {locs : List Loc} {cells slots : Nat} {Q : State → Prop} {pc : Nat} {ls : Array Slot} {rest : List Value} {cc : ByteArray}
theorem va_ldcSW (hexec : p.tables.exec = Jvm.exec) (hb : c.code = cc) {own tx : String} {index q : Nat} (hown : s.vm.findClass own = some m.cls) (hZ : vk_R own index tx q s) (hdg : decode cc pc = .ok (.ldc_w index, 3))
    (k : W p l e R s m args below meth c H locs cells slots Q (F0 m (pc + 3) ls (.ref q :: rest))) : W p l e R s m args below meth c H locs cells slots Q (F0 m pc ls rest) := by
  intro T hT X
  obtain ⟨t, a1, b1⟩ := k T hT X
  exact ⟨t, X.ldcStringW hexec hown (text := tx) (a := q) hZ.1 hZ.2 (g := F0 m pc ls rest) rfl (by rw [hb]; exact hdg) t a1, b1⟩
end ROWLD
def wmL_thrown : List Cond := .code yL_thrown cL_thrown 7 (some .boolean) :: (va_wsS RL 296 yL_asks wmL_asks ++ (wsV RL 186 RX5 yX5_guestCount wsX5_guestCount ++ (va_wsS RL 177 yL_addGuest wmL_addGuest ++ (va_wsS RL 261 yL_giveFeather wmL_giveFeather ++ (va_wsS RL 180 yL_placeHat wmL_placeHat ++ (va_wsS RL 263 yL_removeHat wmL_removeHat ++ (va_wsS RL 265 yL_touchHat wmL_touchHat ++ (va_wsS RL 232 yL_feathers wmL_feathers ++ (va_wsS RL 234 yL_brim wmL_brim ++ (va_wsS RL 300 yL_isPlaced wmL_isPlaced ++ (va_wsS RL 236 yL_hatChair wmL_hatChair ++ (va_wsS RL 243 yL_coverSize wmL_coverSize ++ (va_wsS RL 238 yL_idle wmL_idle ++ (va_wsS RL 182 yL_leaveCoat wmL_leaveCoat ++ (va_wsS RL 267 yL_takeCoat wmL_takeCoat ++ (va_wsS RL 302 yL_hasCoat wmL_hasCoat ++ (va_wsS RL 241 yL_coatChair wmL_coatChair ++ (va_wsS RL 254 yL_coatCount wmL_coatCount ++ (va_wsS RL 256 yL_coatOwner wmL_coatOwner ++ (va_wsS RL 251 yL_next wmL_next ++ (va_wsS RL 305 yL_nextByTime wmL_nextByTime ++ (va_wsS RL 269 yL_contest wmL_contest ++ (va_wsS RL 308 yL_wouldWin wmL_wouldWin ++ (va_wsS RL 184 yL_pass wmL_pass ++ (va_wsS RL 271 yL_sweep wmL_sweep ++ (va_wsS RL 310 yL_isCovered wmL_isCovered ++ (va_wsS RL 248 yL_coverer wmL_coverer ++ (va_wsS RL 258 yL_longest wmL_longest ++ (va_wsS RL 312 yL_longestByMask wmL_longestByMask ++ (va_wsS RL 245 yL_atRank wmL_atRank ++ (va_wsS RL 164 yL_describe wmL_describe ++ (va_wsS RL 168 yL_lineAt wmL_lineAt ++ (va_wsS RL 156 yL_append wmL_append ++ (va_wsS RL 292 yL_runs wmL_runs ++ (va_wsS RL 317 yL_errorPosition wmL_errorPosition ++ (va_wsS RL 321 yL_failedCommand wmL_failedCommand ++ (va_wsS RL 323 yL_failedException wmL_failedException)))))))))))))))))))))))))))))))))))))
theorem mL_thrown_L_asks : GoodIn wmL_thrown (va_wsS RL 296 yL_asks wmL_asks) := goodIn_sub (fun w h => List.mem_cons_of_mem _ (List.mem_append_left _ h)) (by decide +kernel)
theorem mL_thrown_X5_guestCount : GoodIn wmL_thrown (wsV RL 186 RX5 yX5_guestCount wsX5_guestCount) := goodIn_sub (fun w h => List.mem_cons_of_mem _ (List.mem_append_right _ (List.mem_append_left _ h))) (by decide +kernel)
theorem mL_thrown_L_addGuest : GoodIn wmL_thrown (va_wsS RL 177 yL_addGuest wmL_addGuest) := goodIn_sub (fun w h => List.mem_cons_of_mem _ (List.mem_append_right _ (List.mem_append_right _ (List.mem_append_left _ h)))) (by decide +kernel)
theorem mL_thrown_L_giveFeather : GoodIn wmL_thrown (va_wsS RL 261 yL_giveFeather wmL_giveFeather) := goodIn_sub (fun w h => List.mem_cons_of_mem _ (List.mem_append_right _ (List.mem_append_right _ (List.mem_append_right _ (List.mem_append_left _ h))))) (by decide +kernel)
theorem mL_thrown_L_placeHat : GoodIn wmL_thrown (va_wsS RL 180 yL_placeHat wmL_placeHat) := goodIn_sub (fun w h => List.mem_cons_of_mem _ (List.mem_append_right _ (List.mem_append_right _ (List.mem_append_right _ (List.mem_append_right _ (List.mem_append_left _ h)))))) (by decide +kernel)
theorem mL_thrown_L_removeHat : GoodIn wmL_thrown (va_wsS RL 263 yL_removeHat wmL_removeHat) := goodIn_sub (fun w h => List.mem_cons_of_mem _ (List.mem_append_right _ (List.mem_append_right _ (List.mem_append_right _ (List.mem_append_right _ (List.mem_append_right _ (List.mem_append_left _ h))))))) (by decide +kernel)
theorem mL_thrown_L_touchHat : GoodIn wmL_thrown (va_wsS RL 265 yL_touchHat wmL_touchHat) := goodIn_sub (fun w h => List.mem_cons_of_mem _ (List.mem_append_right _ (List.mem_append_right _ (List.mem_append_right _ (List.mem_append_right _ (List.mem_append_right _ (List.mem_append_right _ (List.mem_append_left _ h)))))))) (by decide +kernel)
theorem mL_thrown_L_feathers : GoodIn wmL_thrown (va_wsS RL 232 yL_feathers wmL_feathers) := goodIn_sub (fun w h => List.mem_cons_of_mem _ (List.mem_append_right _ (List.mem_append_right _ (List.mem_append_right _ (List.mem_append_right _ (List.mem_append_right _ (List.mem_append_right _ (List.mem_append_right _ (List.mem_append_left _ h))))))))) (by decide +kernel)
theorem mL_thrown_L_brim : GoodIn wmL_thrown (va_wsS RL 234 yL_brim wmL_brim) := goodIn_sub (fun w h => List.mem_cons_of_mem _ (List.mem_append_right _ (List.mem_append_right _ (List.mem_append_right _ (List.mem_append_right _ (List.mem_append_right _ (List.mem_append_right _ (List.mem_append_right _ (List.mem_append_right _ (List.mem_append_left _ h)))))))))) (by decide +kernel)
theorem mL_thrown_L_isPlaced : GoodIn wmL_thrown (va_wsS RL 300 yL_isPlaced wmL_isPlaced) := goodIn_sub (fun w h => List.mem_cons_of_mem _ (List.mem_append_right _ (List.mem_append_right _ (List.mem_append_right _ (List.mem_append_right _ (List.mem_append_right _ (List.mem_append_right _ (List.mem_append_right _ (List.mem_append_right _ (List.mem_append_right _ (List.mem_append_left _ h))))))))))) (by decide +kernel)
theorem mL_thrown_L_hatChair : GoodIn wmL_thrown (va_wsS RL 236 yL_hatChair wmL_hatChair) := goodIn_sub (fun w h => List.mem_cons_of_mem _ (List.mem_append_right _ (List.mem_append_right _ (List.mem_append_right _ (List.mem_append_right _ (List.mem_append_right _ (List.mem_append_right _ (List.mem_append_right _ (List.mem_append_right _ (List.mem_append_right _ (List.mem_append_right _ (List.mem_append_left _ h)))))))))))) (by decide +kernel)
theorem mL_thrown_L_coverSize : GoodIn wmL_thrown (va_wsS RL 243 yL_coverSize wmL_coverSize) := goodIn_sub (fun w h => List.mem_cons_of_mem _ (List.mem_append_right _ (List.mem_append_right _ (List.mem_append_right _ (List.mem_append_right _ (List.mem_append_right _ (List.mem_append_right _ (List.mem_append_right _ (List.mem_append_right _ (List.mem_append_right _ (List.mem_append_right _ (List.mem_append_right _ (List.mem_append_left _ h))))))))))))) (by decide +kernel)
theorem mL_thrown_L_idle : GoodIn wmL_thrown (va_wsS RL 238 yL_idle wmL_idle) := goodIn_sub (fun w h => List.mem_cons_of_mem _ (List.mem_append_right _ (List.mem_append_right _ (List.mem_append_right _ (List.mem_append_right _ (List.mem_append_right _ (List.mem_append_right _ (List.mem_append_right _ (List.mem_append_right _ (List.mem_append_right _ (List.mem_append_right _ (List.mem_append_right _ (List.mem_append_right _ (List.mem_append_left _ h)))))))))))))) (by decide +kernel)
theorem mL_thrown_L_leaveCoat : GoodIn wmL_thrown (va_wsS RL 182 yL_leaveCoat wmL_leaveCoat) := goodIn_sub (fun w h => List.mem_cons_of_mem _ (List.mem_append_right _ (List.mem_append_right _ (List.mem_append_right _ (List.mem_append_right _ (List.mem_append_right _ (List.mem_append_right _ (List.mem_append_right _ (List.mem_append_right _ (List.mem_append_right _ (List.mem_append_right _ (List.mem_append_right _ (List.mem_append_right _ (List.mem_append_right _ (List.mem_append_left _ h))))))))))))))) (by decide +kernel)
theorem mL_thrown_L_takeCoat : GoodIn wmL_thrown (va_wsS RL 267 yL_takeCoat wmL_takeCoat) := goodIn_sub (fun w h => List.mem_cons_of_mem _ (List.mem_append_right _ (List.mem_append_right _ (List.mem_append_right _ (List.mem_append_right _ (List.mem_append_right _ (List.mem_append_right _ (List.mem_append_right _ (List.mem_append_right _ (List.mem_append_right _ (List.mem_append_right _ (List.mem_append_right _ (List.mem_append_right _ (List.mem_append_right _ (List.mem_append_right _ (List.mem_append_left _ h)))))))))))))))) (by decide +kernel)
theorem mL_thrown_L_hasCoat : GoodIn wmL_thrown (va_wsS RL 302 yL_hasCoat wmL_hasCoat) := goodIn_sub (fun w h => List.mem_cons_of_mem _ (List.mem_append_right _ (List.mem_append_right _ (List.mem_append_right _ (List.mem_append_right _ (List.mem_append_right _ (List.mem_append_right _ (List.mem_append_right _ (List.mem_append_right _ (List.mem_append_right _ (List.mem_append_right _ (List.mem_append_right _ (List.mem_append_right _ (List.mem_append_right _ (List.mem_append_right _ (List.mem_append_right _ (List.mem_append_left _ h))))))))))))))))) (by decide +kernel)
theorem mL_thrown_L_coatChair : GoodIn wmL_thrown (va_wsS RL 241 yL_coatChair wmL_coatChair) := goodIn_sub (fun w h => List.mem_cons_of_mem _ (List.mem_append_right _ (List.mem_append_right _ (List.mem_append_right _ (List.mem_append_right _ (List.mem_append_right _ (List.mem_append_right _ (List.mem_append_right _ (List.mem_append_right _ (List.mem_append_right _ (List.mem_append_right _ (List.mem_append_right _ (List.mem_append_right _ (List.mem_append_right _ (List.mem_append_right _ (List.mem_append_right _ (List.mem_append_right _ (List.mem_append_left _ h)))))))))))))))))) (by decide +kernel)
theorem mL_thrown_L_coatCount : GoodIn wmL_thrown (va_wsS RL 254 yL_coatCount wmL_coatCount) := goodIn_sub (fun w h => List.mem_cons_of_mem _ (List.mem_append_right _ (List.mem_append_right _ (List.mem_append_right _ (List.mem_append_right _ (List.mem_append_right _ (List.mem_append_right _ (List.mem_append_right _ (List.mem_append_right _ (List.mem_append_right _ (List.mem_append_right _ (List.mem_append_right _ (List.mem_append_right _ (List.mem_append_right _ (List.mem_append_right _ (List.mem_append_right _ (List.mem_append_right _ (List.mem_append_right _ (List.mem_append_left _ h))))))))))))))))))) (by decide +kernel)
theorem mL_thrown_L_coatOwner : GoodIn wmL_thrown (va_wsS RL 256 yL_coatOwner wmL_coatOwner) := goodIn_sub (fun w h => List.mem_cons_of_mem _ (List.mem_append_right _ (List.mem_append_right _ (List.mem_append_right _ (List.mem_append_right _ (List.mem_append_right _ (List.mem_append_right _ (List.mem_append_right _ (List.mem_append_right _ (List.mem_append_right _ (List.mem_append_right _ (List.mem_append_right _ (List.mem_append_right _ (List.mem_append_right _ (List.mem_append_right _ (List.mem_append_right _ (List.mem_append_right _ (List.mem_append_right _ (List.mem_append_right _ (List.mem_append_left _ h)))))))))))))))))))) (by decide +kernel)
theorem mL_thrown_L_next : GoodIn wmL_thrown (va_wsS RL 251 yL_next wmL_next) := goodIn_sub (fun w h => List.mem_cons_of_mem _ (List.mem_append_right _ (List.mem_append_right _ (List.mem_append_right _ (List.mem_append_right _ (List.mem_append_right _ (List.mem_append_right _ (List.mem_append_right _ (List.mem_append_right _ (List.mem_append_right _ (List.mem_append_right _ (List.mem_append_right _ (List.mem_append_right _ (List.mem_append_right _ (List.mem_append_right _ (List.mem_append_right _ (List.mem_append_right _ (List.mem_append_right _ (List.mem_append_right _ (List.mem_append_right _ (List.mem_append_left _ h))))))))))))))))))))) (by decide +kernel)
theorem mL_thrown_L_nextByTime : GoodIn wmL_thrown (va_wsS RL 305 yL_nextByTime wmL_nextByTime) := goodIn_sub (fun w h => List.mem_cons_of_mem _ (List.mem_append_right _ (List.mem_append_right _ (List.mem_append_right _ (List.mem_append_right _ (List.mem_append_right _ (List.mem_append_right _ (List.mem_append_right _ (List.mem_append_right _ (List.mem_append_right _ (List.mem_append_right _ (List.mem_append_right _ (List.mem_append_right _ (List.mem_append_right _ (List.mem_append_right _ (List.mem_append_right _ (List.mem_append_right _ (List.mem_append_right _ (List.mem_append_right _ (List.mem_append_right _ (List.mem_append_right _ (List.mem_append_left _ h)))))))))))))))))))))) (by decide +kernel)
theorem mL_thrown_L_contest : GoodIn wmL_thrown (va_wsS RL 269 yL_contest wmL_contest) := goodIn_sub (fun w h => List.mem_cons_of_mem _ (List.mem_append_right _ (List.mem_append_right _ (List.mem_append_right _ (List.mem_append_right _ (List.mem_append_right _ (List.mem_append_right _ (List.mem_append_right _ (List.mem_append_right _ (List.mem_append_right _ (List.mem_append_right _ (List.mem_append_right _ (List.mem_append_right _ (List.mem_append_right _ (List.mem_append_right _ (List.mem_append_right _ (List.mem_append_right _ (List.mem_append_right _ (List.mem_append_right _ (List.mem_append_right _ (List.mem_append_right _ (List.mem_append_right _ (List.mem_append_left _ h))))))))))))))))))))))) (by decide +kernel)
theorem mL_thrown_L_wouldWin : GoodIn wmL_thrown (va_wsS RL 308 yL_wouldWin wmL_wouldWin) := goodIn_sub (fun w h => List.mem_cons_of_mem _ (List.mem_append_right _ (List.mem_append_right _ (List.mem_append_right _ (List.mem_append_right _ (List.mem_append_right _ (List.mem_append_right _ (List.mem_append_right _ (List.mem_append_right _ (List.mem_append_right _ (List.mem_append_right _ (List.mem_append_right _ (List.mem_append_right _ (List.mem_append_right _ (List.mem_append_right _ (List.mem_append_right _ (List.mem_append_right _ (List.mem_append_right _ (List.mem_append_right _ (List.mem_append_right _ (List.mem_append_right _ (List.mem_append_right _ (List.mem_append_right _ (List.mem_append_left _ h)))))))))))))))))))))))) (by decide +kernel)
theorem mL_thrown_L_pass : GoodIn wmL_thrown (va_wsS RL 184 yL_pass wmL_pass) := goodIn_sub (fun w h => List.mem_cons_of_mem _ (List.mem_append_right _ (List.mem_append_right _ (List.mem_append_right _ (List.mem_append_right _ (List.mem_append_right _ (List.mem_append_right _ (List.mem_append_right _ (List.mem_append_right _ (List.mem_append_right _ (List.mem_append_right _ (List.mem_append_right _ (List.mem_append_right _ (List.mem_append_right _ (List.mem_append_right _ (List.mem_append_right _ (List.mem_append_right _ (List.mem_append_right _ (List.mem_append_right _ (List.mem_append_right _ (List.mem_append_right _ (List.mem_append_right _ (List.mem_append_right _ (List.mem_append_right _ (List.mem_append_left _ h))))))))))))))))))))))))) (by decide +kernel)
theorem mL_thrown_L_sweep : GoodIn wmL_thrown (va_wsS RL 271 yL_sweep wmL_sweep) := goodIn_sub (fun w h => List.mem_cons_of_mem _ (List.mem_append_right _ (List.mem_append_right _ (List.mem_append_right _ (List.mem_append_right _ (List.mem_append_right _ (List.mem_append_right _ (List.mem_append_right _ (List.mem_append_right _ (List.mem_append_right _ (List.mem_append_right _ (List.mem_append_right _ (List.mem_append_right _ (List.mem_append_right _ (List.mem_append_right _ (List.mem_append_right _ (List.mem_append_right _ (List.mem_append_right _ (List.mem_append_right _ (List.mem_append_right _ (List.mem_append_right _ (List.mem_append_right _ (List.mem_append_right _ (List.mem_append_right _ (List.mem_append_right _ (List.mem_append_left _ h)))))))))))))))))))))))))) (by decide +kernel)
theorem mL_thrown_L_isCovered : GoodIn wmL_thrown (va_wsS RL 310 yL_isCovered wmL_isCovered) := goodIn_sub (fun w h => List.mem_cons_of_mem _ (List.mem_append_right _ (List.mem_append_right _ (List.mem_append_right _ (List.mem_append_right _ (List.mem_append_right _ (List.mem_append_right _ (List.mem_append_right _ (List.mem_append_right _ (List.mem_append_right _ (List.mem_append_right _ (List.mem_append_right _ (List.mem_append_right _ (List.mem_append_right _ (List.mem_append_right _ (List.mem_append_right _ (List.mem_append_right _ (List.mem_append_right _ (List.mem_append_right _ (List.mem_append_right _ (List.mem_append_right _ (List.mem_append_right _ (List.mem_append_right _ (List.mem_append_right _ (List.mem_append_right _ (List.mem_append_right _ (List.mem_append_left _ h))))))))))))))))))))))))))) (by decide +kernel)
theorem mL_thrown_L_coverer : GoodIn wmL_thrown (va_wsS RL 248 yL_coverer wmL_coverer) := goodIn_sub (fun w h => List.mem_cons_of_mem _ (List.mem_append_right _ (List.mem_append_right _ (List.mem_append_right _ (List.mem_append_right _ (List.mem_append_right _ (List.mem_append_right _ (List.mem_append_right _ (List.mem_append_right _ (List.mem_append_right _ (List.mem_append_right _ (List.mem_append_right _ (List.mem_append_right _ (List.mem_append_right _ (List.mem_append_right _ (List.mem_append_right _ (List.mem_append_right _ (List.mem_append_right _ (List.mem_append_right _ (List.mem_append_right _ (List.mem_append_right _ (List.mem_append_right _ (List.mem_append_right _ (List.mem_append_right _ (List.mem_append_right _ (List.mem_append_right _ (List.mem_append_right _ (List.mem_append_left _ h)))))))))))))))))))))))))))) (by decide +kernel)
theorem mL_thrown_L_longest : GoodIn wmL_thrown (va_wsS RL 258 yL_longest wmL_longest) := goodIn_sub (fun w h => List.mem_cons_of_mem _ (List.mem_append_right _ (List.mem_append_right _ (List.mem_append_right _ (List.mem_append_right _ (List.mem_append_right _ (List.mem_append_right _ (List.mem_append_right _ (List.mem_append_right _ (List.mem_append_right _ (List.mem_append_right _ (List.mem_append_right _ (List.mem_append_right _ (List.mem_append_right _ (List.mem_append_right _ (List.mem_append_right _ (List.mem_append_right _ (List.mem_append_right _ (List.mem_append_right _ (List.mem_append_right _ (List.mem_append_right _ (List.mem_append_right _ (List.mem_append_right _ (List.mem_append_right _ (List.mem_append_right _ (List.mem_append_right _ (List.mem_append_right _ (List.mem_append_right _ (List.mem_append_left _ h))))))))))))))))))))))))))))) (by decide +kernel)
theorem mL_thrown_L_longestByMask : GoodIn wmL_thrown (va_wsS RL 312 yL_longestByMask wmL_longestByMask) := goodIn_sub (fun w h => List.mem_cons_of_mem _ (List.mem_append_right _ (List.mem_append_right _ (List.mem_append_right _ (List.mem_append_right _ (List.mem_append_right _ (List.mem_append_right _ (List.mem_append_right _ (List.mem_append_right _ (List.mem_append_right _ (List.mem_append_right _ (List.mem_append_right _ (List.mem_append_right _ (List.mem_append_right _ (List.mem_append_right _ (List.mem_append_right _ (List.mem_append_right _ (List.mem_append_right _ (List.mem_append_right _ (List.mem_append_right _ (List.mem_append_right _ (List.mem_append_right _ (List.mem_append_right _ (List.mem_append_right _ (List.mem_append_right _ (List.mem_append_right _ (List.mem_append_right _ (List.mem_append_right _ (List.mem_append_right _ (List.mem_append_left _ h)))))))))))))))))))))))))))))) (by decide +kernel)
theorem mL_thrown_L_atRank : GoodIn wmL_thrown (va_wsS RL 245 yL_atRank wmL_atRank) := goodIn_sub (fun w h => List.mem_cons_of_mem _ (List.mem_append_right _ (List.mem_append_right _ (List.mem_append_right _ (List.mem_append_right _ (List.mem_append_right _ (List.mem_append_right _ (List.mem_append_right _ (List.mem_append_right _ (List.mem_append_right _ (List.mem_append_right _ (List.mem_append_right _ (List.mem_append_right _ (List.mem_append_right _ (List.mem_append_right _ (List.mem_append_right _ (List.mem_append_right _ (List.mem_append_right _ (List.mem_append_right _ (List.mem_append_right _ (List.mem_append_right _ (List.mem_append_right _ (List.mem_append_right _ (List.mem_append_right _ (List.mem_append_right _ (List.mem_append_right _ (List.mem_append_right _ (List.mem_append_right _ (List.mem_append_right _ (List.mem_append_right _ (List.mem_append_left _ h))))))))))))))))))))))))))))))) (by decide +kernel)
theorem mL_thrown_L_describe : GoodIn wmL_thrown (va_wsS RL 164 yL_describe wmL_describe) := goodIn_sub (fun w h => List.mem_cons_of_mem _ (List.mem_append_right _ (List.mem_append_right _ (List.mem_append_right _ (List.mem_append_right _ (List.mem_append_right _ (List.mem_append_right _ (List.mem_append_right _ (List.mem_append_right _ (List.mem_append_right _ (List.mem_append_right _ (List.mem_append_right _ (List.mem_append_right _ (List.mem_append_right _ (List.mem_append_right _ (List.mem_append_right _ (List.mem_append_right _ (List.mem_append_right _ (List.mem_append_right _ (List.mem_append_right _ (List.mem_append_right _ (List.mem_append_right _ (List.mem_append_right _ (List.mem_append_right _ (List.mem_append_right _ (List.mem_append_right _ (List.mem_append_right _ (List.mem_append_right _ (List.mem_append_right _ (List.mem_append_right _ (List.mem_append_right _ (List.mem_append_left _ h)))))))))))))))))))))))))))))))) (by decide +kernel)
theorem mL_thrown_L_lineAt : GoodIn wmL_thrown (va_wsS RL 168 yL_lineAt wmL_lineAt) := goodIn_sub (fun w h => List.mem_cons_of_mem _ (List.mem_append_right _ (List.mem_append_right _ (List.mem_append_right _ (List.mem_append_right _ (List.mem_append_right _ (List.mem_append_right _ (List.mem_append_right _ (List.mem_append_right _ (List.mem_append_right _ (List.mem_append_right _ (List.mem_append_right _ (List.mem_append_right _ (List.mem_append_right _ (List.mem_append_right _ (List.mem_append_right _ (List.mem_append_right _ (List.mem_append_right _ (List.mem_append_right _ (List.mem_append_right _ (List.mem_append_right _ (List.mem_append_right _ (List.mem_append_right _ (List.mem_append_right _ (List.mem_append_right _ (List.mem_append_right _ (List.mem_append_right _ (List.mem_append_right _ (List.mem_append_right _ (List.mem_append_right _ (List.mem_append_right _ (List.mem_append_right _ (List.mem_append_left _ h))))))))))))))))))))))))))))))))) (by decide +kernel)
theorem mL_thrown_L_append : GoodIn wmL_thrown (va_wsS RL 156 yL_append wmL_append) := goodIn_sub (fun w h => List.mem_cons_of_mem _ (List.mem_append_right _ (List.mem_append_right _ (List.mem_append_right _ (List.mem_append_right _ (List.mem_append_right _ (List.mem_append_right _ (List.mem_append_right _ (List.mem_append_right _ (List.mem_append_right _ (List.mem_append_right _ (List.mem_append_right _ (List.mem_append_right _ (List.mem_append_right _ (List.mem_append_right _ (List.mem_append_right _ (List.mem_append_right _ (List.mem_append_right _ (List.mem_append_right _ (List.mem_append_right _ (List.mem_append_right _ (List.mem_append_right _ (List.mem_append_right _ (List.mem_append_right _ (List.mem_append_right _ (List.mem_append_right _ (List.mem_append_right _ (List.mem_append_right _ (List.mem_append_right _ (List.mem_append_right _ (List.mem_append_right _ (List.mem_append_right _ (List.mem_append_right _ (List.mem_append_left _ h)))))))))))))))))))))))))))))))))) (by decide +kernel)
theorem mL_thrown_L_runs : GoodIn wmL_thrown (va_wsS RL 292 yL_runs wmL_runs) := goodIn_sub (fun w h => List.mem_cons_of_mem _ (List.mem_append_right _ (List.mem_append_right _ (List.mem_append_right _ (List.mem_append_right _ (List.mem_append_right _ (List.mem_append_right _ (List.mem_append_right _ (List.mem_append_right _ (List.mem_append_right _ (List.mem_append_right _ (List.mem_append_right _ (List.mem_append_right _ (List.mem_append_right _ (List.mem_append_right _ (List.mem_append_right _ (List.mem_append_right _ (List.mem_append_right _ (List.mem_append_right _ (List.mem_append_right _ (List.mem_append_right _ (List.mem_append_right _ (List.mem_append_right _ (List.mem_append_right _ (List.mem_append_right _ (List.mem_append_right _ (List.mem_append_right _ (List.mem_append_right _ (List.mem_append_right _ (List.mem_append_right _ (List.mem_append_right _ (List.mem_append_right _ (List.mem_append_right _ (List.mem_append_right _ (List.mem_append_left _ h))))))))))))))))))))))))))))))))))) (by decide +kernel)
theorem mL_thrown_L_errorPosition : GoodIn wmL_thrown (va_wsS RL 317 yL_errorPosition wmL_errorPosition) := goodIn_sub (fun w h => List.mem_cons_of_mem _ (List.mem_append_right _ (List.mem_append_right _ (List.mem_append_right _ (List.mem_append_right _ (List.mem_append_right _ (List.mem_append_right _ (List.mem_append_right _ (List.mem_append_right _ (List.mem_append_right _ (List.mem_append_right _ (List.mem_append_right _ (List.mem_append_right _ (List.mem_append_right _ (List.mem_append_right _ (List.mem_append_right _ (List.mem_append_right _ (List.mem_append_right _ (List.mem_append_right _ (List.mem_append_right _ (List.mem_append_right _ (List.mem_append_right _ (List.mem_append_right _ (List.mem_append_right _ (List.mem_append_right _ (List.mem_append_right _ (List.mem_append_right _ (List.mem_append_right _ (List.mem_append_right _ (List.mem_append_right _ (List.mem_append_right _ (List.mem_append_right _ (List.mem_append_right _ (List.mem_append_right _ (List.mem_append_right _ (List.mem_append_left _ h)))))))))))))))))))))))))))))))))))) (by decide +kernel)
theorem mL_thrown_L_failedCommand : GoodIn wmL_thrown (va_wsS RL 321 yL_failedCommand wmL_failedCommand) := goodIn_sub (fun w h => List.mem_cons_of_mem _ (List.mem_append_right _ (List.mem_append_right _ (List.mem_append_right _ (List.mem_append_right _ (List.mem_append_right _ (List.mem_append_right _ (List.mem_append_right _ (List.mem_append_right _ (List.mem_append_right _ (List.mem_append_right _ (List.mem_append_right _ (List.mem_append_right _ (List.mem_append_right _ (List.mem_append_right _ (List.mem_append_right _ (List.mem_append_right _ (List.mem_append_right _ (List.mem_append_right _ (List.mem_append_right _ (List.mem_append_right _ (List.mem_append_right _ (List.mem_append_right _ (List.mem_append_right _ (List.mem_append_right _ (List.mem_append_right _ (List.mem_append_right _ (List.mem_append_right _ (List.mem_append_right _ (List.mem_append_right _ (List.mem_append_right _ (List.mem_append_right _ (List.mem_append_right _ (List.mem_append_right _ (List.mem_append_right _ (List.mem_append_right _ (List.mem_append_left _ h))))))))))))))))))))))))))))))))))))) (by decide +kernel)
theorem mL_thrown_L_failedException : GoodIn wmL_thrown (va_wsS RL 323 yL_failedException wmL_failedException) := goodIn_sub (fun w h => List.mem_cons_of_mem _ (List.mem_append_right _ (List.mem_append_right _ (List.mem_append_right _ (List.mem_append_right _ (List.mem_append_right _ (List.mem_append_right _ (List.mem_append_right _ (List.mem_append_right _ (List.mem_append_right _ (List.mem_append_right _ (List.mem_append_right _ (List.mem_append_right _ (List.mem_append_right _ (List.mem_append_right _ (List.mem_append_right _ (List.mem_append_right _ (List.mem_append_right _ (List.mem_append_right _ (List.mem_append_right _ (List.mem_append_right _ (List.mem_append_right _ (List.mem_append_right _ (List.mem_append_right _ (List.mem_append_right _ (List.mem_append_right _ (List.mem_append_right _ (List.mem_append_right _ (List.mem_append_right _ (List.mem_append_right _ (List.mem_append_right _ (List.mem_append_right _ (List.mem_append_right _ (List.mem_append_right _ (List.mem_append_right _ (List.mem_append_right _ (List.mem_append_right _ (h)))))))))))))))))))))))))))))))))))))) (by decide +kernel)
set_option maxHeartbeats 4000000 in
set_option maxRecDepth 100000 in
theorem kL_thrown (l : Launch) (hfl : l.stackTraces = false) (D : va_G) (ca : Nat → ClassId) (en ks vs : Nat → Nat) (ai : Nat → Nat → Nat) (ad bd : Nat → Nat) (lk lv : Nat → Nat) (sz : Nat) (u : OS) (nn9 : Int) (L9 : List HS) (hn9 : nn9 ≤ 800000) (hu : LI nn9 L9 u) (hT5 : og5 u = Cnew) : Met l yL_thrown wmL_thrown ({ frames := 11, cells := 5600, slots := 33600, locals := 248 }) (MGPc D ca (YX en ks vs lk lv) sz (OW ca en ai ad bd u) [.ref (ad 0)]) (va_Qi (fun r v => r = 1 ∧ (∃ L, LI nn9 L v) ∧ og0 v = og0 u ∧ q1 (og5 v) = 0) (MB D ca (va_A (OW ca en ai ad bd u) sz) (fun v => OW ca en ai ad bd v)) (va_A (OW ca en ai ad bd u) sz)) 5600 33600 (va_A (OW ca en ai ad bd u) sz) := by
  refine Met.ofW (cc := cL_thrown) (maxL := 7) (ret := some .boolean) (by decide) rfl ?_
  intro p e s m args below meth c s₁ B hml hv
  obtain ⟨rfl, hsz, hP, hK, hD0, hY⟩ := hv
  have hx := B.exec
  have hb := B.bytes
  have hr := B.returns
  have hts := atoms_spec (ws := wmL_thrown) B.pre
  have hown : s.vm.findClass RL = some m.cls := findClass_of_methodNamed B.named
  have hlocks := B.notSynchronized
  subst hsz
  have hoi : OI u := hu.1
  have hD := hD0.self (sz := s.heap.size)
  generalize hAe : va_A (OW ca en ai ad bd u) s.heap.size = A at hD hY ⊢
  have hX := hY.1
  have hA : ∀ q : Nat, s.heap.size ≤ q → A q := fun q h => by rw [← hAe]; exact Or.inr h
  have hS : va_S A s.heap s.heap [] := va_S.rf
  have c914 : ∀  (H : Heap) (locs : List Loc) (hP : va_P D vwCl (OW ca en ai ad bd u) H) (hD : va_D A (OW ca en ai ad bd u)) (hS : va_S A s.heap H locs) (ls : Array Slot) (hl : lv_has ls 7 [(4, .int 1), (3, .int (h9 (og0 u))), (1, .long (asks (og0 u))), (0, .ref (ad 0))]), W p l e (headSpec wmL_thrown ({ frames := 11, cells := 5600, slots := 33600, locals := 248 })).room s m ([.ref (ad 0)] : List Value).toArray below meth c H locs (1740 + 224 * 8) (6 * (1740 + 224 * 8)) (MQ below (va_Qi (fun r v => r = 1 ∧ (∃ L, LI nn9 L v) ∧ og0 v = og0 u ∧ q1 (og5 v) = 0) (MB D ca A (fun v => OW ca en ai ad bd v)) A) ([.ref (ad 0)] : List Value).toArray s 5600 33600 A) (F0 m 914 ls []) := by
    intro H locs hP hD hS ls hl
    obtain ⟨w1, hw1, i1, o1, -, -, x1, x9⟩ := thr_q hu hn9 hT5
    obtain ⟨w2, hw2, i2, o2, -, -, x2, y9, y10, y11⟩ := thr_p i1 hn9 x1
    obtain ⟨w3, hw3, i3, o3, -, -, x3, z9, z10⟩ := thr_r i2 hn9 x2
    have e0 : og0 w3 = og0 u := o3.trans (o2.trans o1)
    refine lv_iload hx hb dL_thrown_914 (lv_at hl 0 rfl) ?_
    refine lv_if_eq (tgt := 1009) hx hb dL_thrown_916 (by decide) (fun q => absurd q (by decide)) (fun _ => ?_)
    refine lv_aload_n hx hb dL_thrown_919 rfl (lv_at hl 3 rfl) ?_
    refine va_ldcSW hx hb hown (hY.2.1 3 (by decide)).1 dL_thrown_920 ?_
    refine hcGp (mc := 122) (ms := 732) (X := TXX en ks vs (lk 3) (lv 3) (lawN 3) (lawF 3)) (wr := []) (wc := fun v => OW ca en ai ad bd v) (u := u) (G := ((-1001), w1)) (As := [.ref (ad 0), .ref (lk 3)]) (rest := []) (TXX_ok en ks vs (lk 3) (lv 3) (lawN 3) (lawF 3)) ⟨hx, hb, hml, hown, hts⟩ (by rw [← hw1]; exact kL_runs l hfl D ca en ks vs ai ad bd _ u (lk 3) (lv 3) (lawN 3) (lawF 3) (okT_law 3 (by decide)) nn9 L9 hu (by rw [hT5]; rfl)) (va_cwS 2 hts mL_thrown_L_runs rfl rfl rfl (by decide +kernel) ⟨Nat.le_of_ble_eq_true rfl, Nat.le_of_ble_eq_true rfl⟩) hK hP hD hS hA (X_now (TXX_ok en ks vs (lk 3) (lv 3) (lawN 3) (lawF 3)) (YX_tx hY 3 (by decide)) hS (J_free (wr := []) (List.Perm.refl _) hD hS hA)) (List.Perm.refl _) rfl hl.1 rfl (Nat.le_of_ble_eq_true rfl) ⟨by show _ ≤ 5600; omega, by show _ ≤ 33600; omega⟩ dL_thrown_923 (fun H locs hP hD hS => ?_)
    refine W.widen (k := ((1740 + 224 * 8) + 122)) (n := (6 * (1740 + 224 * 8) + 732)) (by omega) (by omega) ?_
    refine lv_sipush (v := (-1001)) hx hb dL_thrown_926 (by decide) ?_
    refine lv_icmp_ne (tgt := 1009) hx hb dL_thrown_929 (by decide) (fun q => absurd rfl q) (fun _ => ?_)
    refine lv_aload_n hx hb dL_thrown_932 rfl (lv_at hl 3 rfl) ?_
    refine hcLi (wr := []) (u := w1) (G := (0, w1)) (As := [.ref (ad 0)]) (rest := []) ⟨hx, hb, hml, hown, hts⟩ (by rw [← ep_at x9 (by decide)]; exact kL_errorPosition l hfl D ca en ks vs ai ad bd _ w1 i1.1) (vx_cwSW 1 hts mL_thrown_L_errorPosition rfl rfl rfl (by decide +kernel) ⟨Nat.le_of_ble_eq_true rfl, Nat.le_of_ble_eq_true rfl⟩) hK hP hD hS hA hX (List.Perm.refl _) rfl hl.1 rfl (Nat.le_of_ble_eq_true rfl) ⟨by show _ ≤ 5600; omega, by show _ ≤ 33600; omega⟩ dL_thrown_933 (fun H locs hP hD hS => ?_)
    refine W.widen (k := ((1740 + 224 * 8) + 124)) (n := (6 * (1740 + 224 * 8) + 744)) (by omega) (by omega) ?_
    refine lv_if_ne (tgt := 1009) hx hb dL_thrown_936 (by decide) (fun q => absurd rfl q) (fun _ => ?_)
    refine lv_aload_n hx hb dL_thrown_939 rfl (lv_at hl 3 rfl) ?_
    refine va_ldcSW hx hb hown (hY.2.1 4 (by decide)).1 dL_thrown_940 ?_
    refine hcGp (mc := 122) (ms := 732) (X := TXX en ks vs (lk 4) (lv 4) (lawN 4) (lawF 4)) (wr := []) (wc := fun v => OW ca en ai ad bd v) (u := w1) (G := ((-1002), w2)) (As := [.ref (ad 0), .ref (lk 4)]) (rest := []) (TXX_ok en ks vs (lk 4) (lv 4) (lawN 4) (lawF 4)) ⟨hx, hb, hml, hown, hts⟩ (by rw [← hw2]; exact kL_runs l hfl D ca en ks vs ai ad bd _ w1 (lk 4) (lv 4) (lawN 4) (lawF 4) (okT_law 4 (by decide)) nn9 L9 i1 (by rw [x1]; rfl)) (va_cwS 2 hts mL_thrown_L_runs rfl rfl rfl (by decide +kernel) ⟨Nat.le_of_ble_eq_true rfl, Nat.le_of_ble_eq_true rfl⟩) hK hP hD hS hA (X_now (TXX_ok en ks vs (lk 4) (lv 4) (lawN 4) (lawF 4)) (YX_tx hY 4 (by decide)) hS (J_free (wr := []) (List.Perm.refl _) hD hS hA)) (List.Perm.refl _) rfl hl.1 rfl (Nat.le_of_ble_eq_true rfl) ⟨by show _ ≤ 5600; omega, by show _ ≤ 33600; omega⟩ dL_thrown_943 (fun H locs hP hD hS => ?_)
    refine W.widen (k := ((1740 + 224 * 8) + 246)) (n := (6 * (1740 + 224 * 8) + 1476)) (by omega) (by omega) ?_
    refine lv_sipush (v := (-1002)) hx hb dL_thrown_946 (by decide) ?_
    refine lv_icmp_ne (tgt := 1009) hx hb dL_thrown_949 (by decide) (fun q => absurd rfl q) (fun _ => ?_)
    refine lv_aload_n hx hb dL_thrown_952 rfl (lv_at hl 3 rfl) ?_
    refine hcLi (wr := []) (u := w2) (G := (2, w2)) (As := [.ref (ad 0)]) (rest := []) ⟨hx, hb, hml, hown, hts⟩ (by rw [← fc_at y10 (by decide)]; exact kL_failedCommand l hfl D ca en ks vs ai ad bd _ w2 i2.1) (vx_cwSW 1 hts mL_thrown_L_failedCommand rfl rfl rfl (by decide +kernel) ⟨Nat.le_of_ble_eq_true rfl, Nat.le_of_ble_eq_true rfl⟩) hK hP hD hS hA hX (List.Perm.refl _) rfl hl.1 rfl (Nat.le_of_ble_eq_true rfl) ⟨by show _ ≤ 5600; omega, by show _ ≤ 33600; omega⟩ dL_thrown_953 (fun H locs hP hD hS => ?_)
    refine W.widen (k := ((1740 + 224 * 8) + 248)) (n := (6 * (1740 + 224 * 8) + 1488)) (by omega) (by omega) ?_
    refine lv_iconst (v := 2) hx hb dL_thrown_956 (by decide) ?_
    refine lv_icmp_ne (tgt := 1009) hx hb dL_thrown_957 (by decide) (fun q => absurd rfl q) (fun _ => ?_)
    refine lv_aload_n hx hb dL_thrown_960 rfl (lv_at hl 3 rfl) ?_
    refine hcLi (wr := []) (u := w2) (G := (1, w2)) (As := [.ref (ad 0)]) (rest := []) ⟨hx, hb, hml, hown, hts⟩ (by rw [← fe_at y11 (by decide)]; exact kL_failedException l hfl D ca en ks vs ai ad bd _ w2 i2.1) (vx_cwSW 1 hts mL_thrown_L_failedException rfl rfl rfl (by decide +kernel) ⟨Nat.le_of_ble_eq_true rfl, Nat.le_of_ble_eq_true rfl⟩) hK hP hD hS hA hX (List.Perm.refl _) rfl hl.1 rfl (Nat.le_of_ble_eq_true rfl) ⟨by show _ ≤ 5600; omega, by show _ ≤ 33600; omega⟩ dL_thrown_961 (fun H locs hP hD hS => ?_)
    refine W.widen (k := ((1740 + 224 * 8) + 250)) (n := (6 * (1740 + 224 * 8) + 1500)) (by omega) (by omega) ?_
    refine lv_iconst (v := 1) hx hb dL_thrown_964 (by decide) ?_
    refine lv_icmp_ne (tgt := 1009) hx hb dL_thrown_965 (by decide) (fun q => absurd rfl q) (fun _ => ?_)
    refine lv_aload_n hx hb dL_thrown_968 rfl (lv_at hl 3 rfl) ?_
    refine va_ldcSW hx hb hown (hY.2.1 5 (by decide)).1 dL_thrown_969 ?_
    refine hcGp (mc := 122) (ms := 732) (X := TXX en ks vs (lk 5) (lv 5) (lawN 5) (lawF 5)) (wr := []) (wc := fun v => OW ca en ai ad bd v) (u := w2) (G := ((-1002), w3)) (As := [.ref (ad 0), .ref (lk 5)]) (rest := []) (TXX_ok en ks vs (lk 5) (lv 5) (lawN 5) (lawF 5)) ⟨hx, hb, hml, hown, hts⟩ (by rw [← hw3]; exact kL_runs l hfl D ca en ks vs ai ad bd _ w2 (lk 5) (lv 5) (lawN 5) (lawF 5) (okT_law 5 (by decide)) nn9 L9 i2 (by rw [x2]; rfl)) (va_cwS 2 hts mL_thrown_L_runs rfl rfl rfl (by decide +kernel) ⟨Nat.le_of_ble_eq_true rfl, Nat.le_of_ble_eq_true rfl⟩) hK hP hD hS hA (X_now (TXX_ok en ks vs (lk 5) (lv 5) (lawN 5) (lawF 5)) (YX_tx hY 5 (by decide)) hS (J_free (wr := []) (List.Perm.refl _) hD hS hA)) (List.Perm.refl _) rfl hl.1 rfl (Nat.le_of_ble_eq_true rfl) ⟨by show _ ≤ 5600; omega, by show _ ≤ 33600; omega⟩ dL_thrown_972 (fun H locs hP hD hS => ?_)
    refine W.widen (k := ((1740 + 224 * 8) + 372)) (n := (6 * (1740 + 224 * 8) + 2232)) (by omega) (by omega) ?_
    refine lv_sipush (v := (-1002)) hx hb dL_thrown_975 (by decide) ?_
    refine lv_icmp_ne (tgt := 1009) hx hb dL_thrown_978 (by decide) (fun q => absurd rfl q) (fun _ => ?_)
    refine lv_aload_n hx hb dL_thrown_981 rfl (lv_at hl 3 rfl) ?_
    refine hcLi (wr := []) (u := w3) (G := (1, w3)) (As := [.ref (ad 0)]) (rest := []) ⟨hx, hb, hml, hown, hts⟩ (by rw [← fc_at z10 (by decide)]; exact kL_failedCommand l hfl D ca en ks vs ai ad bd _ w3 i3.1) (vx_cwSW 1 hts mL_thrown_L_failedCommand rfl rfl rfl (by decide +kernel) ⟨Nat.le_of_ble_eq_true rfl, Nat.le_of_ble_eq_true rfl⟩) hK hP hD hS hA hX (List.Perm.refl _) rfl hl.1 rfl (Nat.le_of_ble_eq_true rfl) ⟨by show _ ≤ 5600; omega, by show _ ≤ 33600; omega⟩ dL_thrown_982 (fun H locs hP hD hS => ?_)
    refine W.widen (k := ((1740 + 224 * 8) + 374)) (n := (6 * (1740 + 224 * 8) + 2244)) (by omega) (by omega) ?_
    refine lv_iconst (v := 1) hx hb dL_thrown_985 (by decide) ?_
    refine lv_icmp_ne (tgt := 1009) hx hb dL_thrown_986 (by decide) (fun q => absurd rfl q) (fun _ => ?_)
    refine lv_aload_n hx hb dL_thrown_989 rfl (lv_at hl 3 rfl) ?_
    refine hcLi (wr := []) (u := w3) (G := (0, w3)) (As := [.ref (ad 0)]) (rest := []) ⟨hx, hb, hml, hown, hts⟩ (by rw [← ep_at (z9.trans (y9.trans x9)) (by decide)]; exact kL_errorPosition l hfl D ca en ks vs ai ad bd _ w3 i3.1) (vx_cwSW 1 hts mL_thrown_L_errorPosition rfl rfl rfl (by decide +kernel) ⟨Nat.le_of_ble_eq_true rfl, Nat.le_of_ble_eq_true rfl⟩) hK hP hD hS hA hX (List.Perm.refl _) rfl hl.1 rfl (Nat.le_of_ble_eq_true rfl) ⟨by show _ ≤ 5600; omega, by show _ ≤ 33600; omega⟩ dL_thrown_990 (fun H locs hP hD hS => ?_)
    refine W.widen (k := ((1740 + 224 * 8) + 376)) (n := (6 * (1740 + 224 * 8) + 2256)) (by omega) (by omega) ?_
    refine lv_if_ne (tgt := 1009) hx hb dL_thrown_993 (by decide) (fun q => absurd rfl q) (fun _ => ?_)
    refine lv_aload_n hx hb dL_thrown_996 rfl (lv_at hl 3 rfl) ?_
    refine hcGlp (mc := 1644) (ms := 9864) (X := HX en ks vs) (wr := []) (wc := fun v => OW ca en ai ad bd v) (u := w3) (G := (asks (og0 w3), w3)) (As := [.ref (ad 0)]) (rest := []) (HX_ok en ks vs) ⟨hx, hb, hml, hown, hts⟩ (kL_asks l hfl D ca en ks vs ai ad bd _ w3 i3.1) (va_cwS 1 hts mL_thrown_L_asks rfl rfl rfl (by decide +kernel) ⟨Nat.le_of_ble_eq_true rfl, Nat.le_of_ble_eq_true rfl⟩) hK hP hD hS hA (X_now (HX_ok en ks vs) hX hS (J_free (wr := []) (List.Perm.refl _) hD hS hA)) (List.Perm.refl _) rfl hl.1 rfl (Nat.le_of_ble_eq_true rfl) ⟨by show _ ≤ 5600; omega, by show _ ≤ 33600; omega⟩ dL_thrown_997 (fun H locs hP hD hS => ?_)
    refine W.widen (k := ((1740 + 224 * 8) + 2020)) (n := (6 * (1740 + 224 * 8) + 12120)) (by omega) (by omega) ?_
    refine lv_lload_n hx hb dL_thrown_1000 rfl (lv_at hl 2 rfl) ?_
    refine W.lcmp hx hb dL_thrown_1001 ?_
    refine lv_to (y := 0) (by rw [e0]; exact lg_self _) ?_
    refine lv_if_ne (tgt := 1009) hx hb dL_thrown_1002 (by decide) (fun q => absurd rfl q) (fun _ => ?_)
    refine lv_iconst (v := 1) hx hb dL_thrown_1005 (by decide) ?_
    refine lv_goto (tgt := 1010) hx hb dL_thrown_1006 (by decide) ?_
    refine W.widen (k := 5600) (n := 33600) (by omega) (by omega) ?_
    exact W.zret (ty := .boolean) (v := 1) hx hb hr (by decide) (fun t ht hW => ⟨⟨1, w3, rfl, ⟨rfl, ⟨L9, i3⟩, e0, x3⟩, by rw [ht]; exact hP, va_K.moved hW.alike hK, hD⟩, hS.F ht⟩) hS.2.2 dL_thrown_1010
  have c517 : ∀ (q k : Nat) (hqk : q + k = 8) (H : Heap) (locs : List Loc) (hP : va_P D vwCl (OW ca en ai ad bd u) H) (hD : va_D A (OW ca en ai ad bd u)) (hS : va_S A s.heap H locs) (ls : Array Slot) (hl : lv_has ls 7 [(5, .int (nI k)), (4, .int 1), (3, .int (h9 (og0 u))), (1, .long (asks (og0 u))), (0, .ref (ad 0))]), W p l e (headSpec wmL_thrown ({ frames := 11, cells := 5600, slots := 33600, locals := 248 })).room s m ([.ref (ad 0)] : List Value).toArray below meth c H locs (1740 + 224 * k) (6 * (1740 + 224 * k)) (MQ below (va_Qi (fun r v => r = 1 ∧ (∃ L, LI nn9 L v) ∧ og0 v = og0 u ∧ q1 (og5 v) = 0) (MB D ca A (fun v => OW ca en ai ad bd v)) A) ([.ref (ad 0)] : List Value).toArray s 5600 33600 A) (F0 m 517 ls []) := by
    intro q
    induction q with
    | zero =>
      intro k hqk H locs hP hD hS ls hl
      obtain rfl : 8 = k := by omega
      refine lv_iload hx hb dL_thrown_517 (lv_at hl 0 rfl) ?_
      refine lv_iload_n hx hb dL_thrown_519 rfl (lv_at hl 2 rfl) ?_
      refine lv_icmp_ge (tgt := 914) hx hb dL_thrown_520 (by decide) (fun _ => ?_) (fun q => absurd hoi.1.2 q) 
      exact c914 _ _ hP hD hS ls (lv_sub hl [1, 2, 3, 4] rfl)
    | succ q ih =>
      intro k hqk H locs hP hD hS ls hl
      by_cases c520 : h9 (og0 u) ≤ nI k
      · refine lv_iload hx hb dL_thrown_517 (lv_at hl 0 rfl) ?_
        refine lv_iload_n hx hb dL_thrown_519 rfl (lv_at hl 2 rfl) ?_
        refine lv_icmp_ge (tgt := 914) hx hb dL_thrown_520 (by decide) (fun _ => ?_) (fun q => absurd c520 q) 
        refine W.widen (k := (1740 + 224 * 8)) (n := (6 * (1740 + 224 * 8))) (by omega) (by omega) ?_
        exact c914 _ _ hP hD hS ls (lv_sub hl [1, 2, 3, 4] rfl)
      have hk : k < 8 := by omega
      have hg : ¬ fX3_hasGuest (og0 u) (nI k) = 0 := hasG hk c520
      have c786 : ∀ (r j : Nat) (hrj : r + j = 20) (H : Heap) (locs : List Loc) (hP : va_P D vwCl (OW ca en ai ad bd u) H) (hD : va_D A (OW ca en ai ad bd u)) (hS : va_S A s.heap H locs) (ls : Array Slot) (hl : lv_has ls 7 [(6, .int (nI j)), (5, .int (nI k)), (4, .int 1), (3, .int (h9 (og0 u))), (1, .long (asks (og0 u))), (0, .ref (ad 0))]), W p l e (headSpec wmL_thrown ({ frames := 11, cells := 5600, slots := 33600, locals := 248 })).room s m ([.ref (ad 0)] : List Value).toArray below meth c H locs (1740 + 224 * k + 24 + 10 * j) (6 * (1740 + 224 * k + 24 + 10 * j)) (MQ below (va_Qi (fun r v => r = 1 ∧ (∃ L, LI nn9 L v) ∧ og0 v = og0 u ∧ q1 (og5 v) = 0) (MB D ca A (fun v => OW ca en ai ad bd v)) A) ([.ref (ad 0)] : List Value).toArray s 5600 33600 A) (F0 m 786 ls []) := by
        intro r
        induction r with
        | zero =>
          intro j hrj H locs hP hD hS ls hl
          obtain rfl : 20 = j := by omega
          refine lv_iload hx hb dL_thrown_786 (lv_at hl 0 rfl) ?_
          refine lv_bipush (v := 20) hx hb dL_thrown_788 (by decide) ?_
          refine lv_icmp_ge (tgt := 908) hx hb dL_thrown_790 (by decide) (fun _ => ?_) (fun q => absurd (by decide) q) 
          refine lv_iinc (v := nI (k + 1)) (lv' := [(5, .int (nI (k + 1))), (6, .int (nI 20)), (4, .int 1), (3, .int (h9 (og0 u))), (1, .long (asks (og0 u))), (0, .ref (ad 0))]) hx hb dL_thrown_908 hl (k := 1) rfl (nI_1 k) (by decide) rfl (fun ls hl => ?_)
          refine lv_goto (tgt := 517) hx hb dL_thrown_911 (by decide) ?_
          refine W.widen (k := (1740 + 224 * (k + 1))) (n := (6 * (1740 + 224 * (k + 1)))) (by omega) (by omega) ?_
          exact ih (k + 1) (by omega) _ _ hP hD hS ls (lv_sub hl [0, 2, 3, 4, 5] rfl)
        | succ r ij =>
          intro j hrj H locs hP hD hS ls hl
          have hc : j < 40 := by omega
          by_cases v : fX3_covererAt (og0 u) (nI j) = -1
          · refine lv_iload hx hb dL_thrown_786 (lv_at hl 0 rfl) ?_
            refine lv_bipush (v := 20) hx hb dL_thrown_788 (by decide) ?_
            refine lv_icmp_ge (tgt := 908) hx hb dL_thrown_790 (by decide) (fun q => absurd q (show ¬ (20 : Int32) ≤ nI j from nI_ge (b := 20) (by omega) (by decide))) (fun _ => ?_)
            refine lv_aload_n hx hb dL_thrown_793 rfl (lv_at hl 5 rfl) ?_
            refine lv_iload hx hb dL_thrown_794 (lv_at hl 0 rfl) ?_
            refine hcLi (wr := []) (u := u) (G := (0, u)) (As := [.ref (ad 0), .int (nI j)]) (rest := []) ⟨hx, hb, hml, hown, hts⟩ (by rw [← (show wrb (fX5_isCovered u (nI j)) = (0, u) from (rd_isCovered u (nI j)).trans (by rw [z_isCovered hc, if_pos v]))]; exact kL_isCovered l hfl D ca en ks vs ai ad bd _ u (nI j) hoi) (vx_cwSW 2 hts mL_thrown_L_isCovered rfl rfl rfl (by decide +kernel) ⟨Nat.le_of_ble_eq_true rfl, Nat.le_of_ble_eq_true rfl⟩) hK hP hD hS hA hX (List.Perm.refl _) rfl hl.1 rfl (Nat.le_of_ble_eq_true rfl) ⟨by show _ ≤ 5600; omega, by show _ ≤ 33600; omega⟩ dL_thrown_796 (fun H locs hP hD hS => ?_)
            refine W.widen (k := ((1740 + 224 * k + 24 + 10 * j) + 2)) (n := (6 * (1740 + 224 * k + 24 + 10 * j) + 12)) (by omega) (by omega) ?_
            refine lv_if_ne (tgt := 867) hx hb dL_thrown_799 (by decide) (fun q => absurd rfl q) (fun _ => ?_)
            refine lv_iload hx hb dL_thrown_802 (lv_at hl 2 rfl) ?_
            refine lv_if_eq (tgt := 861) hx hb dL_thrown_804 (by decide) (fun q => absurd q (by decide)) (fun _ => ?_)
            refine lv_aload_n hx hb dL_thrown_807 rfl (lv_at hl 5 rfl) ?_
            refine lv_iload hx hb dL_thrown_808 (lv_at hl 1 rfl) ?_
            refine lv_iload hx hb dL_thrown_810 (lv_at hl 0 rfl) ?_
            refine hcLi (wr := []) (u := u) (G := ((-1002), u)) (As := [.ref (ad 0), .int (nI k), .int (nI j)]) (rest := []) ⟨hx, hb, hml, hown, hts⟩ (by rw [← z_contest2 (w := u) hc hg v]; exact kL_contest l hfl D ca en ks vs ai ad bd _ u (nI k) (nI j) hoi) (vx_cwSW 3 hts mL_thrown_L_contest rfl rfl rfl (by decide +kernel) ⟨Nat.le_of_ble_eq_true rfl, Nat.le_of_ble_eq_true rfl⟩) hK hP hD hS hA hX (List.Perm.refl _) rfl hl.1 rfl (Nat.le_of_ble_eq_true rfl) ⟨by show _ ≤ 5600; omega, by show _ ≤ 33600; omega⟩ dL_thrown_812 (fun H locs hP hD hS => ?_)
            refine W.widen (k := ((1740 + 224 * k + 24 + 10 * j) + 4)) (n := (6 * (1740 + 224 * k + 24 + 10 * j) + 24)) (by omega) (by omega) ?_
            refine lv_sipush (v := (-1002)) hx hb dL_thrown_815 (by decide) ?_
            refine lv_icmp_ne (tgt := 861) hx hb dL_thrown_818 (by decide) (fun q => absurd rfl q) (fun _ => ?_)
            refine lv_aload_n hx hb dL_thrown_821 rfl (lv_at hl 5 rfl) ?_
            refine lv_iload hx hb dL_thrown_822 (lv_at hl 0 rfl) ?_
            refine hcLi (wr := []) (u := u) (G := ((-1002), u)) (As := [.ref (ad 0), .int (nI j)]) (rest := []) ⟨hx, hb, hml, hown, hts⟩ (by rw [← (show wrp (fX5_covererOf u (nI j)) = ((-1002), u) from (rd_covererOf u (nI j)).trans (by rw [z_coverer hc v]))]; exact kL_coverer l hfl D ca en ks vs ai ad bd _ u (nI j) hoi) (vx_cwSW 2 hts mL_thrown_L_coverer rfl rfl rfl (by decide +kernel) ⟨Nat.le_of_ble_eq_true rfl, Nat.le_of_ble_eq_true rfl⟩) hK hP hD hS hA hX (List.Perm.refl _) rfl hl.1 rfl (Nat.le_of_ble_eq_true rfl) ⟨by show _ ≤ 5600; omega, by show _ ≤ 33600; omega⟩ dL_thrown_824 (fun H locs hP hD hS => ?_)
            refine W.widen (k := ((1740 + 224 * k + 24 + 10 * j) + 6)) (n := (6 * (1740 + 224 * k + 24 + 10 * j) + 36)) (by omega) (by omega) ?_
            refine lv_sipush (v := (-1002)) hx hb dL_thrown_827 (by decide) ?_
            refine lv_icmp_ne (tgt := 861) hx hb dL_thrown_830 (by decide) (fun q => absurd rfl q) (fun _ => ?_)
            by_cases e5 : h5 (og0 u) k = -1
            · refine lv_aload_n hx hb dL_thrown_833 rfl (lv_at hl 5 rfl) ?_
              refine lv_iload hx hb dL_thrown_834 (lv_at hl 1 rfl) ?_
              refine hcLi (wr := []) (u := u) (G := (0, u)) (As := [.ref (ad 0), .int (nI k)]) (rest := []) ⟨hx, hb, hml, hown, hts⟩ (by rw [← (show wrb (fX5_hasCoatLeft u (nI k)) = (0, u) from (rd_hasCoatLeft u (nI k)).trans (by rw [z_hasCoat hk hg, if_pos e5]))]; exact kL_hasCoat l hfl D ca en ks vs ai ad bd _ u (nI k) hoi) (vx_cwSW 2 hts mL_thrown_L_hasCoat rfl rfl rfl (by decide +kernel) ⟨Nat.le_of_ble_eq_true rfl, Nat.le_of_ble_eq_true rfl⟩) hK hP hD hS hA hX (List.Perm.refl _) rfl hl.1 rfl (Nat.le_of_ble_eq_true rfl) ⟨by show _ ≤ 5600; omega, by show _ ≤ 33600; omega⟩ dL_thrown_836 (fun H locs hP hD hS => ?_)
              refine W.widen (k := ((1740 + 224 * k + 24 + 10 * j) + 8)) (n := (6 * (1740 + 224 * k + 24 + 10 * j) + 48)) (by omega) (by omega) ?_
              refine lv_iconst (v := 1) hx hb dL_thrown_839 (by decide) ?_
              refine lv_icmp_eq (tgt := 857) hx hb dL_thrown_840 (by decide) (fun q => absurd (show (0 : Int32) = 1 from q) (by decide)) (fun _ => ?_)
              refine lv_aload_n hx hb dL_thrown_843 rfl (lv_at hl 5 rfl) ?_
              refine lv_iload hx hb dL_thrown_844 (lv_at hl 1 rfl) ?_
              refine lv_iload hx hb dL_thrown_846 (lv_at hl 0 rfl) ?_
              refine hcLi (wr := []) (u := u) (G := ((-1003), u)) (As := [.ref (ad 0), .int (nI k), .int (nI j)]) (rest := []) ⟨hx, hb, hml, hown, hts⟩ (by rw [← z_leave3 (w := u) hk hc hg e5 (Or.inl v)]; exact kL_leaveCoat l hfl D ca en ks vs ai ad bd _ u (nI k) (nI j) hoi) (vx_cwSW 3 hts mL_thrown_L_leaveCoat rfl rfl rfl (by decide +kernel) ⟨Nat.le_of_ble_eq_true rfl, Nat.le_of_ble_eq_true rfl⟩) hK hP hD hS hA hX (List.Perm.refl _) rfl hl.1 rfl (Nat.le_of_ble_eq_true rfl) ⟨by show _ ≤ 5600; omega, by show _ ≤ 33600; omega⟩ dL_thrown_848 (fun H locs hP hD hS => ?_)
              refine W.widen (k := ((1740 + 224 * k + 24 + 10 * j) + 10)) (n := (6 * (1740 + 224 * k + 24 + 10 * j) + 60)) (by omega) (by omega) ?_
              refine lv_sipush (v := (-1003)) hx hb dL_thrown_851 (by decide) ?_
              refine lv_icmp_ne (tgt := 861) hx hb dL_thrown_854 (by decide) (fun q => absurd rfl q) (fun _ => ?_)
              refine lv_iconst (v := 1) hx hb dL_thrown_857 (by decide) ?_
              refine lv_goto (tgt := 862) hx hb dL_thrown_858 (by decide) ?_
              refine lv_istore (lv' := [(4, .int 1), (6, .int (nI j)), (5, .int (nI k)), (3, .int (h9 (og0 u))), (1, .long (asks (og0 u))), (0, .ref (ad 0))]) hx hb dL_thrown_862 hl (by decide) rfl (fun ls hl => ?_)
              refine lv_goto (tgt := 902) hx hb dL_thrown_864 (by decide) ?_
              refine lv_iinc (v := nI (j + 1)) (lv' := [(6, .int (nI (j + 1))), (4, .int 1), (5, .int (nI k)), (3, .int (h9 (og0 u))), (1, .long (asks (og0 u))), (0, .ref (ad 0))]) hx hb dL_thrown_902 hl (k := 1) rfl (nI_1 j) (by decide) rfl (fun ls hl => ?_)
              refine lv_goto (tgt := 786) hx hb dL_thrown_905 (by decide) ?_
              refine W.widen (k := (1740 + 224 * k + 24 + 10 * (j + 1))) (n := (6 * (1740 + 224 * k + 24 + 10 * (j + 1)))) (by omega) (by omega) ?_
              exact ij (j + 1) (by omega) _ _ hP hD hS ls (lv_sub hl [0, 2, 1, 3, 4, 5] rfl)
            · refine lv_aload_n hx hb dL_thrown_833 rfl (lv_at hl 5 rfl) ?_
              refine lv_iload hx hb dL_thrown_834 (lv_at hl 1 rfl) ?_
              refine hcLi (wr := []) (u := u) (G := (1, u)) (As := [.ref (ad 0), .int (nI k)]) (rest := []) ⟨hx, hb, hml, hown, hts⟩ (by rw [← (show wrb (fX5_hasCoatLeft u (nI k)) = (1, u) from (rd_hasCoatLeft u (nI k)).trans (by rw [z_hasCoat hk hg, if_neg e5]))]; exact kL_hasCoat l hfl D ca en ks vs ai ad bd _ u (nI k) hoi) (vx_cwSW 2 hts mL_thrown_L_hasCoat rfl rfl rfl (by decide +kernel) ⟨Nat.le_of_ble_eq_true rfl, Nat.le_of_ble_eq_true rfl⟩) hK hP hD hS hA hX (List.Perm.refl _) rfl hl.1 rfl (Nat.le_of_ble_eq_true rfl) ⟨by show _ ≤ 5600; omega, by show _ ≤ 33600; omega⟩ dL_thrown_836 (fun H locs hP hD hS => ?_)
              refine W.widen (k := ((1740 + 224 * k + 24 + 10 * j) + 8)) (n := (6 * (1740 + 224 * k + 24 + 10 * j) + 48)) (by omega) (by omega) ?_
              refine lv_iconst (v := 1) hx hb dL_thrown_839 (by decide) ?_
              refine lv_icmp_eq (tgt := 857) hx hb dL_thrown_840 (by decide) (fun _ => ?_) (fun q => absurd rfl q) 
              refine lv_iconst (v := 1) hx hb dL_thrown_857 (by decide) ?_
              refine lv_goto (tgt := 862) hx hb dL_thrown_858 (by decide) ?_
              refine lv_istore (lv' := [(4, .int 1), (6, .int (nI j)), (5, .int (nI k)), (3, .int (h9 (og0 u))), (1, .long (asks (og0 u))), (0, .ref (ad 0))]) hx hb dL_thrown_862 hl (by decide) rfl (fun ls hl => ?_)
              refine lv_goto (tgt := 902) hx hb dL_thrown_864 (by decide) ?_
              refine lv_iinc (v := nI (j + 1)) (lv' := [(6, .int (nI (j + 1))), (4, .int 1), (5, .int (nI k)), (3, .int (h9 (og0 u))), (1, .long (asks (og0 u))), (0, .ref (ad 0))]) hx hb dL_thrown_902 hl (k := 1) rfl (nI_1 j) (by decide) rfl (fun ls hl => ?_)
              refine lv_goto (tgt := 786) hx hb dL_thrown_905 (by decide) ?_
              refine W.widen (k := (1740 + 224 * k + 24 + 10 * (j + 1))) (n := (6 * (1740 + 224 * k + 24 + 10 * (j + 1)))) (by omega) (by omega) ?_
              exact ij (j + 1) (by omega) _ _ hP hD hS ls (lv_sub hl [0, 2, 1, 3, 4, 5] rfl)
          · refine lv_iload hx hb dL_thrown_786 (lv_at hl 0 rfl) ?_
            refine lv_bipush (v := 20) hx hb dL_thrown_788 (by decide) ?_
            refine lv_icmp_ge (tgt := 908) hx hb dL_thrown_790 (by decide) (fun q => absurd q (show ¬ (20 : Int32) ≤ nI j from nI_ge (b := 20) (by omega) (by decide))) (fun _ => ?_)
            refine lv_aload_n hx hb dL_thrown_793 rfl (lv_at hl 5 rfl) ?_
            refine lv_iload hx hb dL_thrown_794 (lv_at hl 0 rfl) ?_
            refine hcLi (wr := []) (u := u) (G := (1, u)) (As := [.ref (ad 0), .int (nI j)]) (rest := []) ⟨hx, hb, hml, hown, hts⟩ (by rw [← (show wrb (fX5_isCovered u (nI j)) = (1, u) from (rd_isCovered u (nI j)).trans (by rw [z_isCovered hc, if_neg v]))]; exact kL_isCovered l hfl D ca en ks vs ai ad bd _ u (nI j) hoi) (vx_cwSW 2 hts mL_thrown_L_isCovered rfl rfl rfl (by decide +kernel) ⟨Nat.le_of_ble_eq_true rfl, Nat.le_of_ble_eq_true rfl⟩) hK hP hD hS hA hX (List.Perm.refl _) rfl hl.1 rfl (Nat.le_of_ble_eq_true rfl) ⟨by show _ ≤ 5600; omega, by show _ ≤ 33600; omega⟩ dL_thrown_796 (fun H locs hP hD hS => ?_)
            refine W.widen (k := ((1740 + 224 * k + 24 + 10 * j) + 2)) (n := (6 * (1740 + 224 * k + 24 + 10 * j) + 12)) (by omega) (by omega) ?_
            refine lv_if_ne (tgt := 867) hx hb dL_thrown_799 (by decide) (fun _ => ?_) (fun q => absurd (show (1 : Int32) = 0 from q) (by decide)) 
            by_cases e2 : h2 (og0 u) k = -1
            · refine lv_aload_n hx hb dL_thrown_867 rfl (lv_at hl 5 rfl) ?_
              refine lv_iload hx hb dL_thrown_868 (lv_at hl 1 rfl) ?_
              refine hcLi (wr := []) (u := u) (G := (0, u)) (As := [.ref (ad 0), .int (nI k)]) (rest := []) ⟨hx, hb, hml, hown, hts⟩ (by rw [← (show wrb (fX5_isPlaced u (nI k)) = (0, u) from (rd_isPlaced u (nI k)).trans (by rw [z_isPlaced hk hg, if_pos e2]))]; exact kL_isPlaced l hfl D ca en ks vs ai ad bd _ u (nI k) hoi) (vx_cwSW 2 hts mL_thrown_L_isPlaced rfl rfl rfl (by decide +kernel) ⟨Nat.le_of_ble_eq_true rfl, Nat.le_of_ble_eq_true rfl⟩) hK hP hD hS hA hX (List.Perm.refl _) rfl hl.1 rfl (Nat.le_of_ble_eq_true rfl) ⟨by show _ ≤ 5600; omega, by show _ ≤ 33600; omega⟩ dL_thrown_870 (fun H locs hP hD hS => ?_)
              refine W.widen (k := ((1740 + 224 * k + 24 + 10 * j) + 4)) (n := (6 * (1740 + 224 * k + 24 + 10 * j) + 24)) (by omega) (by omega) ?_
              refine lv_if_ne (tgt := 902) hx hb dL_thrown_873 (by decide) (fun q => absurd rfl q) (fun _ => ?_)
              refine lv_iload hx hb dL_thrown_876 (lv_at hl 2 rfl) ?_
              refine lv_if_eq (tgt := 899) hx hb dL_thrown_878 (by decide) (fun q => absurd q (by decide)) (fun _ => ?_)
              refine lv_aload_n hx hb dL_thrown_881 rfl (lv_at hl 5 rfl) ?_
              refine lv_iload hx hb dL_thrown_882 (lv_at hl 1 rfl) ?_
              refine lv_iload hx hb dL_thrown_884 (lv_at hl 0 rfl) ?_
              refine hcLi (wr := []) (u := u) (G := ((-1003), u)) (As := [.ref (ad 0), .int (nI k), .int (nI j)]) (rest := []) ⟨hx, hb, hml, hown, hts⟩ (by rw [← z_place3 (w := u) hk hc hg e2 v]; exact kL_placeHat l hfl D ca en ks vs ai ad bd _ u (nI k) (nI j) hoi) (vx_cwSW 3 hts mL_thrown_L_placeHat rfl rfl rfl (by decide +kernel) ⟨Nat.le_of_ble_eq_true rfl, Nat.le_of_ble_eq_true rfl⟩) hK hP hD hS hA hX (List.Perm.refl _) rfl hl.1 rfl (Nat.le_of_ble_eq_true rfl) ⟨by show _ ≤ 5600; omega, by show _ ≤ 33600; omega⟩ dL_thrown_886 (fun H locs hP hD hS => ?_)
              refine W.widen (k := ((1740 + 224 * k + 24 + 10 * j) + 6)) (n := (6 * (1740 + 224 * k + 24 + 10 * j) + 36)) (by omega) (by omega) ?_
              refine lv_sipush (v := (-1003)) hx hb dL_thrown_889 (by decide) ?_
              refine lv_icmp_ne (tgt := 899) hx hb dL_thrown_892 (by decide) (fun q => absurd rfl q) (fun _ => ?_)
              refine lv_iconst (v := 1) hx hb dL_thrown_895 (by decide) ?_
              refine lv_goto (tgt := 900) hx hb dL_thrown_896 (by decide) ?_
              refine lv_istore (lv' := [(4, .int 1), (6, .int (nI j)), (5, .int (nI k)), (3, .int (h9 (og0 u))), (1, .long (asks (og0 u))), (0, .ref (ad 0))]) hx hb dL_thrown_900 hl (by decide) rfl (fun ls hl => ?_)
              refine lv_iinc (v := nI (j + 1)) (lv' := [(6, .int (nI (j + 1))), (4, .int 1), (5, .int (nI k)), (3, .int (h9 (og0 u))), (1, .long (asks (og0 u))), (0, .ref (ad 0))]) hx hb dL_thrown_902 hl (k := 1) rfl (nI_1 j) (by decide) rfl (fun ls hl => ?_)
              refine lv_goto (tgt := 786) hx hb dL_thrown_905 (by decide) ?_
              refine W.widen (k := (1740 + 224 * k + 24 + 10 * (j + 1))) (n := (6 * (1740 + 224 * k + 24 + 10 * (j + 1)))) (by omega) (by omega) ?_
              exact ij (j + 1) (by omega) _ _ hP hD hS ls (lv_sub hl [0, 2, 1, 3, 4, 5] rfl)
            · refine lv_aload_n hx hb dL_thrown_867 rfl (lv_at hl 5 rfl) ?_
              refine lv_iload hx hb dL_thrown_868 (lv_at hl 1 rfl) ?_
              refine hcLi (wr := []) (u := u) (G := (1, u)) (As := [.ref (ad 0), .int (nI k)]) (rest := []) ⟨hx, hb, hml, hown, hts⟩ (by rw [← (show wrb (fX5_isPlaced u (nI k)) = (1, u) from (rd_isPlaced u (nI k)).trans (by rw [z_isPlaced hk hg, if_neg e2]))]; exact kL_isPlaced l hfl D ca en ks vs ai ad bd _ u (nI k) hoi) (vx_cwSW 2 hts mL_thrown_L_isPlaced rfl rfl rfl (by decide +kernel) ⟨Nat.le_of_ble_eq_true rfl, Nat.le_of_ble_eq_true rfl⟩) hK hP hD hS hA hX (List.Perm.refl _) rfl hl.1 rfl (Nat.le_of_ble_eq_true rfl) ⟨by show _ ≤ 5600; omega, by show _ ≤ 33600; omega⟩ dL_thrown_870 (fun H locs hP hD hS => ?_)
              refine W.widen (k := ((1740 + 224 * k + 24 + 10 * j) + 4)) (n := (6 * (1740 + 224 * k + 24 + 10 * j) + 24)) (by omega) (by omega) ?_
              refine lv_if_ne (tgt := 902) hx hb dL_thrown_873 (by decide) (fun _ => ?_) (fun q => absurd (show (1 : Int32) = 0 from q) (by decide)) 
              refine lv_iinc (v := nI (j + 1)) (lv' := [(6, .int (nI (j + 1))), (5, .int (nI k)), (4, .int 1), (3, .int (h9 (og0 u))), (1, .long (asks (og0 u))), (0, .ref (ad 0))]) hx hb dL_thrown_902 hl (k := 0) rfl (nI_1 j) (by decide) rfl (fun ls hl => ?_)
              refine lv_goto (tgt := 786) hx hb dL_thrown_905 (by decide) ?_
              refine W.widen (k := (1740 + 224 * k + 24 + 10 * (j + 1))) (n := (6 * (1740 + 224 * k + 24 + 10 * (j + 1)))) (by omega) (by omega) ?_
              exact ij (j + 1) (by omega) _ _ hP hD hS ls (lv_sub hl [0, 1, 2, 3, 4, 5] rfl)
      have c709 : ∀  (H : Heap) (locs : List Loc) (hP : va_P D vwCl (OW ca en ai ad bd u) H) (hD : va_D A (OW ca en ai ad bd u)) (hS : va_S A s.heap H locs) (ls : Array Slot) (hl : lv_has ls 7 [(5, .int (nI k)), (4, .int 1), (3, .int (h9 (og0 u))), (1, .long (asks (og0 u))), (0, .ref (ad 0))]), W p l e (headSpec wmL_thrown ({ frames := 11, cells := 5600, slots := 33600, locals := 248 })).room s m ([.ref (ad 0)] : List Value).toArray below meth c H locs (1740 + 224 * k + 18) (6 * (1740 + 224 * k + 18)) (MQ below (va_Qi (fun r v => r = 1 ∧ (∃ L, LI nn9 L v) ∧ og0 v = og0 u ∧ q1 (og5 v) = 0) (MB D ca A (fun v => OW ca en ai ad bd v)) A) ([.ref (ad 0)] : List Value).toArray s 5600 33600 A) (F0 m 709 ls []) := by
        intro H locs hP hD hS ls hl
        by_cases e5 : h5 (og0 u) k = -1
        · refine lv_aload_n hx hb dL_thrown_709 rfl (lv_at hl 4 rfl) ?_
          refine lv_iload hx hb dL_thrown_710 (lv_at hl 0 rfl) ?_
          refine hcLi (wr := []) (u := u) (G := (0, u)) (As := [.ref (ad 0), .int (nI k)]) (rest := []) ⟨hx, hb, hml, hown, hts⟩ (by rw [← (show wrb (fX5_hasCoatLeft u (nI k)) = (0, u) from (rd_hasCoatLeft u (nI k)).trans (by rw [z_hasCoat hk hg, if_pos e5]))]; exact kL_hasCoat l hfl D ca en ks vs ai ad bd _ u (nI k) hoi) (vx_cwSW 2 hts mL_thrown_L_hasCoat rfl rfl rfl (by decide +kernel) ⟨Nat.le_of_ble_eq_true rfl, Nat.le_of_ble_eq_true rfl⟩) hK hP hD hS hA hX (List.Perm.refl _) rfl hl.1 rfl (Nat.le_of_ble_eq_true rfl) ⟨by show _ ≤ 5600; omega, by show _ ≤ 33600; omega⟩ dL_thrown_712 (fun H locs hP hD hS => ?_)
          refine W.widen (k := ((1740 + 224 * k + 18) + 2)) (n := (6 * (1740 + 224 * k + 18) + 12)) (by omega) (by omega) ?_
          refine lv_iconst (v := 1) hx hb dL_thrown_715 (by decide) ?_
          refine lv_icmp_ne (tgt := 747) hx hb dL_thrown_716 (by decide) (fun _ => ?_) (fun q => absurd (show (0 : Int32) = 1 from q) (by decide)) 
          refine lv_iload hx hb dL_thrown_747 (lv_at hl 1 rfl) ?_
          refine lv_if_eq (tgt := 780) hx hb dL_thrown_749 (by decide) (fun q => absurd q (by decide)) (fun _ => ?_)
          refine lv_aload_n hx hb dL_thrown_752 rfl (lv_at hl 4 rfl) ?_
          refine lv_iload hx hb dL_thrown_753 (lv_at hl 0 rfl) ?_
          refine hcLi (wr := []) (u := u) (G := ((-1002), u)) (As := [.ref (ad 0), .int (nI k)]) (rest := []) ⟨hx, hb, hml, hown, hts⟩ (by rw [← z_take (w := u) hk hg e5]; exact kL_takeCoat l hfl D ca en ks vs ai ad bd _ u (nI k) hoi) (vx_cwSW 2 hts mL_thrown_L_takeCoat rfl rfl rfl (by decide +kernel) ⟨Nat.le_of_ble_eq_true rfl, Nat.le_of_ble_eq_true rfl⟩) hK hP hD hS hA hX (List.Perm.refl _) rfl hl.1 rfl (Nat.le_of_ble_eq_true rfl) ⟨by show _ ≤ 5600; omega, by show _ ≤ 33600; omega⟩ dL_thrown_755 (fun H locs hP hD hS => ?_)
          refine W.widen (k := ((1740 + 224 * k + 18) + 4)) (n := (6 * (1740 + 224 * k + 18) + 24)) (by omega) (by omega) ?_
          refine lv_sipush (v := (-1002)) hx hb dL_thrown_758 (by decide) ?_
          refine lv_icmp_ne (tgt := 780) hx hb dL_thrown_761 (by decide) (fun q => absurd rfl q) (fun _ => ?_)
          refine lv_aload_n hx hb dL_thrown_764 rfl (lv_at hl 4 rfl) ?_
          refine lv_iload hx hb dL_thrown_765 (lv_at hl 0 rfl) ?_
          refine hcLi (wr := []) (u := u) (G := ((-1002), u)) (As := [.ref (ad 0), .int (nI k)]) (rest := []) ⟨hx, hb, hml, hown, hts⟩ (by rw [← (show wrp (fX5_coatChair u (nI k)) = ((-1002), u) from (rd_coatChair u (nI k)).trans (by rw [z_coatChair hk hg e5]))]; exact kL_coatChair l hfl D ca en ks vs ai ad bd _ u (nI k) hoi) (vx_cwSW 2 hts mL_thrown_L_coatChair rfl rfl rfl (by decide +kernel) ⟨Nat.le_of_ble_eq_true rfl, Nat.le_of_ble_eq_true rfl⟩) hK hP hD hS hA hX (List.Perm.refl _) rfl hl.1 rfl (Nat.le_of_ble_eq_true rfl) ⟨by show _ ≤ 5600; omega, by show _ ≤ 33600; omega⟩ dL_thrown_767 (fun H locs hP hD hS => ?_)
          refine W.widen (k := ((1740 + 224 * k + 18) + 6)) (n := (6 * (1740 + 224 * k + 18) + 36)) (by omega) (by omega) ?_
          refine lv_sipush (v := (-1002)) hx hb dL_thrown_770 (by decide) ?_
          refine lv_icmp_ne (tgt := 780) hx hb dL_thrown_773 (by decide) (fun q => absurd rfl q) (fun _ => ?_)
          refine lv_iconst (v := 1) hx hb dL_thrown_776 (by decide) ?_
          refine lv_goto (tgt := 781) hx hb dL_thrown_777 (by decide) ?_
          refine lv_istore (lv' := [(4, .int 1), (5, .int (nI k)), (3, .int (h9 (og0 u))), (1, .long (asks (og0 u))), (0, .ref (ad 0))]) hx hb dL_thrown_781 hl (by decide) rfl (fun ls hl => ?_)
          refine lv_iconst (v := 0) hx hb dL_thrown_783 (by decide) ?_
          refine lv_istore (lv' := [(6, .int 0), (4, .int 1), (5, .int (nI k)), (3, .int (h9 (og0 u))), (1, .long (asks (og0 u))), (0, .ref (ad 0))]) hx hb dL_thrown_784 hl (by decide) rfl (fun ls hl => ?_)
          refine W.widen (k := (1740 + 224 * k + 24 + 10 * 0)) (n := (6 * (1740 + 224 * k + 24 + 10 * 0))) (by omega) (by omega) ?_
          exact c786 20 0 rfl _ _ hP hD hS ls (lv_sub hl [0, 2, 1, 3, 4, 5] rfl)
        · refine lv_aload_n hx hb dL_thrown_709 rfl (lv_at hl 4 rfl) ?_
          refine lv_iload hx hb dL_thrown_710 (lv_at hl 0 rfl) ?_
          refine hcLi (wr := []) (u := u) (G := (1, u)) (As := [.ref (ad 0), .int (nI k)]) (rest := []) ⟨hx, hb, hml, hown, hts⟩ (by rw [← (show wrb (fX5_hasCoatLeft u (nI k)) = (1, u) from (rd_hasCoatLeft u (nI k)).trans (by rw [z_hasCoat hk hg, if_neg e5]))]; exact kL_hasCoat l hfl D ca en ks vs ai ad bd _ u (nI k) hoi) (vx_cwSW 2 hts mL_thrown_L_hasCoat rfl rfl rfl (by decide +kernel) ⟨Nat.le_of_ble_eq_true rfl, Nat.le_of_ble_eq_true rfl⟩) hK hP hD hS hA hX (List.Perm.refl _) rfl hl.1 rfl (Nat.le_of_ble_eq_true rfl) ⟨by show _ ≤ 5600; omega, by show _ ≤ 33600; omega⟩ dL_thrown_712 (fun H locs hP hD hS => ?_)
          refine W.widen (k := ((1740 + 224 * k + 18) + 2)) (n := (6 * (1740 + 224 * k + 18) + 12)) (by omega) (by omega) ?_
          refine lv_iconst (v := 1) hx hb dL_thrown_715 (by decide) ?_
          refine lv_icmp_ne (tgt := 747) hx hb dL_thrown_716 (by decide) (fun q => absurd rfl q) (fun _ => ?_)
          refine lv_iload hx hb dL_thrown_719 (lv_at hl 1 rfl) ?_
          refine lv_if_eq (tgt := 741) hx hb dL_thrown_721 (by decide) (fun q => absurd q (by decide)) (fun _ => ?_)
          refine lv_aload_n hx hb dL_thrown_724 rfl (lv_at hl 4 rfl) ?_
          refine lv_iload hx hb dL_thrown_725 (lv_at hl 0 rfl) ?_
          refine lv_iconst (v := 0) hx hb dL_thrown_727 (by decide) ?_
          refine hcLi (wr := []) (u := u) (G := ((-1002), u)) (As := [.ref (ad 0), .int (nI k), .int 0]) (rest := []) ⟨hx, hb, hml, hown, hts⟩ (by rw [← z_leave2 (w := u) (c := 0) hk (by decide) hg e5]; exact kL_leaveCoat l hfl D ca en ks vs ai ad bd _ u (nI k) 0 hoi) (vx_cwSW 3 hts mL_thrown_L_leaveCoat rfl rfl rfl (by decide +kernel) ⟨Nat.le_of_ble_eq_true rfl, Nat.le_of_ble_eq_true rfl⟩) hK hP hD hS hA hX (List.Perm.refl _) rfl hl.1 rfl (Nat.le_of_ble_eq_true rfl) ⟨by show _ ≤ 5600; omega, by show _ ≤ 33600; omega⟩ dL_thrown_728 (fun H locs hP hD hS => ?_)
          refine W.widen (k := ((1740 + 224 * k + 18) + 4)) (n := (6 * (1740 + 224 * k + 18) + 24)) (by omega) (by omega) ?_
          refine lv_sipush (v := (-1002)) hx hb dL_thrown_731 (by decide) ?_
          refine lv_icmp_ne (tgt := 741) hx hb dL_thrown_734 (by decide) (fun q => absurd rfl q) (fun _ => ?_)
          refine lv_iconst (v := 1) hx hb dL_thrown_737 (by decide) ?_
          refine lv_goto (tgt := 742) hx hb dL_thrown_738 (by decide) ?_
          refine lv_istore (lv' := [(4, .int 1), (5, .int (nI k)), (3, .int (h9 (og0 u))), (1, .long (asks (og0 u))), (0, .ref (ad 0))]) hx hb dL_thrown_742 hl (by decide) rfl (fun ls hl => ?_)
          refine lv_goto (tgt := 783) hx hb dL_thrown_744 (by decide) ?_
          refine lv_iconst (v := 0) hx hb dL_thrown_783 (by decide) ?_
          refine lv_istore (lv' := [(6, .int 0), (4, .int 1), (5, .int (nI k)), (3, .int (h9 (og0 u))), (1, .long (asks (og0 u))), (0, .ref (ad 0))]) hx hb dL_thrown_784 hl (by decide) rfl (fun ls hl => ?_)
          refine W.widen (k := (1740 + 224 * k + 24 + 10 * 0)) (n := (6 * (1740 + 224 * k + 24 + 10 * 0))) (by omega) (by omega) ?_
          exact c786 20 0 rfl _ _ hP hD hS ls (lv_sub hl [0, 2, 1, 3, 4, 5] rfl)
      have c558 : ∀  (H : Heap) (locs : List Loc) (hP : va_P D vwCl (OW ca en ai ad bd u) H) (hD : va_D A (OW ca en ai ad bd u)) (hS : va_S A s.heap H locs) (ls : Array Slot) (hl : lv_has ls 7 [(5, .int (nI k)), (4, .int 1), (3, .int (h9 (og0 u))), (1, .long (asks (og0 u))), (0, .ref (ad 0))]), W p l e (headSpec wmL_thrown ({ frames := 11, cells := 5600, slots := 33600, locals := 248 })).room s m ([.ref (ad 0)] : List Value).toArray below meth c H locs (1740 + 224 * k + 4) (6 * (1740 + 224 * k + 4)) (MQ below (va_Qi (fun r v => r = 1 ∧ (∃ L, LI nn9 L v) ∧ og0 v = og0 u ∧ q1 (og5 v) = 0) (MB D ca A (fun v => OW ca en ai ad bd v)) A) ([.ref (ad 0)] : List Value).toArray s 5600 33600 A) (F0 m 558 ls []) := by
        intro H locs hP hD hS ls hl
        by_cases e2 : h2 (og0 u) k = -1
        · refine lv_aload_n hx hb dL_thrown_558 rfl (lv_at hl 4 rfl) ?_
          refine lv_iload hx hb dL_thrown_559 (lv_at hl 0 rfl) ?_
          refine hcLi (wr := []) (u := u) (G := (0, u)) (As := [.ref (ad 0), .int (nI k)]) (rest := []) ⟨hx, hb, hml, hown, hts⟩ (by rw [← (show wrb (fX5_isPlaced u (nI k)) = (0, u) from (rd_isPlaced u (nI k)).trans (by rw [z_isPlaced hk hg, if_pos e2]))]; exact kL_isPlaced l hfl D ca en ks vs ai ad bd _ u (nI k) hoi) (vx_cwSW 2 hts mL_thrown_L_isPlaced rfl rfl rfl (by decide +kernel) ⟨Nat.le_of_ble_eq_true rfl, Nat.le_of_ble_eq_true rfl⟩) hK hP hD hS hA hX (List.Perm.refl _) rfl hl.1 rfl (Nat.le_of_ble_eq_true rfl) ⟨by show _ ≤ 5600; omega, by show _ ≤ 33600; omega⟩ dL_thrown_561 (fun H locs hP hD hS => ?_)
          refine W.widen (k := ((1740 + 224 * k + 4) + 2)) (n := (6 * (1740 + 224 * k + 4) + 12)) (by omega) (by omega) ?_
          refine lv_iconst (v := 1) hx hb dL_thrown_564 (by decide) ?_
          refine lv_icmp_ne (tgt := 649) hx hb dL_thrown_565 (by decide) (fun _ => ?_) (fun q => absurd (show (0 : Int32) = 1 from q) (by decide)) 
          refine lv_iload hx hb dL_thrown_649 (lv_at hl 1 rfl) ?_
          refine lv_if_eq (tgt := 706) hx hb dL_thrown_651 (by decide) (fun q => absurd q (by decide)) (fun _ => ?_)
          refine lv_aload_n hx hb dL_thrown_654 rfl (lv_at hl 4 rfl) ?_
          refine lv_iload hx hb dL_thrown_655 (lv_at hl 0 rfl) ?_
          refine hcLi (wr := []) (u := u) (G := ((-1002), u)) (As := [.ref (ad 0), .int (nI k)]) (rest := []) ⟨hx, hb, hml, hown, hts⟩ (by rw [← z_remove (w := u) hk hg e2]; exact kL_removeHat l hfl D ca en ks vs ai ad bd _ u (nI k) hoi) (vx_cwSW 2 hts mL_thrown_L_removeHat rfl rfl rfl (by decide +kernel) ⟨Nat.le_of_ble_eq_true rfl, Nat.le_of_ble_eq_true rfl⟩) hK hP hD hS hA hX (List.Perm.refl _) rfl hl.1 rfl (Nat.le_of_ble_eq_true rfl) ⟨by show _ ≤ 5600; omega, by show _ ≤ 33600; omega⟩ dL_thrown_657 (fun H locs hP hD hS => ?_)
          refine W.widen (k := ((1740 + 224 * k + 4) + 4)) (n := (6 * (1740 + 224 * k + 4) + 24)) (by omega) (by omega) ?_
          refine lv_sipush (v := (-1002)) hx hb dL_thrown_660 (by decide) ?_
          refine lv_icmp_ne (tgt := 706) hx hb dL_thrown_663 (by decide) (fun q => absurd rfl q) (fun _ => ?_)
          refine lv_aload_n hx hb dL_thrown_666 rfl (lv_at hl 4 rfl) ?_
          refine lv_iload hx hb dL_thrown_667 (lv_at hl 0 rfl) ?_
          refine hcLi (wr := []) (u := u) (G := ((-1002), u)) (As := [.ref (ad 0), .int (nI k)]) (rest := []) ⟨hx, hb, hml, hown, hts⟩ (by rw [← z_touch (w := u) hk hg e2]; exact kL_touchHat l hfl D ca en ks vs ai ad bd _ u (nI k) hoi) (vx_cwSW 2 hts mL_thrown_L_touchHat rfl rfl rfl (by decide +kernel) ⟨Nat.le_of_ble_eq_true rfl, Nat.le_of_ble_eq_true rfl⟩) hK hP hD hS hA hX (List.Perm.refl _) rfl hl.1 rfl (Nat.le_of_ble_eq_true rfl) ⟨by show _ ≤ 5600; omega, by show _ ≤ 33600; omega⟩ dL_thrown_669 (fun H locs hP hD hS => ?_)
          refine W.widen (k := ((1740 + 224 * k + 4) + 6)) (n := (6 * (1740 + 224 * k + 4) + 36)) (by omega) (by omega) ?_
          refine lv_sipush (v := (-1002)) hx hb dL_thrown_672 (by decide) ?_
          refine lv_icmp_ne (tgt := 706) hx hb dL_thrown_675 (by decide) (fun q => absurd rfl q) (fun _ => ?_)
          refine lv_aload_n hx hb dL_thrown_678 rfl (lv_at hl 4 rfl) ?_
          refine lv_iload hx hb dL_thrown_679 (lv_at hl 0 rfl) ?_
          refine hcLi (wr := []) (u := u) (G := ((-1002), u)) (As := [.ref (ad 0), .int (nI k)]) (rest := []) ⟨hx, hb, hml, hown, hts⟩ (by rw [← (show wrp (fX5_hatChair u (nI k)) = ((-1002), u) from (rd_hatChair u (nI k)).trans (by rw [z_hatChair hk hg, if_pos e2]))]; exact kL_hatChair l hfl D ca en ks vs ai ad bd _ u (nI k) hoi) (vx_cwSW 2 hts mL_thrown_L_hatChair rfl rfl rfl (by decide +kernel) ⟨Nat.le_of_ble_eq_true rfl, Nat.le_of_ble_eq_true rfl⟩) hK hP hD hS hA hX (List.Perm.refl _) rfl hl.1 rfl (Nat.le_of_ble_eq_true rfl) ⟨by show _ ≤ 5600; omega, by show _ ≤ 33600; omega⟩ dL_thrown_681 (fun H locs hP hD hS => ?_)
          refine W.widen (k := ((1740 + 224 * k + 4) + 8)) (n := (6 * (1740 + 224 * k + 4) + 48)) (by omega) (by omega) ?_
          refine lv_sipush (v := (-1002)) hx hb dL_thrown_684 (by decide) ?_
          refine lv_icmp_ne (tgt := 706) hx hb dL_thrown_687 (by decide) (fun q => absurd rfl q) (fun _ => ?_)
          refine lv_aload_n hx hb dL_thrown_690 rfl (lv_at hl 4 rfl) ?_
          refine lv_iload hx hb dL_thrown_691 (lv_at hl 0 rfl) ?_
          refine hcLi (wr := []) (u := u) (G := ((-1002), u)) (As := [.ref (ad 0), .int (nI k)]) (rest := []) ⟨hx, hb, hml, hown, hts⟩ (by rw [← (show wrp (fX5_idleMinutes u (nI k)) = ((-1002), u) from (rd_idleMinutes u (nI k)).trans (by rw [z_idle hk hg e2]))]; exact kL_idle l hfl D ca en ks vs ai ad bd _ u (nI k) hoi) (vx_cwSW 2 hts mL_thrown_L_idle rfl rfl rfl (by decide +kernel) ⟨Nat.le_of_ble_eq_true rfl, Nat.le_of_ble_eq_true rfl⟩) hK hP hD hS hA hX (List.Perm.refl _) rfl hl.1 rfl (Nat.le_of_ble_eq_true rfl) ⟨by show _ ≤ 5600; omega, by show _ ≤ 33600; omega⟩ dL_thrown_693 (fun H locs hP hD hS => ?_)
          refine W.widen (k := ((1740 + 224 * k + 4) + 10)) (n := (6 * (1740 + 224 * k + 4) + 60)) (by omega) (by omega) ?_
          refine lv_sipush (v := (-1002)) hx hb dL_thrown_696 (by decide) ?_
          refine lv_icmp_ne (tgt := 706) hx hb dL_thrown_699 (by decide) (fun q => absurd rfl q) (fun _ => ?_)
          refine lv_iconst (v := 1) hx hb dL_thrown_702 (by decide) ?_
          refine lv_goto (tgt := 707) hx hb dL_thrown_703 (by decide) ?_
          refine lv_istore (lv' := [(4, .int 1), (5, .int (nI k)), (3, .int (h9 (og0 u))), (1, .long (asks (og0 u))), (0, .ref (ad 0))]) hx hb dL_thrown_707 hl (by decide) rfl (fun ls hl => ?_)
          refine W.widen (k := (1740 + 224 * k + 18)) (n := (6 * (1740 + 224 * k + 18))) (by omega) (by omega) ?_
          exact c709 _ _ hP hD hS ls (lv_sub hl [1, 0, 2, 3, 4] rfl)
        · obtain ⟨c9, hc9, ec9, hb9⟩ := (hu.2.1.2.2.1 k hk).resolve_left e2
          have hv9 : fX3_covererAt (og0 u) (nI c9) = nI k := cov_own hu.2.1 hk hc9 hb9
          have hn1 : ¬ fX3_covererAt (og0 u) (nI c9) = -1 := by rw [hv9]; exact fun h => m1_ne k hk h.symm
          refine lv_aload_n hx hb dL_thrown_558 rfl (lv_at hl 4 rfl) ?_
          refine lv_iload hx hb dL_thrown_559 (lv_at hl 0 rfl) ?_
          refine hcLi (wr := []) (u := u) (G := (1, u)) (As := [.ref (ad 0), .int (nI k)]) (rest := []) ⟨hx, hb, hml, hown, hts⟩ (by rw [← (show wrb (fX5_isPlaced u (nI k)) = (1, u) from (rd_isPlaced u (nI k)).trans (by rw [z_isPlaced hk hg, if_neg e2]))]; exact kL_isPlaced l hfl D ca en ks vs ai ad bd _ u (nI k) hoi) (vx_cwSW 2 hts mL_thrown_L_isPlaced rfl rfl rfl (by decide +kernel) ⟨Nat.le_of_ble_eq_true rfl, Nat.le_of_ble_eq_true rfl⟩) hK hP hD hS hA hX (List.Perm.refl _) rfl hl.1 rfl (Nat.le_of_ble_eq_true rfl) ⟨by show _ ≤ 5600; omega, by show _ ≤ 33600; omega⟩ dL_thrown_561 (fun H locs hP hD hS => ?_)
          refine W.widen (k := ((1740 + 224 * k + 4) + 2)) (n := (6 * (1740 + 224 * k + 4) + 12)) (by omega) (by omega) ?_
          refine lv_iconst (v := 1) hx hb dL_thrown_564 (by decide) ?_
          refine lv_icmp_ne (tgt := 649) hx hb dL_thrown_565 (by decide) (fun q => absurd rfl q) (fun _ => ?_)
          refine lv_iload hx hb dL_thrown_568 (lv_at hl 1 rfl) ?_
          refine lv_if_eq (tgt := 643) hx hb dL_thrown_570 (by decide) (fun q => absurd q (by decide)) (fun _ => ?_)
          refine lv_aload_n hx hb dL_thrown_573 rfl (lv_at hl 4 rfl) ?_
          refine lv_iload hx hb dL_thrown_574 (lv_at hl 0 rfl) ?_
          refine lv_bipush (v := 39) hx hb dL_thrown_576 (by decide) ?_
          refine hcLi (wr := []) (u := u) (G := ((-1002), u)) (As := [.ref (ad 0), .int (nI k), .int 39]) (rest := []) ⟨hx, hb, hml, hown, hts⟩ (by rw [← z_place2 (w := u) (c := 39) hk (by decide) hg e2]; exact kL_placeHat l hfl D ca en ks vs ai ad bd _ u (nI k) 39 hoi) (vx_cwSW 3 hts mL_thrown_L_placeHat rfl rfl rfl (by decide +kernel) ⟨Nat.le_of_ble_eq_true rfl, Nat.le_of_ble_eq_true rfl⟩) hK hP hD hS hA hX (List.Perm.refl _) rfl hl.1 rfl (Nat.le_of_ble_eq_true rfl) ⟨by show _ ≤ 5600; omega, by show _ ≤ 33600; omega⟩ dL_thrown_578 (fun H locs hP hD hS => ?_)
          refine W.widen (k := ((1740 + 224 * k + 4) + 4)) (n := (6 * (1740 + 224 * k + 4) + 24)) (by omega) (by omega) ?_
          refine lv_sipush (v := (-1002)) hx hb dL_thrown_581 (by decide) ?_
          refine lv_icmp_ne (tgt := 643) hx hb dL_thrown_584 (by decide) (fun q => absurd rfl q) (fun _ => ?_)
          refine lv_aload_n hx hb dL_thrown_587 rfl (lv_at hl 4 rfl) ?_
          refine lv_iload hx hb dL_thrown_588 (lv_at hl 0 rfl) ?_
          refine lv_aload_n hx hb dL_thrown_590 rfl (lv_at hl 4 rfl) ?_
          refine lv_iload hx hb dL_thrown_591 (lv_at hl 0 rfl) ?_
          refine hcLi (wr := []) (u := u) (G := ((nI c9), u)) (As := [.ref (ad 0), .int (nI k)]) (rest := [.int (nI k), .ref (ad 0)]) ⟨hx, hb, hml, hown, hts⟩ (by rw [← (show wrp (fX5_hatChair u (nI k)) = ((nI c9), u) from (rd_hatChair u (nI k)).trans (by rw [z_hatChair hk hg, if_neg e2, ec9]))]; exact kL_hatChair l hfl D ca en ks vs ai ad bd _ u (nI k) hoi) (vx_cwSW 2 hts mL_thrown_L_hatChair rfl rfl rfl (by decide +kernel) ⟨Nat.le_of_ble_eq_true rfl, Nat.le_of_ble_eq_true rfl⟩) hK hP hD hS hA hX (List.Perm.refl _) rfl hl.1 rfl (Nat.le_of_ble_eq_true rfl) ⟨by show _ ≤ 5600; omega, by show _ ≤ 33600; omega⟩ dL_thrown_593 (fun H locs hP hD hS => ?_)
          refine W.widen (k := ((1740 + 224 * k + 4) + 6)) (n := (6 * (1740 + 224 * k + 4) + 36)) (by omega) (by omega) ?_
          by_cases e5 : h5 (og0 u) k = -1
          · refine hcLi (wr := []) (u := u) (G := ((-1003), u)) (As := [.ref (ad 0), .int (nI k), .int (nI c9)]) (rest := []) ⟨hx, hb, hml, hown, hts⟩ (by rw [← z_leave3 (w := u) hk hc9 hg e5 (Or.inr hv9)]; exact kL_leaveCoat l hfl D ca en ks vs ai ad bd _ u (nI k) (nI c9) hoi) (vx_cwSW 3 hts mL_thrown_L_leaveCoat rfl rfl rfl (by decide +kernel) ⟨Nat.le_of_ble_eq_true rfl, Nat.le_of_ble_eq_true rfl⟩) hK hP hD hS hA hX (List.Perm.refl _) rfl hl.1 rfl (Nat.le_of_ble_eq_true rfl) ⟨by show _ ≤ 5600; omega, by show _ ≤ 33600; omega⟩ dL_thrown_596 (fun H locs hP hD hS => ?_)
            refine W.widen (k := ((1740 + 224 * k + 4) + 8)) (n := (6 * (1740 + 224 * k + 4) + 48)) (by omega) (by omega) ?_
            refine lv_aload_n hx hb dL_thrown_599 rfl (lv_at hl 4 rfl) ?_
            refine lv_iload hx hb dL_thrown_600 (lv_at hl 0 rfl) ?_
            refine hcLi (wr := []) (u := u) (G := (0, u)) (As := [.ref (ad 0), .int (nI k)]) (rest := [.int (-1003)]) ⟨hx, hb, hml, hown, hts⟩ (by rw [← (show wrb (fX5_hasCoatLeft u (nI k)) = (0, u) from (rd_hasCoatLeft u (nI k)).trans (by rw [z_hasCoat hk hg, if_pos e5]))]; exact kL_hasCoat l hfl D ca en ks vs ai ad bd _ u (nI k) hoi) (vx_cwSW 2 hts mL_thrown_L_hasCoat rfl rfl rfl (by decide +kernel) ⟨Nat.le_of_ble_eq_true rfl, Nat.le_of_ble_eq_true rfl⟩) hK hP hD hS hA hX (List.Perm.refl _) rfl hl.1 rfl (Nat.le_of_ble_eq_true rfl) ⟨by show _ ≤ 5600; omega, by show _ ≤ 33600; omega⟩ dL_thrown_602 (fun H locs hP hD hS => ?_)
            refine W.widen (k := ((1740 + 224 * k + 4) + 10)) (n := (6 * (1740 + 224 * k + 4) + 60)) (by omega) (by omega) ?_
            refine lv_iconst (v := 1) hx hb dL_thrown_605 (by decide) ?_
            refine lv_icmp_ne (tgt := 615) hx hb dL_thrown_606 (by decide) (fun _ => ?_) (fun q => absurd (show (0 : Int32) = 1 from q) (by decide)) 
            refine lv_sipush (v := (-1003)) hx hb dL_thrown_615 (by decide) ?_
            refine lv_icmp_ne (tgt := 643) hx hb dL_thrown_618 (by decide) (fun q => absurd rfl q) (fun _ => ?_)
            refine lv_aload_n hx hb dL_thrown_621 rfl (lv_at hl 4 rfl) ?_
            refine lv_iload hx hb dL_thrown_622 (lv_at hl 0 rfl) ?_
            refine lv_aload_n hx hb dL_thrown_624 rfl (lv_at hl 4 rfl) ?_
            refine lv_iload hx hb dL_thrown_625 (lv_at hl 0 rfl) ?_
            refine hcLi (wr := []) (u := u) (G := ((nI c9), u)) (As := [.ref (ad 0), .int (nI k)]) (rest := [.int (nI k), .ref (ad 0)]) ⟨hx, hb, hml, hown, hts⟩ (by rw [← (show wrp (fX5_hatChair u (nI k)) = ((nI c9), u) from (rd_hatChair u (nI k)).trans (by rw [z_hatChair hk hg, if_neg e2, ec9]))]; exact kL_hatChair l hfl D ca en ks vs ai ad bd _ u (nI k) hoi) (vx_cwSW 2 hts mL_thrown_L_hatChair rfl rfl rfl (by decide +kernel) ⟨Nat.le_of_ble_eq_true rfl, Nat.le_of_ble_eq_true rfl⟩) hK hP hD hS hA hX (List.Perm.refl _) rfl hl.1 rfl (Nat.le_of_ble_eq_true rfl) ⟨by show _ ≤ 5600; omega, by show _ ≤ 33600; omega⟩ dL_thrown_627 (fun H locs hP hD hS => ?_)
            refine W.widen (k := ((1740 + 224 * k + 4) + 12)) (n := (6 * (1740 + 224 * k + 4) + 72)) (by omega) (by omega) ?_
            refine hcLi (wr := []) (u := u) (G := ((-1003), u)) (As := [.ref (ad 0), .int (nI k), .int (nI c9)]) (rest := []) ⟨hx, hb, hml, hown, hts⟩ (by rw [← z_contest3 (w := u) hk hc9 hg e2 hn1]; exact kL_contest l hfl D ca en ks vs ai ad bd _ u (nI k) (nI c9) hoi) (vx_cwSW 3 hts mL_thrown_L_contest rfl rfl rfl (by decide +kernel) ⟨Nat.le_of_ble_eq_true rfl, Nat.le_of_ble_eq_true rfl⟩) hK hP hD hS hA hX (List.Perm.refl _) rfl hl.1 rfl (Nat.le_of_ble_eq_true rfl) ⟨by show _ ≤ 5600; omega, by show _ ≤ 33600; omega⟩ dL_thrown_630 (fun H locs hP hD hS => ?_)
            refine W.widen (k := ((1740 + 224 * k + 4) + 14)) (n := (6 * (1740 + 224 * k + 4) + 84)) (by omega) (by omega) ?_
            refine lv_sipush (v := (-1003)) hx hb dL_thrown_633 (by decide) ?_
            refine lv_icmp_ne (tgt := 643) hx hb dL_thrown_636 (by decide) (fun q => absurd rfl q) (fun _ => ?_)
            refine lv_iconst (v := 1) hx hb dL_thrown_639 (by decide) ?_
            refine lv_goto (tgt := 644) hx hb dL_thrown_640 (by decide) ?_
            refine lv_istore (lv' := [(4, .int 1), (5, .int (nI k)), (3, .int (h9 (og0 u))), (1, .long (asks (og0 u))), (0, .ref (ad 0))]) hx hb dL_thrown_644 hl (by decide) rfl (fun ls hl => ?_)
            refine lv_goto (tgt := 709) hx hb dL_thrown_646 (by decide) ?_
            refine W.widen (k := (1740 + 224 * k + 18)) (n := (6 * (1740 + 224 * k + 18))) (by omega) (by omega) ?_
            exact c709 _ _ hP hD hS ls (lv_sub hl [1, 0, 2, 3, 4] rfl)
          · refine hcLi (wr := []) (u := u) (G := ((-1002), u)) (As := [.ref (ad 0), .int (nI k), .int (nI c9)]) (rest := []) ⟨hx, hb, hml, hown, hts⟩ (by rw [← z_leave2 (w := u) hk hc9 hg e5]; exact kL_leaveCoat l hfl D ca en ks vs ai ad bd _ u (nI k) (nI c9) hoi) (vx_cwSW 3 hts mL_thrown_L_leaveCoat rfl rfl rfl (by decide +kernel) ⟨Nat.le_of_ble_eq_true rfl, Nat.le_of_ble_eq_true rfl⟩) hK hP hD hS hA hX (List.Perm.refl _) rfl hl.1 rfl (Nat.le_of_ble_eq_true rfl) ⟨by show _ ≤ 5600; omega, by show _ ≤ 33600; omega⟩ dL_thrown_596 (fun H locs hP hD hS => ?_)
            refine W.widen (k := ((1740 + 224 * k + 4) + 8)) (n := (6 * (1740 + 224 * k + 4) + 48)) (by omega) (by omega) ?_
            refine lv_aload_n hx hb dL_thrown_599 rfl (lv_at hl 4 rfl) ?_
            refine lv_iload hx hb dL_thrown_600 (lv_at hl 0 rfl) ?_
            refine hcLi (wr := []) (u := u) (G := (1, u)) (As := [.ref (ad 0), .int (nI k)]) (rest := [.int (-1002)]) ⟨hx, hb, hml, hown, hts⟩ (by rw [← (show wrb (fX5_hasCoatLeft u (nI k)) = (1, u) from (rd_hasCoatLeft u (nI k)).trans (by rw [z_hasCoat hk hg, if_neg e5]))]; exact kL_hasCoat l hfl D ca en ks vs ai ad bd _ u (nI k) hoi) (vx_cwSW 2 hts mL_thrown_L_hasCoat rfl rfl rfl (by decide +kernel) ⟨Nat.le_of_ble_eq_true rfl, Nat.le_of_ble_eq_true rfl⟩) hK hP hD hS hA hX (List.Perm.refl _) rfl hl.1 rfl (Nat.le_of_ble_eq_true rfl) ⟨by show _ ≤ 5600; omega, by show _ ≤ 33600; omega⟩ dL_thrown_602 (fun H locs hP hD hS => ?_)
            refine W.widen (k := ((1740 + 224 * k + 4) + 10)) (n := (6 * (1740 + 224 * k + 4) + 60)) (by omega) (by omega) ?_
            refine lv_iconst (v := 1) hx hb dL_thrown_605 (by decide) ?_
            refine lv_icmp_ne (tgt := 615) hx hb dL_thrown_606 (by decide) (fun q => absurd rfl q) (fun _ => ?_)
            refine lv_sipush (v := (-1002)) hx hb dL_thrown_609 (by decide) ?_
            refine lv_goto (tgt := 618) hx hb dL_thrown_612 (by decide) ?_
            refine lv_icmp_ne (tgt := 643) hx hb dL_thrown_618 (by decide) (fun q => absurd rfl q) (fun _ => ?_)
            refine lv_aload_n hx hb dL_thrown_621 rfl (lv_at hl 4 rfl) ?_
            refine lv_iload hx hb dL_thrown_622 (lv_at hl 0 rfl) ?_
            refine lv_aload_n hx hb dL_thrown_624 rfl (lv_at hl 4 rfl) ?_
            refine lv_iload hx hb dL_thrown_625 (lv_at hl 0 rfl) ?_
            refine hcLi (wr := []) (u := u) (G := ((nI c9), u)) (As := [.ref (ad 0), .int (nI k)]) (rest := [.int (nI k), .ref (ad 0)]) ⟨hx, hb, hml, hown, hts⟩ (by rw [← (show wrp (fX5_hatChair u (nI k)) = ((nI c9), u) from (rd_hatChair u (nI k)).trans (by rw [z_hatChair hk hg, if_neg e2, ec9]))]; exact kL_hatChair l hfl D ca en ks vs ai ad bd _ u (nI k) hoi) (vx_cwSW 2 hts mL_thrown_L_hatChair rfl rfl rfl (by decide +kernel) ⟨Nat.le_of_ble_eq_true rfl, Nat.le_of_ble_eq_true rfl⟩) hK hP hD hS hA hX (List.Perm.refl _) rfl hl.1 rfl (Nat.le_of_ble_eq_true rfl) ⟨by show _ ≤ 5600; omega, by show _ ≤ 33600; omega⟩ dL_thrown_627 (fun H locs hP hD hS => ?_)
            refine W.widen (k := ((1740 + 224 * k + 4) + 12)) (n := (6 * (1740 + 224 * k + 4) + 72)) (by omega) (by omega) ?_
            refine hcLi (wr := []) (u := u) (G := ((-1003), u)) (As := [.ref (ad 0), .int (nI k), .int (nI c9)]) (rest := []) ⟨hx, hb, hml, hown, hts⟩ (by rw [← z_contest3 (w := u) hk hc9 hg e2 hn1]; exact kL_contest l hfl D ca en ks vs ai ad bd _ u (nI k) (nI c9) hoi) (vx_cwSW 3 hts mL_thrown_L_contest rfl rfl rfl (by decide +kernel) ⟨Nat.le_of_ble_eq_true rfl, Nat.le_of_ble_eq_true rfl⟩) hK hP hD hS hA hX (List.Perm.refl _) rfl hl.1 rfl (Nat.le_of_ble_eq_true rfl) ⟨by show _ ≤ 5600; omega, by show _ ≤ 33600; omega⟩ dL_thrown_630 (fun H locs hP hD hS => ?_)
            refine W.widen (k := ((1740 + 224 * k + 4) + 14)) (n := (6 * (1740 + 224 * k + 4) + 84)) (by omega) (by omega) ?_
            refine lv_sipush (v := (-1003)) hx hb dL_thrown_633 (by decide) ?_
            refine lv_icmp_ne (tgt := 643) hx hb dL_thrown_636 (by decide) (fun q => absurd rfl q) (fun _ => ?_)
            refine lv_iconst (v := 1) hx hb dL_thrown_639 (by decide) ?_
            refine lv_goto (tgt := 644) hx hb dL_thrown_640 (by decide) ?_
            refine lv_istore (lv' := [(4, .int 1), (5, .int (nI k)), (3, .int (h9 (og0 u))), (1, .long (asks (og0 u))), (0, .ref (ad 0))]) hx hb dL_thrown_644 hl (by decide) rfl (fun ls hl => ?_)
            refine lv_goto (tgt := 709) hx hb dL_thrown_646 (by decide) ?_
            refine W.widen (k := (1740 + 224 * k + 18)) (n := (6 * (1740 + 224 * k + 18))) (by omega) (by omega) ?_
            exact c709 _ _ hP hD hS ls (lv_sub hl [1, 0, 2, 3, 4] rfl)
      refine lv_iload hx hb dL_thrown_517 (lv_at hl 0 rfl) ?_
      refine lv_iload_n hx hb dL_thrown_519 rfl (lv_at hl 2 rfl) ?_
      refine lv_icmp_ge (tgt := 914) hx hb dL_thrown_520 (by decide) (fun q => absurd q c520) (fun _ => ?_)
      refine lv_aload_n hx hb dL_thrown_523 rfl (lv_at hl 4 rfl) ?_
      refine lv_iload hx hb dL_thrown_524 (lv_at hl 0 rfl) ?_
      refine hcLi (wr := []) (u := u) (G := ((h0 (og0 u) k), u)) (As := [.ref (ad 0), .int (nI k)]) (rest := []) ⟨hx, hb, hml, hown, hts⟩ (by rw [← (show wrp (fX5_feathers u (nI k)) = ((h0 (og0 u) k), u) from (rd_feathers u (nI k)).trans (by rw [z_feathers hk hg]))]; exact kL_feathers l hfl D ca en ks vs ai ad bd _ u (nI k) hoi) (vx_cwSW 2 hts mL_thrown_L_feathers rfl rfl rfl (by decide +kernel) ⟨Nat.le_of_ble_eq_true rfl, Nat.le_of_ble_eq_true rfl⟩) hK hP hD hS hA hX (List.Perm.refl _) rfl hl.1 rfl (Nat.le_of_ble_eq_true rfl) ⟨by show _ ≤ 5600; omega, by show _ ≤ 33600; omega⟩ dL_thrown_526 (fun H locs hP hD hS => ?_)
      refine W.widen (k := ((1740 + 224 * k) + 2)) (n := (6 * (1740 + 224 * k) + 12)) (by omega) (by omega) ?_
      refine lv_bipush (v := 9) hx hb dL_thrown_529 (by decide) ?_
      refine lv_icmp_ne (tgt := 558) hx hb dL_thrown_531 (by decide) (fun _ => ?_) (fun c531 => ?_)
      · refine W.widen (k := (1740 + 224 * k + 4)) (n := (6 * (1740 + 224 * k + 4))) (by omega) (by omega) ?_
        exact c558 _ _ hP hD hS ls (lv_sub hl [0, 1, 2, 3, 4] rfl)
      · refine lv_iload hx hb dL_thrown_534 (lv_at hl 1 rfl) ?_
        refine lv_if_eq (tgt := 555) hx hb dL_thrown_536 (by decide) (fun q => absurd q (by decide)) (fun _ => ?_)
        refine lv_aload_n hx hb dL_thrown_539 rfl (lv_at hl 4 rfl) ?_
        refine lv_iload hx hb dL_thrown_540 (lv_at hl 0 rfl) ?_
        refine hcLi (wr := []) (u := u) (G := ((-1002), u)) (As := [.ref (ad 0), .int (nI k)]) (rest := []) ⟨hx, hb, hml, hown, hts⟩ (by rw [← z_give (w := u) hk hg c531]; exact kL_giveFeather l hfl D ca en ks vs ai ad bd _ u (nI k) hoi) (vx_cwSW 2 hts mL_thrown_L_giveFeather rfl rfl rfl (by decide +kernel) ⟨Nat.le_of_ble_eq_true rfl, Nat.le_of_ble_eq_true rfl⟩) hK hP hD hS hA hX (List.Perm.refl _) rfl hl.1 rfl (Nat.le_of_ble_eq_true rfl) ⟨by show _ ≤ 5600; omega, by show _ ≤ 33600; omega⟩ dL_thrown_542 (fun H locs hP hD hS => ?_)
        refine W.widen (k := ((1740 + 224 * k) + 4)) (n := (6 * (1740 + 224 * k) + 24)) (by omega) (by omega) ?_
        refine lv_sipush (v := (-1002)) hx hb dL_thrown_545 (by decide) ?_
        refine lv_icmp_ne (tgt := 555) hx hb dL_thrown_548 (by decide) (fun q => absurd rfl q) (fun _ => ?_)
        refine lv_iconst (v := 1) hx hb dL_thrown_551 (by decide) ?_
        refine lv_goto (tgt := 556) hx hb dL_thrown_552 (by decide) ?_
        refine lv_istore (lv' := [(4, .int 1), (5, .int (nI k)), (3, .int (h9 (og0 u))), (1, .long (asks (og0 u))), (0, .ref (ad 0))]) hx hb dL_thrown_556 hl (by decide) rfl (fun ls hl => ?_)
        refine W.widen (k := (1740 + 224 * k + 4)) (n := (6 * (1740 + 224 * k + 4))) (by omega) (by omega) ?_
        exact c558 _ _ hP hD hS ls (lv_sub hl [1, 0, 2, 3, 4] rfl)
  have c65 : ∀  (H : Heap) (locs : List Loc) (hP : va_P D vwCl (OW ca en ai ad bd u) H) (hD : va_D A (OW ca en ai ad bd u)) (hS : va_S A s.heap H locs) (ls : Array Slot) (hl : lv_has ls 7 [(3, .int (h9 (og0 u))), (1, .long (asks (og0 u))), (0, .ref (ad 0))]), W p l e (headSpec wmL_thrown ({ frames := 11, cells := 5600, slots := 33600, locals := 248 })).room s m ([.ref (ad 0)] : List Value).toArray below meth c H locs (1644 + 8) (6 * (1644 + 8)) (MQ below (va_Qi (fun r v => r = 1 ∧ (∃ L, LI nn9 L v) ∧ og0 v = og0 u ∧ q1 (og5 v) = 0) (MB D ca A (fun v => OW ca en ai ad bd v)) A) ([.ref (ad 0)] : List Value).toArray s 5600 33600 A) (F0 m 65 ls []) := by
    intro H locs hP hD hS ls hl
    refine lv_aload_n hx hb dL_thrown_65 rfl (lv_at hl 2 rfl) ?_
    refine lv_iload_n hx hb dL_thrown_66 rfl (lv_at hl 0 rfl) ?_
    refine hcLi (wr := []) (u := u) (G := ((-1001), u)) (As := [.ref (ad 0), .int (h9 (og0 u))]) (rest := []) ⟨hx, hb, hml, hown, hts⟩ (by rw [← y_give u]; exact kL_giveFeather l hfl D ca en ks vs ai ad bd _ u (h9 (og0 u)) hoi) (vx_cwSW 2 hts mL_thrown_L_giveFeather rfl rfl rfl (by decide +kernel) ⟨Nat.le_of_ble_eq_true rfl, Nat.le_of_ble_eq_true rfl⟩) hK hP hD hS hA hX (List.Perm.refl _) rfl hl.1 rfl (Nat.le_of_ble_eq_true rfl) ⟨by show _ ≤ 5600; omega, by show _ ≤ 33600; omega⟩ dL_thrown_67 (fun H locs hP hD hS => ?_)
    refine W.widen (k := ((1644 + 8) + 2)) (n := (6 * (1644 + 8) + 12)) (by omega) (by omega) ?_
    refine lv_sipush (v := (-1001)) hx hb dL_thrown_70 (by decide) ?_
    refine lv_icmp_ne (tgt := 511) hx hb dL_thrown_73 (by decide) (fun q => absurd rfl q) (fun _ => ?_)
    refine lv_aload_n hx hb dL_thrown_76 rfl (lv_at hl 2 rfl) ?_
    refine lv_iload_n hx hb dL_thrown_77 rfl (lv_at hl 0 rfl) ?_
    refine lv_iconst (v := 0) hx hb dL_thrown_78 (by decide) ?_
    refine hcLi (wr := []) (u := u) (G := ((-1001), u)) (As := [.ref (ad 0), .int (h9 (og0 u)), .int 0]) (rest := []) ⟨hx, hb, hml, hown, hts⟩ (by rw [← y_place u 0]; exact kL_placeHat l hfl D ca en ks vs ai ad bd _ u (h9 (og0 u)) 0 hoi) (vx_cwSW 3 hts mL_thrown_L_placeHat rfl rfl rfl (by decide +kernel) ⟨Nat.le_of_ble_eq_true rfl, Nat.le_of_ble_eq_true rfl⟩) hK hP hD hS hA hX (List.Perm.refl _) rfl hl.1 rfl (Nat.le_of_ble_eq_true rfl) ⟨by show _ ≤ 5600; omega, by show _ ≤ 33600; omega⟩ dL_thrown_79 (fun H locs hP hD hS => ?_)
    refine W.widen (k := ((1644 + 8) + 4)) (n := (6 * (1644 + 8) + 24)) (by omega) (by omega) ?_
    refine lv_sipush (v := (-1001)) hx hb dL_thrown_82 (by decide) ?_
    refine lv_icmp_ne (tgt := 511) hx hb dL_thrown_85 (by decide) (fun q => absurd rfl q) (fun _ => ?_)
    refine lv_aload_n hx hb dL_thrown_88 rfl (lv_at hl 2 rfl) ?_
    refine lv_iconst (v := 0) hx hb dL_thrown_89 (by decide) ?_
    refine lv_bipush (v := 40) hx hb dL_thrown_90 (by decide) ?_
    refine hcLi (wr := []) (u := u) (G := ((-1001), u)) (As := [.ref (ad 0), .int 0, .int 40]) (rest := []) ⟨hx, hb, hml, hown, hts⟩ (by rw [← y_placec u 0 40 hc_40]; exact kL_placeHat l hfl D ca en ks vs ai ad bd _ u 0 40 hoi) (vx_cwSW 3 hts mL_thrown_L_placeHat rfl rfl rfl (by decide +kernel) ⟨Nat.le_of_ble_eq_true rfl, Nat.le_of_ble_eq_true rfl⟩) hK hP hD hS hA hX (List.Perm.refl _) rfl hl.1 rfl (Nat.le_of_ble_eq_true rfl) ⟨by show _ ≤ 5600; omega, by show _ ≤ 33600; omega⟩ dL_thrown_92 (fun H locs hP hD hS => ?_)
    refine W.widen (k := ((1644 + 8) + 6)) (n := (6 * (1644 + 8) + 36)) (by omega) (by omega) ?_
    refine lv_sipush (v := (-1001)) hx hb dL_thrown_95 (by decide) ?_
    refine lv_icmp_ne (tgt := 511) hx hb dL_thrown_98 (by decide) (fun q => absurd rfl q) (fun _ => ?_)
    refine lv_aload_n hx hb dL_thrown_101 rfl (lv_at hl 2 rfl) ?_
    refine lv_iconst (v := 0) hx hb dL_thrown_102 (by decide) ?_
    refine lv_iconst (v := (-1)) hx hb dL_thrown_103 (by decide) ?_
    refine hcLi (wr := []) (u := u) (G := ((-1001), u)) (As := [.ref (ad 0), .int 0, .int (-1)]) (rest := []) ⟨hx, hb, hml, hown, hts⟩ (by rw [← y_placec u 0 (-1) hc_m]; exact kL_placeHat l hfl D ca en ks vs ai ad bd _ u 0 (-1) hoi) (vx_cwSW 3 hts mL_thrown_L_placeHat rfl rfl rfl (by decide +kernel) ⟨Nat.le_of_ble_eq_true rfl, Nat.le_of_ble_eq_true rfl⟩) hK hP hD hS hA hX (List.Perm.refl _) rfl hl.1 rfl (Nat.le_of_ble_eq_true rfl) ⟨by show _ ≤ 5600; omega, by show _ ≤ 33600; omega⟩ dL_thrown_104 (fun H locs hP hD hS => ?_)
    refine W.widen (k := ((1644 + 8) + 8)) (n := (6 * (1644 + 8) + 48)) (by omega) (by omega) ?_
    refine lv_sipush (v := (-1001)) hx hb dL_thrown_107 (by decide) ?_
    refine lv_icmp_ne (tgt := 511) hx hb dL_thrown_110 (by decide) (fun q => absurd rfl q) (fun _ => ?_)
    refine lv_aload_n hx hb dL_thrown_113 rfl (lv_at hl 2 rfl) ?_
    refine lv_iload_n hx hb dL_thrown_114 rfl (lv_at hl 0 rfl) ?_
    refine hcLi (wr := []) (u := u) (G := ((-1001), u)) (As := [.ref (ad 0), .int (h9 (og0 u))]) (rest := []) ⟨hx, hb, hml, hown, hts⟩ (by rw [← y_remove u]; exact kL_removeHat l hfl D ca en ks vs ai ad bd _ u (h9 (og0 u)) hoi) (vx_cwSW 2 hts mL_thrown_L_removeHat rfl rfl rfl (by decide +kernel) ⟨Nat.le_of_ble_eq_true rfl, Nat.le_of_ble_eq_true rfl⟩) hK hP hD hS hA hX (List.Perm.refl _) rfl hl.1 rfl (Nat.le_of_ble_eq_true rfl) ⟨by show _ ≤ 5600; omega, by show _ ≤ 33600; omega⟩ dL_thrown_115 (fun H locs hP hD hS => ?_)
    refine W.widen (k := ((1644 + 8) + 10)) (n := (6 * (1644 + 8) + 60)) (by omega) (by omega) ?_
    refine lv_sipush (v := (-1001)) hx hb dL_thrown_118 (by decide) ?_
    refine lv_icmp_ne (tgt := 511) hx hb dL_thrown_121 (by decide) (fun q => absurd rfl q) (fun _ => ?_)
    refine lv_aload_n hx hb dL_thrown_124 rfl (lv_at hl 2 rfl) ?_
    refine lv_iload_n hx hb dL_thrown_125 rfl (lv_at hl 0 rfl) ?_
    refine hcLi (wr := []) (u := u) (G := ((-1001), u)) (As := [.ref (ad 0), .int (h9 (og0 u))]) (rest := []) ⟨hx, hb, hml, hown, hts⟩ (by rw [← y_touch u]; exact kL_touchHat l hfl D ca en ks vs ai ad bd _ u (h9 (og0 u)) hoi) (vx_cwSW 2 hts mL_thrown_L_touchHat rfl rfl rfl (by decide +kernel) ⟨Nat.le_of_ble_eq_true rfl, Nat.le_of_ble_eq_true rfl⟩) hK hP hD hS hA hX (List.Perm.refl _) rfl hl.1 rfl (Nat.le_of_ble_eq_true rfl) ⟨by show _ ≤ 5600; omega, by show _ ≤ 33600; omega⟩ dL_thrown_126 (fun H locs hP hD hS => ?_)
    refine W.widen (k := ((1644 + 8) + 12)) (n := (6 * (1644 + 8) + 72)) (by omega) (by omega) ?_
    refine lv_sipush (v := (-1001)) hx hb dL_thrown_129 (by decide) ?_
    refine lv_icmp_ne (tgt := 511) hx hb dL_thrown_132 (by decide) (fun q => absurd rfl q) (fun _ => ?_)
    refine lv_aload_n hx hb dL_thrown_135 rfl (lv_at hl 2 rfl) ?_
    refine lv_iload_n hx hb dL_thrown_136 rfl (lv_at hl 0 rfl) ?_
    refine hcLi (wr := []) (u := u) (G := ((-1001), u)) (As := [.ref (ad 0), .int (h9 (og0 u))]) (rest := []) ⟨hx, hb, hml, hown, hts⟩ (by rw [← (show wrp (fX5_feathers u (h9 (og0 u))) = ((-1001), u) from (rd_feathers u (h9 (og0 u))).trans (by rw [y_feathers]))]; exact kL_feathers l hfl D ca en ks vs ai ad bd _ u (h9 (og0 u)) hoi) (vx_cwSW 2 hts mL_thrown_L_feathers rfl rfl rfl (by decide +kernel) ⟨Nat.le_of_ble_eq_true rfl, Nat.le_of_ble_eq_true rfl⟩) hK hP hD hS hA hX (List.Perm.refl _) rfl hl.1 rfl (Nat.le_of_ble_eq_true rfl) ⟨by show _ ≤ 5600; omega, by show _ ≤ 33600; omega⟩ dL_thrown_137 (fun H locs hP hD hS => ?_)
    refine W.widen (k := ((1644 + 8) + 14)) (n := (6 * (1644 + 8) + 84)) (by omega) (by omega) ?_
    refine lv_sipush (v := (-1001)) hx hb dL_thrown_140 (by decide) ?_
    refine lv_icmp_ne (tgt := 511) hx hb dL_thrown_143 (by decide) (fun q => absurd rfl q) (fun _ => ?_)
    refine lv_aload_n hx hb dL_thrown_146 rfl (lv_at hl 2 rfl) ?_
    refine lv_iconst (v := (-1)) hx hb dL_thrown_147 (by decide) ?_
    refine hcLi (wr := []) (u := u) (G := ((-1001), u)) (As := [.ref (ad 0), .int (-1)]) (rest := []) ⟨hx, hb, hml, hown, hts⟩ (by rw [← (show wrp (fX5_brim u (-1)) = ((-1001), u) from (rd_brim u (-1)).trans (by rw [y_brim]))]; exact kL_brim l hfl D ca en ks vs ai ad bd _ u (-1) hoi) (vx_cwSW 2 hts mL_thrown_L_brim rfl rfl rfl (by decide +kernel) ⟨Nat.le_of_ble_eq_true rfl, Nat.le_of_ble_eq_true rfl⟩) hK hP hD hS hA hX (List.Perm.refl _) rfl hl.1 rfl (Nat.le_of_ble_eq_true rfl) ⟨by show _ ≤ 5600; omega, by show _ ≤ 33600; omega⟩ dL_thrown_148 (fun H locs hP hD hS => ?_)
    refine W.widen (k := ((1644 + 8) + 16)) (n := (6 * (1644 + 8) + 96)) (by omega) (by omega) ?_
    refine lv_sipush (v := (-1001)) hx hb dL_thrown_151 (by decide) ?_
    refine lv_icmp_ne (tgt := 511) hx hb dL_thrown_154 (by decide) (fun q => absurd rfl q) (fun _ => ?_)
    refine lv_aload_n hx hb dL_thrown_157 rfl (lv_at hl 2 rfl) ?_
    refine lv_iload_n hx hb dL_thrown_158 rfl (lv_at hl 0 rfl) ?_
    refine hcLi (wr := []) (u := u) (G := ((-1001), u)) (As := [.ref (ad 0), .int (h9 (og0 u))]) (rest := []) ⟨hx, hb, hml, hown, hts⟩ (by rw [← (show wrb (fX5_isPlaced u (h9 (og0 u))) = ((-1001), u) from (rd_isPlaced u (h9 (og0 u))).trans (by rw [y_isPlaced]))]; exact kL_isPlaced l hfl D ca en ks vs ai ad bd _ u (h9 (og0 u)) hoi) (vx_cwSW 2 hts mL_thrown_L_isPlaced rfl rfl rfl (by decide +kernel) ⟨Nat.le_of_ble_eq_true rfl, Nat.le_of_ble_eq_true rfl⟩) hK hP hD hS hA hX (List.Perm.refl _) rfl hl.1 rfl (Nat.le_of_ble_eq_true rfl) ⟨by show _ ≤ 5600; omega, by show _ ≤ 33600; omega⟩ dL_thrown_159 (fun H locs hP hD hS => ?_)
    refine W.widen (k := ((1644 + 8) + 18)) (n := (6 * (1644 + 8) + 108)) (by omega) (by omega) ?_
    refine lv_sipush (v := (-1001)) hx hb dL_thrown_162 (by decide) ?_
    refine lv_icmp_ne (tgt := 511) hx hb dL_thrown_165 (by decide) (fun q => absurd rfl q) (fun _ => ?_)
    refine lv_aload_n hx hb dL_thrown_168 rfl (lv_at hl 2 rfl) ?_
    refine lv_iload_n hx hb dL_thrown_169 rfl (lv_at hl 0 rfl) ?_
    refine hcLi (wr := []) (u := u) (G := ((-1001), u)) (As := [.ref (ad 0), .int (h9 (og0 u))]) (rest := []) ⟨hx, hb, hml, hown, hts⟩ (by rw [← (show wrp (fX5_hatChair u (h9 (og0 u))) = ((-1001), u) from (rd_hatChair u (h9 (og0 u))).trans (by rw [y_hatChair]))]; exact kL_hatChair l hfl D ca en ks vs ai ad bd _ u (h9 (og0 u)) hoi) (vx_cwSW 2 hts mL_thrown_L_hatChair rfl rfl rfl (by decide +kernel) ⟨Nat.le_of_ble_eq_true rfl, Nat.le_of_ble_eq_true rfl⟩) hK hP hD hS hA hX (List.Perm.refl _) rfl hl.1 rfl (Nat.le_of_ble_eq_true rfl) ⟨by show _ ≤ 5600; omega, by show _ ≤ 33600; omega⟩ dL_thrown_170 (fun H locs hP hD hS => ?_)
    refine W.widen (k := ((1644 + 8) + 20)) (n := (6 * (1644 + 8) + 120)) (by omega) (by omega) ?_
    refine lv_sipush (v := (-1001)) hx hb dL_thrown_173 (by decide) ?_
    refine lv_icmp_ne (tgt := 511) hx hb dL_thrown_176 (by decide) (fun q => absurd rfl q) (fun _ => ?_)
    refine lv_aload_n hx hb dL_thrown_179 rfl (lv_at hl 2 rfl) ?_
    refine lv_iload_n hx hb dL_thrown_180 rfl (lv_at hl 0 rfl) ?_
    refine hcLi (wr := []) (u := u) (G := ((-1001), u)) (As := [.ref (ad 0), .int (h9 (og0 u))]) (rest := []) ⟨hx, hb, hml, hown, hts⟩ (by rw [← (show wrp (fX5_coverSize u (h9 (og0 u))) = ((-1001), u) from (rd_coverSize u (h9 (og0 u))).trans (by rw [y_coverSize]))]; exact kL_coverSize l hfl D ca en ks vs ai ad bd _ u (h9 (og0 u)) hoi) (vx_cwSW 2 hts mL_thrown_L_coverSize rfl rfl rfl (by decide +kernel) ⟨Nat.le_of_ble_eq_true rfl, Nat.le_of_ble_eq_true rfl⟩) hK hP hD hS hA hX (List.Perm.refl _) rfl hl.1 rfl (Nat.le_of_ble_eq_true rfl) ⟨by show _ ≤ 5600; omega, by show _ ≤ 33600; omega⟩ dL_thrown_181 (fun H locs hP hD hS => ?_)
    refine W.widen (k := ((1644 + 8) + 22)) (n := (6 * (1644 + 8) + 132)) (by omega) (by omega) ?_
    refine lv_sipush (v := (-1001)) hx hb dL_thrown_184 (by decide) ?_
    refine lv_icmp_ne (tgt := 511) hx hb dL_thrown_187 (by decide) (fun q => absurd rfl q) (fun _ => ?_)
    refine lv_aload_n hx hb dL_thrown_190 rfl (lv_at hl 2 rfl) ?_
    refine lv_iload_n hx hb dL_thrown_191 rfl (lv_at hl 0 rfl) ?_
    refine hcLi (wr := []) (u := u) (G := ((-1001), u)) (As := [.ref (ad 0), .int (h9 (og0 u))]) (rest := []) ⟨hx, hb, hml, hown, hts⟩ (by rw [← (show wrp (fX5_idleMinutes u (h9 (og0 u))) = ((-1001), u) from (rd_idleMinutes u (h9 (og0 u))).trans (by rw [y_idle]))]; exact kL_idle l hfl D ca en ks vs ai ad bd _ u (h9 (og0 u)) hoi) (vx_cwSW 2 hts mL_thrown_L_idle rfl rfl rfl (by decide +kernel) ⟨Nat.le_of_ble_eq_true rfl, Nat.le_of_ble_eq_true rfl⟩) hK hP hD hS hA hX (List.Perm.refl _) rfl hl.1 rfl (Nat.le_of_ble_eq_true rfl) ⟨by show _ ≤ 5600; omega, by show _ ≤ 33600; omega⟩ dL_thrown_192 (fun H locs hP hD hS => ?_)
    refine W.widen (k := ((1644 + 8) + 24)) (n := (6 * (1644 + 8) + 144)) (by omega) (by omega) ?_
    refine lv_sipush (v := (-1001)) hx hb dL_thrown_195 (by decide) ?_
    refine lv_icmp_ne (tgt := 511) hx hb dL_thrown_198 (by decide) (fun q => absurd rfl q) (fun _ => ?_)
    refine lv_aload_n hx hb dL_thrown_201 rfl (lv_at hl 2 rfl) ?_
    refine lv_iload_n hx hb dL_thrown_202 rfl (lv_at hl 0 rfl) ?_
    refine lv_iconst (v := 0) hx hb dL_thrown_203 (by decide) ?_
    refine hcLi (wr := []) (u := u) (G := ((-1001), u)) (As := [.ref (ad 0), .int (h9 (og0 u)), .int 0]) (rest := []) ⟨hx, hb, hml, hown, hts⟩ (by rw [← y_leave u 0]; exact kL_leaveCoat l hfl D ca en ks vs ai ad bd _ u (h9 (og0 u)) 0 hoi) (vx_cwSW 3 hts mL_thrown_L_leaveCoat rfl rfl rfl (by decide +kernel) ⟨Nat.le_of_ble_eq_true rfl, Nat.le_of_ble_eq_true rfl⟩) hK hP hD hS hA hX (List.Perm.refl _) rfl hl.1 rfl (Nat.le_of_ble_eq_true rfl) ⟨by show _ ≤ 5600; omega, by show _ ≤ 33600; omega⟩ dL_thrown_204 (fun H locs hP hD hS => ?_)
    refine W.widen (k := ((1644 + 8) + 26)) (n := (6 * (1644 + 8) + 156)) (by omega) (by omega) ?_
    refine lv_sipush (v := (-1001)) hx hb dL_thrown_207 (by decide) ?_
    refine lv_icmp_ne (tgt := 511) hx hb dL_thrown_210 (by decide) (fun q => absurd rfl q) (fun _ => ?_)
    refine lv_aload_n hx hb dL_thrown_213 rfl (lv_at hl 2 rfl) ?_
    refine lv_iconst (v := 0) hx hb dL_thrown_214 (by decide) ?_
    refine lv_bipush (v := 40) hx hb dL_thrown_215 (by decide) ?_
    refine hcLi (wr := []) (u := u) (G := ((-1001), u)) (As := [.ref (ad 0), .int 0, .int 40]) (rest := []) ⟨hx, hb, hml, hown, hts⟩ (by rw [← y_leavec u 0 40 hc_40]; exact kL_leaveCoat l hfl D ca en ks vs ai ad bd _ u 0 40 hoi) (vx_cwSW 3 hts mL_thrown_L_leaveCoat rfl rfl rfl (by decide +kernel) ⟨Nat.le_of_ble_eq_true rfl, Nat.le_of_ble_eq_true rfl⟩) hK hP hD hS hA hX (List.Perm.refl _) rfl hl.1 rfl (Nat.le_of_ble_eq_true rfl) ⟨by show _ ≤ 5600; omega, by show _ ≤ 33600; omega⟩ dL_thrown_217 (fun H locs hP hD hS => ?_)
    refine W.widen (k := ((1644 + 8) + 28)) (n := (6 * (1644 + 8) + 168)) (by omega) (by omega) ?_
    refine lv_sipush (v := (-1001)) hx hb dL_thrown_220 (by decide) ?_
    refine lv_icmp_ne (tgt := 511) hx hb dL_thrown_223 (by decide) (fun q => absurd rfl q) (fun _ => ?_)
    refine lv_aload_n hx hb dL_thrown_226 rfl (lv_at hl 2 rfl) ?_
    refine lv_iload_n hx hb dL_thrown_227 rfl (lv_at hl 0 rfl) ?_
    refine hcLi (wr := []) (u := u) (G := ((-1001), u)) (As := [.ref (ad 0), .int (h9 (og0 u))]) (rest := []) ⟨hx, hb, hml, hown, hts⟩ (by rw [← y_take u]; exact kL_takeCoat l hfl D ca en ks vs ai ad bd _ u (h9 (og0 u)) hoi) (vx_cwSW 2 hts mL_thrown_L_takeCoat rfl rfl rfl (by decide +kernel) ⟨Nat.le_of_ble_eq_true rfl, Nat.le_of_ble_eq_true rfl⟩) hK hP hD hS hA hX (List.Perm.refl _) rfl hl.1 rfl (Nat.le_of_ble_eq_true rfl) ⟨by show _ ≤ 5600; omega, by show _ ≤ 33600; omega⟩ dL_thrown_228 (fun H locs hP hD hS => ?_)
    refine W.widen (k := ((1644 + 8) + 30)) (n := (6 * (1644 + 8) + 180)) (by omega) (by omega) ?_
    refine lv_sipush (v := (-1001)) hx hb dL_thrown_231 (by decide) ?_
    refine lv_icmp_ne (tgt := 511) hx hb dL_thrown_234 (by decide) (fun q => absurd rfl q) (fun _ => ?_)
    refine lv_aload_n hx hb dL_thrown_237 rfl (lv_at hl 2 rfl) ?_
    refine lv_iload_n hx hb dL_thrown_238 rfl (lv_at hl 0 rfl) ?_
    refine hcLi (wr := []) (u := u) (G := ((-1001), u)) (As := [.ref (ad 0), .int (h9 (og0 u))]) (rest := []) ⟨hx, hb, hml, hown, hts⟩ (by rw [← (show wrb (fX5_hasCoatLeft u (h9 (og0 u))) = ((-1001), u) from (rd_hasCoatLeft u (h9 (og0 u))).trans (by rw [y_hasCoat]))]; exact kL_hasCoat l hfl D ca en ks vs ai ad bd _ u (h9 (og0 u)) hoi) (vx_cwSW 2 hts mL_thrown_L_hasCoat rfl rfl rfl (by decide +kernel) ⟨Nat.le_of_ble_eq_true rfl, Nat.le_of_ble_eq_true rfl⟩) hK hP hD hS hA hX (List.Perm.refl _) rfl hl.1 rfl (Nat.le_of_ble_eq_true rfl) ⟨by show _ ≤ 5600; omega, by show _ ≤ 33600; omega⟩ dL_thrown_239 (fun H locs hP hD hS => ?_)
    refine W.widen (k := ((1644 + 8) + 32)) (n := (6 * (1644 + 8) + 192)) (by omega) (by omega) ?_
    refine lv_sipush (v := (-1001)) hx hb dL_thrown_242 (by decide) ?_
    refine lv_icmp_ne (tgt := 511) hx hb dL_thrown_245 (by decide) (fun q => absurd rfl q) (fun _ => ?_)
    refine lv_aload_n hx hb dL_thrown_248 rfl (lv_at hl 2 rfl) ?_
    refine lv_iload_n hx hb dL_thrown_249 rfl (lv_at hl 0 rfl) ?_
    refine hcLi (wr := []) (u := u) (G := ((-1001), u)) (As := [.ref (ad 0), .int (h9 (og0 u))]) (rest := []) ⟨hx, hb, hml, hown, hts⟩ (by rw [← (show wrp (fX5_coatChair u (h9 (og0 u))) = ((-1001), u) from (rd_coatChair u (h9 (og0 u))).trans (by rw [y_coatChair]))]; exact kL_coatChair l hfl D ca en ks vs ai ad bd _ u (h9 (og0 u)) hoi) (vx_cwSW 2 hts mL_thrown_L_coatChair rfl rfl rfl (by decide +kernel) ⟨Nat.le_of_ble_eq_true rfl, Nat.le_of_ble_eq_true rfl⟩) hK hP hD hS hA hX (List.Perm.refl _) rfl hl.1 rfl (Nat.le_of_ble_eq_true rfl) ⟨by show _ ≤ 5600; omega, by show _ ≤ 33600; omega⟩ dL_thrown_250 (fun H locs hP hD hS => ?_)
    refine W.widen (k := ((1644 + 8) + 34)) (n := (6 * (1644 + 8) + 204)) (by omega) (by omega) ?_
    refine lv_sipush (v := (-1001)) hx hb dL_thrown_253 (by decide) ?_
    refine lv_icmp_ne (tgt := 511) hx hb dL_thrown_256 (by decide) (fun q => absurd rfl q) (fun _ => ?_)
    refine lv_aload_n hx hb dL_thrown_259 rfl (lv_at hl 2 rfl) ?_
    refine lv_bipush (v := 40) hx hb dL_thrown_260 (by decide) ?_
    refine hcLi (wr := []) (u := u) (G := ((-1001), u)) (As := [.ref (ad 0), .int 40]) (rest := []) ⟨hx, hb, hml, hown, hts⟩ (by rw [← (show wrp (fX5_coatCount u 40) = ((-1001), u) from (rd_coatCount u 40).trans (by rw [y_coatCount]))]; exact kL_coatCount l hfl D ca en ks vs ai ad bd _ u 40 hoi) (vx_cwSW 2 hts mL_thrown_L_coatCount rfl rfl rfl (by decide +kernel) ⟨Nat.le_of_ble_eq_true rfl, Nat.le_of_ble_eq_true rfl⟩) hK hP hD hS hA hX (List.Perm.refl _) rfl hl.1 rfl (Nat.le_of_ble_eq_true rfl) ⟨by show _ ≤ 5600; omega, by show _ ≤ 33600; omega⟩ dL_thrown_262 (fun H locs hP hD hS => ?_)
    refine W.widen (k := ((1644 + 8) + 36)) (n := (6 * (1644 + 8) + 216)) (by omega) (by omega) ?_
    refine lv_sipush (v := (-1001)) hx hb dL_thrown_265 (by decide) ?_
    refine lv_icmp_ne (tgt := 511) hx hb dL_thrown_268 (by decide) (fun q => absurd rfl q) (fun _ => ?_)
    refine lv_aload_n hx hb dL_thrown_271 rfl (lv_at hl 2 rfl) ?_
    refine lv_iconst (v := (-1)) hx hb dL_thrown_272 (by decide) ?_
    refine lv_iconst (v := 0) hx hb dL_thrown_273 (by decide) ?_
    refine hcLi (wr := []) (u := u) (G := ((-1001), u)) (As := [.ref (ad 0), .int (-1), .int 0]) (rest := []) ⟨hx, hb, hml, hown, hts⟩ (by rw [← (show wrp (fX5_coatOwner u (-1) 0) = ((-1001), u) from (rd_coatOwner u (-1) 0).trans (by rw [y_coatOwner]))]; exact kL_coatOwner l hfl D ca en ks vs ai ad bd _ u (-1) 0 hoi) (vx_cwSW 3 hts mL_thrown_L_coatOwner rfl rfl rfl (by decide +kernel) ⟨Nat.le_of_ble_eq_true rfl, Nat.le_of_ble_eq_true rfl⟩) hK hP hD hS hA hX (List.Perm.refl _) rfl hl.1 rfl (Nat.le_of_ble_eq_true rfl) ⟨by show _ ≤ 5600; omega, by show _ ≤ 33600; omega⟩ dL_thrown_274 (fun H locs hP hD hS => ?_)
    refine W.widen (k := ((1644 + 8) + 38)) (n := (6 * (1644 + 8) + 228)) (by omega) (by omega) ?_
    refine lv_sipush (v := (-1001)) hx hb dL_thrown_277 (by decide) ?_
    refine lv_icmp_ne (tgt := 511) hx hb dL_thrown_280 (by decide) (fun q => absurd rfl q) (fun _ => ?_)
    refine lv_aload_n hx hb dL_thrown_283 rfl (lv_at hl 2 rfl) ?_
    refine lv_bipush (v := 40) hx hb dL_thrown_284 (by decide) ?_
    refine hcLi (wr := []) (u := u) (G := ((-1001), u)) (As := [.ref (ad 0), .int 40]) (rest := []) ⟨hx, hb, hml, hown, hts⟩ (by rw [← (show wrp (fX5_nextClaimant u 40) = ((-1001), u) from (rd_nextClaimant u 40).trans (by rw [y_next]))]; exact kL_next l hfl D ca en ks vs ai ad bd _ u 40 hoi) (vx_cwSW 2 hts mL_thrown_L_next rfl rfl rfl (by decide +kernel) ⟨Nat.le_of_ble_eq_true rfl, Nat.le_of_ble_eq_true rfl⟩) hK hP hD hS hA hX (List.Perm.refl _) rfl hl.1 rfl (Nat.le_of_ble_eq_true rfl) ⟨by show _ ≤ 5600; omega, by show _ ≤ 33600; omega⟩ dL_thrown_286 (fun H locs hP hD hS => ?_)
    refine W.widen (k := ((1644 + 8) + 40)) (n := (6 * (1644 + 8) + 240)) (by omega) (by omega) ?_
    refine lv_sipush (v := (-1001)) hx hb dL_thrown_289 (by decide) ?_
    refine lv_icmp_ne (tgt := 511) hx hb dL_thrown_292 (by decide) (fun q => absurd rfl q) (fun _ => ?_)
    refine lv_aload_n hx hb dL_thrown_295 rfl (lv_at hl 2 rfl) ?_
    refine lv_iconst (v := (-1)) hx hb dL_thrown_296 (by decide) ?_
    refine hcLi (wr := []) (u := u) (G := ((-1001), u)) (As := [.ref (ad 0), .int (-1)]) (rest := []) ⟨hx, hb, hml, hown, hts⟩ (by rw [← y_byTime u]; exact kL_nextByTime l hfl D ca en ks vs ai ad bd _ u (-1) hoi (by rw [rch_m]; decide)) (vx_cwSW 2 hts mL_thrown_L_nextByTime rfl rfl rfl (by decide +kernel) ⟨Nat.le_of_ble_eq_true rfl, Nat.le_of_ble_eq_true rfl⟩) hK hP hD hS hA hX (List.Perm.refl _) rfl hl.1 rfl (Nat.le_of_ble_eq_true rfl) ⟨by show _ ≤ 5600; omega, by show _ ≤ 33600; omega⟩ dL_thrown_297 (fun H locs hP hD hS => ?_)
    refine W.widen (k := ((1644 + 8) + 42)) (n := (6 * (1644 + 8) + 252)) (by omega) (by omega) ?_
    refine lv_sipush (v := (-1001)) hx hb dL_thrown_300 (by decide) ?_
    refine lv_icmp_ne (tgt := 511) hx hb dL_thrown_303 (by decide) (fun q => absurd rfl q) (fun _ => ?_)
    refine lv_aload_n hx hb dL_thrown_306 rfl (lv_at hl 2 rfl) ?_
    refine lv_iload_n hx hb dL_thrown_307 rfl (lv_at hl 0 rfl) ?_
    refine lv_iconst (v := 0) hx hb dL_thrown_308 (by decide) ?_
    refine hcLi (wr := []) (u := u) (G := ((-1001), u)) (As := [.ref (ad 0), .int (h9 (og0 u)), .int 0]) (rest := []) ⟨hx, hb, hml, hown, hts⟩ (by rw [← y_contest u 0]; exact kL_contest l hfl D ca en ks vs ai ad bd _ u (h9 (og0 u)) 0 hoi) (vx_cwSW 3 hts mL_thrown_L_contest rfl rfl rfl (by decide +kernel) ⟨Nat.le_of_ble_eq_true rfl, Nat.le_of_ble_eq_true rfl⟩) hK hP hD hS hA hX (List.Perm.refl _) rfl hl.1 rfl (Nat.le_of_ble_eq_true rfl) ⟨by show _ ≤ 5600; omega, by show _ ≤ 33600; omega⟩ dL_thrown_309 (fun H locs hP hD hS => ?_)
    refine W.widen (k := ((1644 + 8) + 44)) (n := (6 * (1644 + 8) + 264)) (by omega) (by omega) ?_
    refine lv_sipush (v := (-1001)) hx hb dL_thrown_312 (by decide) ?_
    refine lv_icmp_ne (tgt := 511) hx hb dL_thrown_315 (by decide) (fun q => absurd rfl q) (fun _ => ?_)
    refine lv_aload_n hx hb dL_thrown_318 rfl (lv_at hl 2 rfl) ?_
    refine lv_iconst (v := 0) hx hb dL_thrown_319 (by decide) ?_
    refine lv_bipush (v := 40) hx hb dL_thrown_320 (by decide) ?_
    refine hcLi (wr := []) (u := u) (G := ((-1001), u)) (As := [.ref (ad 0), .int 0, .int 40]) (rest := []) ⟨hx, hb, hml, hown, hts⟩ (by rw [← y_contestc u 0 40 hc_40]; exact kL_contest l hfl D ca en ks vs ai ad bd _ u 0 40 hoi) (vx_cwSW 3 hts mL_thrown_L_contest rfl rfl rfl (by decide +kernel) ⟨Nat.le_of_ble_eq_true rfl, Nat.le_of_ble_eq_true rfl⟩) hK hP hD hS hA hX (List.Perm.refl _) rfl hl.1 rfl (Nat.le_of_ble_eq_true rfl) ⟨by show _ ≤ 5600; omega, by show _ ≤ 33600; omega⟩ dL_thrown_322 (fun H locs hP hD hS => ?_)
    refine W.widen (k := ((1644 + 8) + 46)) (n := (6 * (1644 + 8) + 276)) (by omega) (by omega) ?_
    refine lv_sipush (v := (-1001)) hx hb dL_thrown_325 (by decide) ?_
    refine lv_icmp_ne (tgt := 511) hx hb dL_thrown_328 (by decide) (fun q => absurd rfl q) (fun _ => ?_)
    refine lv_aload_n hx hb dL_thrown_331 rfl (lv_at hl 2 rfl) ?_
    refine lv_iconst (v := 0) hx hb dL_thrown_332 (by decide) ?_
    refine lv_bipush (v := 40) hx hb dL_thrown_333 (by decide) ?_
    refine hcLi (wr := []) (u := u) (G := ((-1001), u)) (As := [.ref (ad 0), .int 0, .int 40]) (rest := []) ⟨hx, hb, hml, hown, hts⟩ (by rw [← y_would u 0 40 (rt_c _ _ _ hc_40)]; exact kL_wouldWin l hfl D ca en ks vs ai ad bd _ u 0 40 hoi (rt_c _ _ _ hc_40)) (vx_cwSW 3 hts mL_thrown_L_wouldWin rfl rfl rfl (by decide +kernel) ⟨Nat.le_of_ble_eq_true rfl, Nat.le_of_ble_eq_true rfl⟩) hK hP hD hS hA hX (List.Perm.refl _) rfl hl.1 rfl (Nat.le_of_ble_eq_true rfl) ⟨by show _ ≤ 5600; omega, by show _ ≤ 33600; omega⟩ dL_thrown_335 (fun H locs hP hD hS => ?_)
    refine W.widen (k := ((1644 + 8) + 48)) (n := (6 * (1644 + 8) + 288)) (by omega) (by omega) ?_
    refine lv_sipush (v := (-1001)) hx hb dL_thrown_338 (by decide) ?_
    refine lv_icmp_ne (tgt := 511) hx hb dL_thrown_341 (by decide) (fun q => absurd rfl q) (fun _ => ?_)
    refine lv_aload_n hx hb dL_thrown_344 rfl (lv_at hl 2 rfl) ?_
    refine lv_iload_n hx hb dL_thrown_345 rfl (lv_at hl 0 rfl) ?_
    refine lv_iconst (v := 0) hx hb dL_thrown_346 (by decide) ?_
    refine hcLi (wr := []) (u := u) (G := ((-1001), u)) (As := [.ref (ad 0), .int (h9 (og0 u)), .int 0]) (rest := []) ⟨hx, hb, hml, hown, hts⟩ (by rw [← y_would u (h9 (og0 u)) 0 (rt_n _ _)]; exact kL_wouldWin l hfl D ca en ks vs ai ad bd _ u (h9 (og0 u)) 0 hoi (rt_n _ _)) (vx_cwSW 3 hts mL_thrown_L_wouldWin rfl rfl rfl (by decide +kernel) ⟨Nat.le_of_ble_eq_true rfl, Nat.le_of_ble_eq_true rfl⟩) hK hP hD hS hA hX (List.Perm.refl _) rfl hl.1 rfl (Nat.le_of_ble_eq_true rfl) ⟨by show _ ≤ 5600; omega, by show _ ≤ 33600; omega⟩ dL_thrown_347 (fun H locs hP hD hS => ?_)
    refine W.widen (k := ((1644 + 8) + 50)) (n := (6 * (1644 + 8) + 300)) (by omega) (by omega) ?_
    refine lv_sipush (v := (-1001)) hx hb dL_thrown_350 (by decide) ?_
    refine lv_icmp_ne (tgt := 511) hx hb dL_thrown_353 (by decide) (fun q => absurd rfl q) (fun _ => ?_)
    refine lv_aload_n hx hb dL_thrown_356 rfl (lv_at hl 2 rfl) ?_
    refine lv_iconst (v := 0) hx hb dL_thrown_357 (by decide) ?_
    refine hcLi (wr := []) (u := u) (G := ((-1001), u)) (As := [.ref (ad 0), .int 0]) (rest := []) ⟨hx, hb, hml, hown, hts⟩ (by rw [← y_pass0 u]; exact kL_pass l hfl D ca en ks vs ai ad bd _ u 0 hoi) (vx_cwSW 2 hts mL_thrown_L_pass rfl rfl rfl (by decide +kernel) ⟨Nat.le_of_ble_eq_true rfl, Nat.le_of_ble_eq_true rfl⟩) hK hP hD hS hA hX (List.Perm.refl _) rfl hl.1 rfl (Nat.le_of_ble_eq_true rfl) ⟨by show _ ≤ 5600; omega, by show _ ≤ 33600; omega⟩ dL_thrown_358 (fun H locs hP hD hS => ?_)
    refine W.widen (k := ((1644 + 8) + 52)) (n := (6 * (1644 + 8) + 312)) (by omega) (by omega) ?_
    refine lv_sipush (v := (-1001)) hx hb dL_thrown_361 (by decide) ?_
    refine lv_icmp_ne (tgt := 511) hx hb dL_thrown_364 (by decide) (fun q => absurd rfl q) (fun _ => ?_)
    refine lv_aload_n hx hb dL_thrown_367 rfl (lv_at hl 2 rfl) ?_
    refine lv_bipush (v := 61) hx hb dL_thrown_368 (by decide) ?_
    refine hcLi (wr := []) (u := u) (G := ((-1001), u)) (As := [.ref (ad 0), .int 61]) (rest := []) ⟨hx, hb, hml, hown, hts⟩ (by rw [← y_pass61 u]; exact kL_pass l hfl D ca en ks vs ai ad bd _ u 61 hoi) (vx_cwSW 2 hts mL_thrown_L_pass rfl rfl rfl (by decide +kernel) ⟨Nat.le_of_ble_eq_true rfl, Nat.le_of_ble_eq_true rfl⟩) hK hP hD hS hA hX (List.Perm.refl _) rfl hl.1 rfl (Nat.le_of_ble_eq_true rfl) ⟨by show _ ≤ 5600; omega, by show _ ≤ 33600; omega⟩ dL_thrown_370 (fun H locs hP hD hS => ?_)
    refine W.widen (k := ((1644 + 8) + 54)) (n := (6 * (1644 + 8) + 324)) (by omega) (by omega) ?_
    refine lv_sipush (v := (-1001)) hx hb dL_thrown_373 (by decide) ?_
    refine lv_icmp_ne (tgt := 511) hx hb dL_thrown_376 (by decide) (fun q => absurd rfl q) (fun _ => ?_)
    refine lv_aload_n hx hb dL_thrown_379 rfl (lv_at hl 2 rfl) ?_
    refine lv_iconst (v := 0) hx hb dL_thrown_380 (by decide) ?_
    refine hcLi (wr := []) (u := u) (G := ((-1001), u)) (As := [.ref (ad 0), .int 0]) (rest := []) ⟨hx, hb, hml, hown, hts⟩ (by rw [← y_sweep0 u]; exact kL_sweep l hfl D ca en ks vs ai ad bd _ u 0 hoi) (vx_cwSW 2 hts mL_thrown_L_sweep rfl rfl rfl (by decide +kernel) ⟨Nat.le_of_ble_eq_true rfl, Nat.le_of_ble_eq_true rfl⟩) hK hP hD hS hA hX (List.Perm.refl _) rfl hl.1 rfl (Nat.le_of_ble_eq_true rfl) ⟨by show _ ≤ 5600; omega, by show _ ≤ 33600; omega⟩ dL_thrown_381 (fun H locs hP hD hS => ?_)
    refine W.widen (k := ((1644 + 8) + 56)) (n := (6 * (1644 + 8) + 336)) (by omega) (by omega) ?_
    refine lv_sipush (v := (-1001)) hx hb dL_thrown_384 (by decide) ?_
    refine lv_icmp_ne (tgt := 511) hx hb dL_thrown_387 (by decide) (fun q => absurd rfl q) (fun _ => ?_)
    refine lv_aload_n hx hb dL_thrown_390 rfl (lv_at hl 2 rfl) ?_
    refine lv_sipush (v := 241) hx hb dL_thrown_391 (by decide) ?_
    refine hcLi (wr := []) (u := u) (G := ((-1001), u)) (As := [.ref (ad 0), .int 241]) (rest := []) ⟨hx, hb, hml, hown, hts⟩ (by rw [← y_sweep241 u]; exact kL_sweep l hfl D ca en ks vs ai ad bd _ u 241 hoi) (vx_cwSW 2 hts mL_thrown_L_sweep rfl rfl rfl (by decide +kernel) ⟨Nat.le_of_ble_eq_true rfl, Nat.le_of_ble_eq_true rfl⟩) hK hP hD hS hA hX (List.Perm.refl _) rfl hl.1 rfl (Nat.le_of_ble_eq_true rfl) ⟨by show _ ≤ 5600; omega, by show _ ≤ 33600; omega⟩ dL_thrown_394 (fun H locs hP hD hS => ?_)
    refine W.widen (k := ((1644 + 8) + 58)) (n := (6 * (1644 + 8) + 348)) (by omega) (by omega) ?_
    refine lv_sipush (v := (-1001)) hx hb dL_thrown_397 (by decide) ?_
    refine lv_icmp_ne (tgt := 511) hx hb dL_thrown_400 (by decide) (fun q => absurd rfl q) (fun _ => ?_)
    refine lv_aload_n hx hb dL_thrown_403 rfl (lv_at hl 2 rfl) ?_
    refine lv_bipush (v := 40) hx hb dL_thrown_404 (by decide) ?_
    refine hcLi (wr := []) (u := u) (G := ((-1001), u)) (As := [.ref (ad 0), .int 40]) (rest := []) ⟨hx, hb, hml, hown, hts⟩ (by rw [← (show wrb (fX5_isCovered u 40) = ((-1001), u) from (rd_isCovered u 40).trans (by rw [y_isCovered]))]; exact kL_isCovered l hfl D ca en ks vs ai ad bd _ u 40 hoi) (vx_cwSW 2 hts mL_thrown_L_isCovered rfl rfl rfl (by decide +kernel) ⟨Nat.le_of_ble_eq_true rfl, Nat.le_of_ble_eq_true rfl⟩) hK hP hD hS hA hX (List.Perm.refl _) rfl hl.1 rfl (Nat.le_of_ble_eq_true rfl) ⟨by show _ ≤ 5600; omega, by show _ ≤ 33600; omega⟩ dL_thrown_406 (fun H locs hP hD hS => ?_)
    refine W.widen (k := ((1644 + 8) + 60)) (n := (6 * (1644 + 8) + 360)) (by omega) (by omega) ?_
    refine lv_sipush (v := (-1001)) hx hb dL_thrown_409 (by decide) ?_
    refine lv_icmp_ne (tgt := 511) hx hb dL_thrown_412 (by decide) (fun q => absurd rfl q) (fun _ => ?_)
    refine lv_aload_n hx hb dL_thrown_415 rfl (lv_at hl 2 rfl) ?_
    refine lv_iconst (v := (-1)) hx hb dL_thrown_416 (by decide) ?_
    refine hcLi (wr := []) (u := u) (G := ((-1001), u)) (As := [.ref (ad 0), .int (-1)]) (rest := []) ⟨hx, hb, hml, hown, hts⟩ (by rw [← (show wrp (fX5_covererOf u (-1)) = ((-1001), u) from (rd_covererOf u (-1)).trans (by rw [y_coverer]))]; exact kL_coverer l hfl D ca en ks vs ai ad bd _ u (-1) hoi) (vx_cwSW 2 hts mL_thrown_L_coverer rfl rfl rfl (by decide +kernel) ⟨Nat.le_of_ble_eq_true rfl, Nat.le_of_ble_eq_true rfl⟩) hK hP hD hS hA hX (List.Perm.refl _) rfl hl.1 rfl (Nat.le_of_ble_eq_true rfl) ⟨by show _ ≤ 5600; omega, by show _ ≤ 33600; omega⟩ dL_thrown_417 (fun H locs hP hD hS => ?_)
    refine W.widen (k := ((1644 + 8) + 62)) (n := (6 * (1644 + 8) + 372)) (by omega) (by omega) ?_
    refine lv_sipush (v := (-1001)) hx hb dL_thrown_420 (by decide) ?_
    refine lv_icmp_ne (tgt := 511) hx hb dL_thrown_423 (by decide) (fun q => absurd rfl q) (fun _ => ?_)
    refine lv_aload_n hx hb dL_thrown_426 rfl (lv_at hl 2 rfl) ?_
    refine lv_iconst (v := 4) hx hb dL_thrown_427 (by decide) ?_
    refine hcLi (wr := []) (u := u) (G := ((-1001), u)) (As := [.ref (ad 0), .int 4]) (rest := []) ⟨hx, hb, hml, hown, hts⟩ (by rw [← (show wrp (fX5_longestFreeRun u 4) = ((-1001), u) from (rd_longestFreeRun u 4).trans (by rw [y_longest]))]; exact kL_longest l hfl D ca en ks vs ai ad bd _ u 4 hoi) (vx_cwSW 2 hts mL_thrown_L_longest rfl rfl rfl (by decide +kernel) ⟨Nat.le_of_ble_eq_true rfl, Nat.le_of_ble_eq_true rfl⟩) hK hP hD hS hA hX (List.Perm.refl _) rfl hl.1 rfl (Nat.le_of_ble_eq_true rfl) ⟨by show _ ≤ 5600; omega, by show _ ≤ 33600; omega⟩ dL_thrown_428 (fun H locs hP hD hS => ?_)
    refine W.widen (k := ((1644 + 8) + 64)) (n := (6 * (1644 + 8) + 384)) (by omega) (by omega) ?_
    refine lv_sipush (v := (-1001)) hx hb dL_thrown_431 (by decide) ?_
    refine lv_icmp_ne (tgt := 511) hx hb dL_thrown_434 (by decide) (fun q => absurd rfl q) (fun _ => ?_)
    refine lv_aload_n hx hb dL_thrown_437 rfl (lv_at hl 2 rfl) ?_
    refine lv_iconst (v := (-1)) hx hb dL_thrown_438 (by decide) ?_
    refine hcLi (wr := []) (u := u) (G := ((-1001), u)) (As := [.ref (ad 0), .int (-1)]) (rest := []) ⟨hx, hb, hml, hown, hts⟩ (by rw [← y_byMask u]; exact kL_longestByMask l hfl D ca en ks vs ai ad bd _ u (-1) hoi (by rw [rro_m]; decide)) (vx_cwSW 2 hts mL_thrown_L_longestByMask rfl rfl rfl (by decide +kernel) ⟨Nat.le_of_ble_eq_true rfl, Nat.le_of_ble_eq_true rfl⟩) hK hP hD hS hA hX (List.Perm.refl _) rfl hl.1 rfl (Nat.le_of_ble_eq_true rfl) ⟨by show _ ≤ 5600; omega, by show _ ≤ 33600; omega⟩ dL_thrown_439 (fun H locs hP hD hS => ?_)
    refine W.widen (k := ((1644 + 8) + 66)) (n := (6 * (1644 + 8) + 396)) (by omega) (by omega) ?_
    refine lv_sipush (v := (-1001)) hx hb dL_thrown_442 (by decide) ?_
    refine lv_icmp_ne (tgt := 511) hx hb dL_thrown_445 (by decide) (fun q => absurd rfl q) (fun _ => ?_)
    refine lv_aload_n hx hb dL_thrown_448 rfl (lv_at hl 2 rfl) ?_
    refine lv_iload_n hx hb dL_thrown_449 rfl (lv_at hl 0 rfl) ?_
    refine hcLi (wr := []) (u := u) (G := ((-1001), u)) (As := [.ref (ad 0), .int (h9 (og0 u))]) (rest := []) ⟨hx, hb, hml, hown, hts⟩ (by rw [← (show wrp (fX5_guestAtRank u (h9 (og0 u))) = ((-1001), u) from (rd_guestAtRank u (h9 (og0 u))).trans (by rw [y_atRank hoi.1]))]; exact kL_atRank l hfl D ca en ks vs ai ad bd _ u (h9 (og0 u)) hoi) (vx_cwSW 2 hts mL_thrown_L_atRank rfl rfl rfl (by decide +kernel) ⟨Nat.le_of_ble_eq_true rfl, Nat.le_of_ble_eq_true rfl⟩) hK hP hD hS hA hX (List.Perm.refl _) rfl hl.1 rfl (Nat.le_of_ble_eq_true rfl) ⟨by show _ ≤ 5600; omega, by show _ ≤ 33600; omega⟩ dL_thrown_450 (fun H locs hP hD hS => ?_)
    refine W.widen (k := ((1644 + 8) + 68)) (n := (6 * (1644 + 8) + 408)) (by omega) (by omega) ?_
    refine lv_sipush (v := (-1001)) hx hb dL_thrown_453 (by decide) ?_
    refine lv_icmp_ne (tgt := 511) hx hb dL_thrown_456 (by decide) (fun q => absurd rfl q) (fun _ => ?_)
    refine lv_aload_n hx hb dL_thrown_459 rfl (lv_at hl 2 rfl) ?_
    refine lv_iconst (v := 4) hx hb dL_thrown_460 (by decide) ?_
    refine hcLi (wr := []) (u := u) (G := ((-1001), u)) (As := [.ref (ad 0), .int 4]) (rest := []) ⟨hx, hb, hml, hown, hts⟩ (by rw [← y_describe u]; exact kL_describe l hfl D ca en ks vs ai ad bd _ u 4 hoi (by rw [rro_4]; decide)) (vx_cwSW 2 hts mL_thrown_L_describe rfl rfl rfl (by decide +kernel) ⟨Nat.le_of_ble_eq_true rfl, Nat.le_of_ble_eq_true rfl⟩) hK hP hD hS hA hX (List.Perm.refl _) rfl hl.1 rfl (Nat.le_of_ble_eq_true rfl) ⟨by show _ ≤ 5600; omega, by show _ ≤ 33600; omega⟩ dL_thrown_461 (fun H locs hP hD hS => ?_)
    refine W.widen (k := ((1644 + 8) + 70)) (n := (6 * (1644 + 8) + 420)) (by omega) (by omega) ?_
    refine lv_sipush (v := (-1001)) hx hb dL_thrown_464 (by decide) ?_
    refine lv_icmp_ne (tgt := 511) hx hb dL_thrown_467 (by decide) (fun q => absurd rfl q) (fun _ => ?_)
    refine lv_aload_n hx hb dL_thrown_470 rfl (lv_at hl 2 rfl) ?_
    refine lv_bipush (v := 10) hx hb dL_thrown_471 (by decide) ?_
    refine hcLi (wr := []) (u := u) (G := ((-1001), u)) (As := [.ref (ad 0), .int 10]) (rest := []) ⟨hx, hb, hml, hown, hts⟩ (by rw [← (y_line hoi).1]; exact kL_lineAt l hfl D ca en ks vs ai ad bd _ u 10 hoi (y_line hoi).2) (vx_cwSW 2 hts mL_thrown_L_lineAt rfl rfl rfl (by decide +kernel) ⟨Nat.le_of_ble_eq_true rfl, Nat.le_of_ble_eq_true rfl⟩) hK hP hD hS hA hX (List.Perm.refl _) rfl hl.1 rfl (Nat.le_of_ble_eq_true rfl) ⟨by show _ ≤ 5600; omega, by show _ ≤ 33600; omega⟩ dL_thrown_473 (fun H locs hP hD hS => ?_)
    refine W.widen (k := ((1644 + 8) + 72)) (n := (6 * (1644 + 8) + 432)) (by omega) (by omega) ?_
    refine lv_sipush (v := (-1001)) hx hb dL_thrown_476 (by decide) ?_
    refine lv_icmp_ne (tgt := 511) hx hb dL_thrown_479 (by decide) (fun q => absurd rfl q) (fun _ => ?_)
    refine lv_aload_n hx hb dL_thrown_482 rfl (lv_at hl 2 rfl) ?_
    refine lv_bipush (v := 31) hx hb dL_thrown_483 (by decide) ?_
    refine hcLi (wr := []) (u := u) (G := ((-1001), u)) (As := [.ref (ad 0), .int 31]) (rest := []) ⟨hx, hb, hml, hown, hts⟩ (by rw [← y_app31 u]; exact kL_append l hfl D ca en ks vs ai ad bd _ u 31 hoi) (vx_cwSW 2 hts mL_thrown_L_append rfl rfl rfl (by decide +kernel) ⟨Nat.le_of_ble_eq_true rfl, Nat.le_of_ble_eq_true rfl⟩) hK hP hD hS hA hX (List.Perm.refl _) rfl hl.1 rfl (Nat.le_of_ble_eq_true rfl) ⟨by show _ ≤ 5600; omega, by show _ ≤ 33600; omega⟩ dL_thrown_485 (fun H locs hP hD hS => ?_)
    refine W.widen (k := ((1644 + 8) + 74)) (n := (6 * (1644 + 8) + 444)) (by omega) (by omega) ?_
    refine lv_sipush (v := (-1001)) hx hb dL_thrown_488 (by decide) ?_
    refine lv_icmp_ne (tgt := 511) hx hb dL_thrown_491 (by decide) (fun q => absurd rfl q) (fun _ => ?_)
    refine lv_aload_n hx hb dL_thrown_494 rfl (lv_at hl 2 rfl) ?_
    refine lv_sipush (v := 200) hx hb dL_thrown_495 (by decide) ?_
    refine hcLi (wr := []) (u := u) (G := ((-1001), u)) (As := [.ref (ad 0), .int 200]) (rest := []) ⟨hx, hb, hml, hown, hts⟩ (by rw [← y_app200 u]; exact kL_append l hfl D ca en ks vs ai ad bd _ u 200 hoi) (vx_cwSW 2 hts mL_thrown_L_append rfl rfl rfl (by decide +kernel) ⟨Nat.le_of_ble_eq_true rfl, Nat.le_of_ble_eq_true rfl⟩) hK hP hD hS hA hX (List.Perm.refl _) rfl hl.1 rfl (Nat.le_of_ble_eq_true rfl) ⟨by show _ ≤ 5600; omega, by show _ ≤ 33600; omega⟩ dL_thrown_498 (fun H locs hP hD hS => ?_)
    refine W.widen (k := ((1644 + 8) + 76)) (n := (6 * (1644 + 8) + 456)) (by omega) (by omega) ?_
    refine lv_sipush (v := (-1001)) hx hb dL_thrown_501 (by decide) ?_
    refine lv_icmp_ne (tgt := 511) hx hb dL_thrown_504 (by decide) (fun q => absurd rfl q) (fun _ => ?_)
    refine lv_iconst (v := 1) hx hb dL_thrown_507 (by decide) ?_
    refine lv_goto (tgt := 512) hx hb dL_thrown_508 (by decide) ?_
    refine lv_istore (lv' := [(4, .int 1), (3, .int (h9 (og0 u))), (1, .long (asks (og0 u))), (0, .ref (ad 0))]) hx hb dL_thrown_512 hl (by decide) rfl (fun ls hl => ?_)
    refine lv_iconst (v := 0) hx hb dL_thrown_514 (by decide) ?_
    refine lv_istore (lv' := [(5, .int 0), (4, .int 1), (3, .int (h9 (og0 u))), (1, .long (asks (og0 u))), (0, .ref (ad 0))]) hx hb dL_thrown_515 hl (by decide) rfl (fun ls hl => ?_)
    refine W.widen (k := (1740 + 224 * 0)) (n := (6 * (1740 + 224 * 0))) (by omega) (by omega) ?_
    exact c517 8 0 rfl _ _ hP hD hS ls (lv_sub hl [0, 1, 2, 3, 4] rfl)
  refine W_entry (Nat.le_of_ble_eq_true rfl) (fun ls hl => ?_)
  have hl : lv_has ls 7 [(0, .ref (ad 0))] := hl
  refine lv_aload_n hx hb dL_thrown_0 rfl (lv_at hl 0 rfl) ?_
  refine hcGlp (mc := 1644) (ms := 9864) (X := HX en ks vs) (wr := []) (wc := fun v => OW ca en ai ad bd v) (u := u) (G := (asks (og0 u), u)) (As := [.ref (ad 0)]) (rest := []) (HX_ok en ks vs) ⟨hx, hb, hml, hown, hts⟩ (kL_asks l hfl D ca en ks vs ai ad bd _ u hoi) (va_cwS 1 hts mL_thrown_L_asks rfl rfl rfl (by decide +kernel) ⟨Nat.le_of_ble_eq_true rfl, Nat.le_of_ble_eq_true rfl⟩) hK hP hD hS hA (X_now (HX_ok en ks vs) hX hS (J_free (wr := []) (List.Perm.refl _) hD hS hA)) (List.Perm.refl _) rfl hl.1 rfl (Nat.le_of_ble_eq_true rfl) ⟨by show _ ≤ 5600; omega, by show _ ≤ 33600; omega⟩ dL_thrown_1 (fun H locs hP hD hS => ?_)
  refine W.widen (k := (0 + 1644)) (n := (0 + 9864)) (by omega) (by omega) ?_
  refine lv_lstore_n (lv' := [(1, .long (asks (og0 u))), (0, .ref (ad 0))]) hx hb dL_thrown_4 rfl hl (by decide) rfl (fun ls hl => ?_)
  refine lv_aload_n hx hb dL_thrown_5 rfl (lv_at hl 1 rfl) ?_
  refine hcRi (v := h9 (og0 u)) (As := []) (rest := []) 0 6 ⟨hx, hb, hml, hown, hts⟩ (kX5_guestCount l D ca en ks vs ai ad bd u) (cwV 0 hts mL_thrown_X5_guestCount rfl rfl rfl (by decide +kernel) ⟨Nat.le_of_ble_eq_true rfl, Nat.le_of_ble_eq_true rfl⟩) hK hP rfl rfl rfl hl.1 rfl (Nat.le_of_ble_eq_true rfl) ⟨by show _ ≤ 5600; omega, by show _ ≤ 33600; omega⟩ dL_thrown_6 ?_
  refine lv_istore_n (lv' := [(3, .int (h9 (og0 u))), (1, .long (asks (og0 u))), (0, .ref (ad 0))]) hx hb dL_thrown_9 rfl hl (by decide) rfl (fun ls hl => ?_)
  refine lv_aload_n hx hb dL_thrown_10 rfl (lv_at hl 2 rfl) ?_
  refine lv_bipush (v := 10) hx hb dL_thrown_11 (by decide) ?_
  refine lv_iconst (v := 0) hx hb dL_thrown_13 (by decide) ?_
  refine hcLi (wr := []) (u := u) (G := ((-1001), u)) (As := [.ref (ad 0), .int 10, .int 0]) (rest := []) ⟨hx, hb, hml, hown, hts⟩ (by rw [← y_add10 u]; exact kL_addGuest l hfl D ca en ks vs ai ad bd _ u 10 0 hoi) (vx_cwSW 3 hts mL_thrown_L_addGuest rfl rfl rfl (by decide +kernel) ⟨Nat.le_of_ble_eq_true rfl, Nat.le_of_ble_eq_true rfl⟩) hK hP hD hS hA hX (List.Perm.refl _) rfl hl.1 rfl (Nat.le_of_ble_eq_true rfl) ⟨by show _ ≤ 5600; omega, by show _ ≤ 33600; omega⟩ dL_thrown_14 (fun H locs hP hD hS => ?_)
  refine W.widen (k := (0 + 1646)) (n := (0 + 9876)) (by omega) (by omega) ?_
  refine lv_sipush (v := (-1001)) hx hb dL_thrown_17 (by decide) ?_
  refine lv_icmp_ne (tgt := 511) hx hb dL_thrown_20 (by decide) (fun q => absurd rfl q) (fun _ => ?_)
  refine lv_aload_n hx hb dL_thrown_23 rfl (lv_at hl 2 rfl) ?_
  refine lv_iconst (v := 0) hx hb dL_thrown_24 (by decide) ?_
  refine lv_iconst (v := 3) hx hb dL_thrown_25 (by decide) ?_
  refine hcLi (wr := []) (u := u) (G := ((-1001), u)) (As := [.ref (ad 0), .int 0, .int 3]) (rest := []) ⟨hx, hb, hml, hown, hts⟩ (by rw [← y_add3 u]; exact kL_addGuest l hfl D ca en ks vs ai ad bd _ u 0 3 hoi) (vx_cwSW 3 hts mL_thrown_L_addGuest rfl rfl rfl (by decide +kernel) ⟨Nat.le_of_ble_eq_true rfl, Nat.le_of_ble_eq_true rfl⟩) hK hP hD hS hA hX (List.Perm.refl _) rfl hl.1 rfl (Nat.le_of_ble_eq_true rfl) ⟨by show _ ≤ 5600; omega, by show _ ≤ 33600; omega⟩ dL_thrown_26 (fun H locs hP hD hS => ?_)
  refine W.widen (k := (0 + 1648)) (n := (0 + 9888)) (by omega) (by omega) ?_
  refine lv_sipush (v := (-1001)) hx hb dL_thrown_29 (by decide) ?_
  refine lv_icmp_ne (tgt := 511) hx hb dL_thrown_32 (by decide) (fun q => absurd rfl q) (fun _ => ?_)
  refine lv_aload_n hx hb dL_thrown_35 rfl (lv_at hl 2 rfl) ?_
  refine lv_iconst (v := (-1)) hx hb dL_thrown_36 (by decide) ?_
  refine lv_iconst (v := 0) hx hb dL_thrown_37 (by decide) ?_
  refine hcLi (wr := []) (u := u) (G := ((-1001), u)) (As := [.ref (ad 0), .int (-1), .int 0]) (rest := []) ⟨hx, hb, hml, hown, hts⟩ (by rw [← y_addm u]; exact kL_addGuest l hfl D ca en ks vs ai ad bd _ u (-1) 0 hoi) (vx_cwSW 3 hts mL_thrown_L_addGuest rfl rfl rfl (by decide +kernel) ⟨Nat.le_of_ble_eq_true rfl, Nat.le_of_ble_eq_true rfl⟩) hK hP hD hS hA hX (List.Perm.refl _) rfl hl.1 rfl (Nat.le_of_ble_eq_true rfl) ⟨by show _ ≤ 5600; omega, by show _ ≤ 33600; omega⟩ dL_thrown_38 (fun H locs hP hD hS => ?_)
  refine W.widen (k := (0 + 1650)) (n := (0 + 9900)) (by omega) (by omega) ?_
  refine lv_sipush (v := (-1001)) hx hb dL_thrown_41 (by decide) ?_
  refine lv_icmp_ne (tgt := 511) hx hb dL_thrown_44 (by decide) (fun q => absurd rfl q) (fun _ => ?_)
  refine lv_iload_n hx hb dL_thrown_47 rfl (lv_at hl 0 rfl) ?_
  refine lv_bipush (v := 8) hx hb dL_thrown_48 (by decide) ?_
  refine lv_icmp_lt (tgt := 65) hx hb dL_thrown_50 (by decide) (fun _ => ?_) (fun c50 => ?_)
  · refine W.widen (k := (1644 + 8)) (n := (6 * (1644 + 8))) (by omega) (by omega) ?_
    exact c65 _ _ hP hD hS ls (lv_sub hl [0, 1, 2] rfl)
  · refine lv_aload_n hx hb dL_thrown_53 rfl (lv_at hl 2 rfl) ?_
    refine lv_iconst (v := 0) hx hb dL_thrown_54 (by decide) ?_
    refine lv_iconst (v := 0) hx hb dL_thrown_55 (by decide) ?_
    refine hcLi (wr := []) (u := u) (G := ((-1002), u)) (As := [.ref (ad 0), .int 0, .int 0]) (rest := []) ⟨hx, hb, hml, hown, hts⟩ (by rw [← y_add8 u c50]; exact kL_addGuest l hfl D ca en ks vs ai ad bd _ u 0 0 hoi) (vx_cwSW 3 hts mL_thrown_L_addGuest rfl rfl rfl (by decide +kernel) ⟨Nat.le_of_ble_eq_true rfl, Nat.le_of_ble_eq_true rfl⟩) hK hP hD hS hA hX (List.Perm.refl _) rfl hl.1 rfl (Nat.le_of_ble_eq_true rfl) ⟨by show _ ≤ 5600; omega, by show _ ≤ 33600; omega⟩ dL_thrown_56 (fun H locs hP hD hS => ?_)
    refine W.widen (k := (0 + 1652)) (n := (0 + 9912)) (by omega) (by omega) ?_
    refine lv_sipush (v := (-1002)) hx hb dL_thrown_59 (by decide) ?_
    refine lv_icmp_ne (tgt := 511) hx hb dL_thrown_62 (by decide) (fun q => absurd rfl q) (fun _ => ?_)
    refine W.widen (k := (1644 + 8)) (n := (6 * (1644 + 8))) (by omega) (by omega) ?_
    exact c65 _ _ hP hD hS ls (lv_sub hl [0, 1, 2] rfl)
