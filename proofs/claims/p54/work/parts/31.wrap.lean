/-! the law's wrappers -/
theorem vx_only {l : Launch} {y : MethodName} {wsy : List Cond} {rm : Room} {Pc : Array Value → State → Prop} {Qc : Array Value → State → Outcome → State → Prop} {mc ms : Nat} {free : Addr → Prop} (h : vx_Met l y wsy rm Pc Qc (fun _ _ _ => False) mc ms free) : Met l y wsy rm Pc Qc mc ms free :=
  Jvm.Free.MetFree.mono h (fun _ _ h => h) (fun _ _ _ _ _ h => h) (fun a st o t _ hq => by
    rcases hq with h | ⟨q, -, E, ce, L, hX, -⟩
    · exact h
    · exact hX.elim)
/-- a number for each exception -/
def wrp (F : Nat × Int32 × OS) : Int32 × OS := (if F.1 = 0 then F.2.1 else if F.1 = 1 then -1001 else if F.1 = 2 then -1002 else -1003, F.2.2)
def wrb (F : Nat × Int32 × OS) : Int32 × OS := (if F.1 = 0 then (if F.2.1 = 0 then 0 else 1) else if F.1 = 1 then -1001 else if F.1 = 2 then -1002 else -1003, F.2.2)
theorem wrp_0 {F : Nat × Int32 × OS} (h : F.1 = 0) : (F.2.1, F.2.2) = wrp F := by unfold wrp; rw [if_pos h]
theorem wrp_1 {F : Nat × Int32 × OS} (h : F.1 = 1) : ((-1001 : Int32), F.2.2) = wrp F := by unfold wrp; rw [if_neg (by omega), if_pos h]
theorem wrp_2 {F : Nat × Int32 × OS} (h : F.1 = 2) : ((-1002 : Int32), F.2.2) = wrp F := by unfold wrp; rw [if_neg (by omega), if_neg (by omega), if_pos h]
theorem wrp_3 {F : Nat × Int32 × OS} (h : F.1 = 3) : ((-1003 : Int32), F.2.2) = wrp F := by unfold wrp; rw [if_neg (by omega), if_neg (by omega), if_neg (by omega)]
theorem wrb_0 {F : Nat × Int32 × OS} (h : F.1 = 0) (g : F.2.1 = 0) : ((0 : Int32), F.2.2) = wrb F := by unfold wrb; rw [if_pos h, if_pos g]
theorem wrb_9 {F : Nat × Int32 × OS} (h : F.1 = 0) (g : ¬ F.2.1 = 0) : ((1 : Int32), F.2.2) = wrb F := by unfold wrb; rw [if_pos h, if_neg g]
theorem wrb_1 {F : Nat × Int32 × OS} (h : F.1 = 1) : ((-1001 : Int32), F.2.2) = wrb F := by unfold wrb; rw [if_neg (by omega), if_pos h]
theorem wrb_2 {F : Nat × Int32 × OS} (h : F.1 = 2) : ((-1002 : Int32), F.2.2) = wrb F := by unfold wrb; rw [if_neg (by omega), if_neg (by omega), if_pos h]
theorem wrb_3 {F : Nat × Int32 × OS} (h : F.1 = 3) : ((-1003 : Int32), F.2.2) = wrb F := by unfold wrb; rw [if_neg (by omega), if_neg (by omega), if_neg (by omega)]
/-- the classes that the handlers name: the printed lists hold the first of each only -/
def lx : List Cond := [.classLink RL 13 "java/lang/IllegalArgumentException", .classLink RL 15 "java/lang/IllegalStateException", .classLink RL 21 "java/lang/IndexOutOfBoundsException", .classLink RL 26 "java/lang/UnsupportedOperationException", .classLink RL 31 "java/util/NoSuchElementException"]
theorem good_more {A B X : List Cond} (g : GoodIn A X) : GoodIn (A ++ B) X := fun w h => ⟨List.mem_append_left _ (g w h).1, (g w h).2⟩
def LMet (l : Launch) (y : MethodName) (wsy : List Cond) (rm : Room) (D : va_G) (ca : Nat → ClassId) (en ks vs : Nat → Nat) (ai : Nat → Nat → Nat) (ad bd : Nat → Nat) (sz : Nat) (u : OS) (av : List Value) (G : Int32 × OS) : Prop := Met l y wsy rm (MGPc D ca (HX en ks vs) sz (OW ca en ai ad bd u) av) (va_Qi (fun r v => (r, v) = G) (MB D ca (va_A (OW ca en ai ad bd u) sz) (fun v => OW ca en ai ad bd v)) (va_A (OW ca en ai ad bd u) sz)) 2 12 (va_A (OW ca en ai ad bd u) sz)
section ROWT
variable {p : Program} {l : Launch} {e : Env} {R : Room} {s : State} {m : MethodId} {args : Array Value} {below : List Frame} {meth : Method} {c : Code} {H : Heap} {locs : List Loc} {cells slots : Nat} {Q : State → Prop}
variable {D : va_G} {ca : Nat → ClassId} {en ks vs : Nat → Nat} {ai : Nat → Nat → Nat} {ad bd : Nat → Nat} {u : OS} {ws wr : va_W} {As rest st0 : List Value} {index n pc nL maxL : Nat} {y : MethodName} {bytes cc : ByteArray} {ret : Option FieldType} {wsy Ts : List Cond} {rm : Room} {own : String} {ls : Array Slot} {A0 : Nat → Prop} {names : List String} {F : Nat × Int32 × OS}
/-- a call of the object's method that may throw -/
theorem hcTo (S : CallFix p m c cc nL s args Ts own) (hM : HMet l y wsy rm D ca en ks vs ai ad bd H.size u (.ref (ad 0) :: As) names F) (cw : CallW R s args own RX5 index y bytes maxL ret wsy rm 2 12 n) (hK : va_K D vwCl (TYS ca) s) (hP : va_P D vwCl ws H) (hD : va_D A0 ws) (hS : va_S A0 s.heap H locs) (hA : ∀ q, s.heap.size ≤ q → A0 q) (hX : HX en ks vs A0 s s.heap) (hperm : ws.Perm (wr ++ OW ca en ai ad bd u)) (hn : As.length = n) (hsize : ls.size = nL) (hst : st0 = As.reverse ++ .ref (ad 0) :: rest) (hW : (rest.map fun v => v.category).sum ≤ 8) (hf : cells + 2 ≤ R.cells ∧ slots + 12 ≤ R.slots) (hdg : decode cc pc = .ok (.invokevirtual index, 3))
    (kx : ∀ (i : Nat) (E : String) (ce : Cell) (q9 : Addr) (H1 : Heap) (locs1 : List Loc), names[i]? = some E → F.1 = i + 1 → va_P D vwCl (wr ++ OW ca en ai ad bd F.2.2) H1 → va_D A0 (wr ++ OW ca en ai ad bd F.2.2) → va_S A0 s.heap H1 locs1 → H1[q9]? = some ce → ce.vm = .none → s.vm.findClass E = some ce.cls → vx_W p l e R s m args below meth c H1 locs1 (cells + 2) (slots + 12) Q (F0 m pc ls rest) q9)
    (kk : ∀ (H1 : Heap) (locs1 : List Loc), F.1 = 0 → va_P D vwCl (wr ++ OW ca en ai ad bd F.2.2) H1 → va_D A0 (wr ++ OW ca en ai ad bd F.2.2) → va_S A0 s.heap H1 locs1 → W p l e R s m args below meth c H1 locs1 (cells + 2) (slots + 12) Q (F0 m (pc + 3) ls (.int F.2.1 :: rest))) : W p l e R s m args below meth c H locs cells slots Q (F0 m pc ls st0) := by
  have hPc := P_right (P_perm hperm hP)
  have hDc := D_right (D_perm hperm hD)
  have hF := J_free hperm hD hS hA
  unfold HMet at hM
  refine vx_calli (vx_runV S hM cw ⟨MGPc_blind (HX_ok en ks vs), P_recv hK hPc (q0 := 0) (ci := 6) rfl rfl, fun U hU hW => ⟨rfl, by rw [hU], by rw [hU]; exact hPc, va_K.moved hW.alike hK, hDc.weaken (fun _ _ _ _ => trivial), X_at (HX_ok en ks vs) hX hS hF hU hW⟩⟩ rfl hn hsize hst (lv_room hW) hdg hf) hS (fun q _ h => hF q h) hF (fun q _ h => hF q h) (fun E ce q9 z t H1 locs1 ht hvm hpx hB hz hk hS1 h5 h6 h7 => ?_) (fun r z t H1 locs1 ht hvm hw hB hz hk hS1 => ?_)
  · obtain ⟨⟨i, hi, hz9⟩, hzF, hP1, hD1⟩ := hB
    rw [ht] at hP1
    obtain ⟨g1, g2⟩ := J_join hperm hP hD hk hF hP1 hD1
    have e1 : z.1 = F.1 := congrArg Prod.fst hzF
    have e2 : z.2 = F.2.2 := congrArg (fun q => q.2.2) hzF
    rw [e2] at g1 g2
    exact kx i E ce q9 H1 locs1 hi (e1.symm.trans hz9) g1 g2 hS1 h5 h6 h7
  · obtain ⟨hP1, -, hD1⟩ := hB
    rw [ht] at hP1
    obtain ⟨g1, g2⟩ := J_join hperm hP hD hk hF hP1 hD1
    subst hw
    exact kk H1 locs1 rfl g1 g2 hS1
end ROWT
def wmL_addGuest : List Cond := wsL_addGuest ++ lx
set_option maxHeartbeats 4000000 in
set_option maxRecDepth 100000 in
theorem kL_addGuest (l : Launch) (hfl : l.stackTraces = false) (D : va_G) (ca : Nat → ClassId) (en ks vs : Nat → Nat) (ai : Nat → Nat → Nat) (ad bd : Nat → Nat) (sz : Nat) (u : OS) (x1 : Int32) (x2 : Int32) (hoi : OI u) : LMet l yL_addGuest wmL_addGuest ({ frames := 7, cells := 2, slots := 12, locals := 105 }) D ca en ks vs ai ad bd sz u [.ref (ad 0), .int x1, .int x2] (wrp (fX5_addGuest u x1 x2)) := by
  unfold LMet
  refine vx_only (vx_ofWH (cc := cL_addGuest) (maxL := 4) (ret := (some .int)) (hh := [(0, 6, 7, 13), (0, 6, 12, 15)]) (by decide) rfl ?_)
  intro p e s m args below meth c s₁ B hml hv
  obtain ⟨rfl, hsz, hP, hK, hD0, hX⟩ := hv
  have hx := B.exec
  have hb := B.bytes
  have hr := B.returns
  have hts := atoms_spec (ws := wmL_addGuest) B.pre
  have hown : s.vm.findClass RL = some m.cls := findClass_of_methodNamed B.named
  have htab : c.exceptionTable.toList = tableOf [(0, 6, 7, 13), (0, 6, 12, 15)] := vx_table (x := yL_addGuest) B (hts (.codeWith yL_addGuest cL_addGuest 4 (some .int) [(0, 6, 7, 13), (0, 6, 12, 15)]) List.mem_cons_self)
  subst hsz
  have hD := hD0.self (sz := s.heap.size)
  generalize hAe : va_A (OW ca en ai ad bd u) s.heap.size = A at hD hX ⊢
  have hA : ∀ q : Nat, s.heap.size ≤ q → A q := fun q h => by rw [← hAe]; exact Or.inr h
  have hS : va_S A s.heap s.heap [] := va_S.rf
  refine W_entry (Nat.le_of_ble_eq_true rfl) (fun ls hl => ?_)
  have hl : lv_has ls 4 [(0, .ref (ad 0)), (1, .int x1), (2, .int x2)] := hl
  refine lv_aload_n hx hb dL_addGuest_0 rfl (lv_at hl 0 rfl) ?_
  refine lv_iload_n hx hb dL_addGuest_1 rfl (lv_at hl 1 rfl) ?_
  refine lv_iload_n hx hb dL_addGuest_2 rfl (lv_at hl 2 rfl) ?_
  refine hcTo (wr := []) (As := [.int x1, .int x2]) (rest := []) ⟨hx, hb, hml, hown, hts⟩ (kX5_addGuest l hfl D ca en ks vs ai ad bd _ u x1 x2 hoi ) (cwV 2 hts (good_more gL_addGuest_X5_addGuest) rfl rfl rfl (by decide +kernel) ⟨Nat.le_of_ble_eq_true rfl, Nat.le_of_ble_eq_true rfl⟩) hK hP hD hS hA hX (List.Perm.refl _) rfl hl.1 rfl (Nat.le_of_ble_eq_true rfl) ⟨Nat.le_of_ble_eq_true rfl, Nat.le_of_ble_eq_true rfl⟩ dL_addGuest_3 (fun i E9 ce q9 H locs hi hk9 hP hD hS h5 h6 h7 => ?_) (fun H locs hk9 hP hD hS => ?_)
  · have hlt : i < 2 := (List.getElem?_eq_some_iff.mp hi).1
    rcases (show i = 0 ∨ i = 1 by omega) with rfl | rfl
    · cases hi
      refine vx_catch (name := "java/lang/IllegalArgumentException") hown [] ⟨0, 6, 7, 13⟩ [⟨0, 6, 12, 15⟩] htab (fun z hz => by cases hz) rfl (by decide) (hts (.classLink RL 13 "java/lang/IllegalArgumentException") (List.mem_append_right _ (by decide +kernel))) (va_Nw.use rfl (hX.2.2.2.1 "java/lang/IllegalArgumentException" (by decide +kernel))) h5 h6 h7 ?_
      refine lv_astore_n (lv' := [(3, .ref q9), (0, .ref (ad 0)), (1, .int x1), (2, .int x2)]) hx hb dL_addGuest_7 rfl hl (by decide) rfl (fun ls hl => ?_)
      refine lv_sipush (v := (-1001)) hx hb dL_addGuest_8 (by decide) ?_
      exact vx_ret (W.iret (v := (-1001)) hx hb hr (fun t ht hW => ⟨⟨(-1001), _, rfl, wrp_1 hk9, by rw [ht]; exact hP, va_K.moved hW.alike hK, hD⟩, hS.F ht⟩) hS.2.2 dL_addGuest_11)
    · cases hi
      refine vx_catch (name := "java/lang/IllegalStateException") hown [⟨0, 6, 7, 13⟩] ⟨0, 6, 12, 15⟩ [] htab (fun z hz => Or.inr (by rcases (show z = (⟨0, 6, 7, 13⟩ : ExceptionTableEntry) from by simpa using hz) with rfl <;> first | exact ⟨by decide, "java/lang/IllegalArgumentException", (hts (.classLink RL 13 "java/lang/IllegalArgumentException") (List.mem_append_right _ (by decide +kernel))), hX.2.2.2.2.1 "java/lang/IllegalStateException" (by decide +kernel) "java/lang/IllegalArgumentException" (by decide +kernel) (by decide)⟩)) rfl (by decide) (hts (.classLink RL 15 "java/lang/IllegalStateException") (List.mem_append_right _ (by decide +kernel))) (va_Nw.use rfl (hX.2.2.2.1 "java/lang/IllegalStateException" (by decide +kernel))) h5 h6 h7 ?_
      refine lv_astore_n (lv' := [(3, .ref q9), (0, .ref (ad 0)), (1, .int x1), (2, .int x2)]) hx hb dL_addGuest_12 rfl hl (by decide) rfl (fun ls hl => ?_)
      refine lv_sipush (v := (-1002)) hx hb dL_addGuest_13 (by decide) ?_
      exact vx_ret (W.iret (v := (-1002)) hx hb hr (fun t ht hW => ⟨⟨(-1002), _, rfl, wrp_2 hk9, by rw [ht]; exact hP, va_K.moved hW.alike hK, hD⟩, hS.F ht⟩) hS.2.2 dL_addGuest_16)
  · exact vx_ret (W.iret hx hb hr (fun t ht hW => ⟨⟨_, _, rfl, wrp_0 hk9, by rw [ht]; exact hP, va_K.moved hW.alike hK, hD⟩, hS.F ht⟩) hS.2.2 dL_addGuest_6)
def wmL_append : List Cond := wsL_append ++ lx
set_option maxHeartbeats 4000000 in
set_option maxRecDepth 100000 in
theorem kL_append (l : Launch) (hfl : l.stackTraces = false) (D : va_G) (ca : Nat → ClassId) (en ks vs : Nat → Nat) (ai : Nat → Nat → Nat) (ad bd : Nat → Nat) (sz : Nat) (u : OS) (x1 : Int32) (hoi : OI u) : LMet l yL_append wmL_append ({ frames := 7, cells := 2, slots := 12, locals := 103 }) D ca en ks vs ai ad bd sz u [.ref (ad 0), .int x1] (wrp (fX5_append u x1)) := by
  unfold LMet
  refine vx_only (vx_ofWH (cc := cL_append) (maxL := 3) (ret := (some .int)) (hh := [(0, 5, 6, 13), (0, 5, 11, 15)]) (by decide) rfl ?_)
  intro p e s m args below meth c s₁ B hml hv
  obtain ⟨rfl, hsz, hP, hK, hD0, hX⟩ := hv
  have hx := B.exec
  have hb := B.bytes
  have hr := B.returns
  have hts := atoms_spec (ws := wmL_append) B.pre
  have hown : s.vm.findClass RL = some m.cls := findClass_of_methodNamed B.named
  have htab : c.exceptionTable.toList = tableOf [(0, 5, 6, 13), (0, 5, 11, 15)] := vx_table (x := yL_append) B (hts (.codeWith yL_append cL_append 3 (some .int) [(0, 5, 6, 13), (0, 5, 11, 15)]) List.mem_cons_self)
  subst hsz
  have hD := hD0.self (sz := s.heap.size)
  generalize hAe : va_A (OW ca en ai ad bd u) s.heap.size = A at hD hX ⊢
  have hA : ∀ q : Nat, s.heap.size ≤ q → A q := fun q h => by rw [← hAe]; exact Or.inr h
  have hS : va_S A s.heap s.heap [] := va_S.rf
  refine W_entry (Nat.le_of_ble_eq_true rfl) (fun ls hl => ?_)
  have hl : lv_has ls 3 [(0, .ref (ad 0)), (1, .int x1)] := hl
  refine lv_aload_n hx hb dL_append_0 rfl (lv_at hl 0 rfl) ?_
  refine lv_iload_n hx hb dL_append_1 rfl (lv_at hl 1 rfl) ?_
  refine hcTo (wr := []) (As := [.int x1]) (rest := []) ⟨hx, hb, hml, hown, hts⟩ (kX5_append l hfl D ca en ks vs ai ad bd _ u x1 hoi ) (cwV 1 hts (good_more gL_append_X5_append) rfl rfl rfl (by decide +kernel) ⟨Nat.le_of_ble_eq_true rfl, Nat.le_of_ble_eq_true rfl⟩) hK hP hD hS hA hX (List.Perm.refl _) rfl hl.1 rfl (Nat.le_of_ble_eq_true rfl) ⟨Nat.le_of_ble_eq_true rfl, Nat.le_of_ble_eq_true rfl⟩ dL_append_2 (fun i E9 ce q9 H locs hi hk9 hP hD hS h5 h6 h7 => ?_) (fun H locs hk9 hP hD hS => ?_)
  · have hlt : i < 2 := (List.getElem?_eq_some_iff.mp hi).1
    rcases (show i = 0 ∨ i = 1 by omega) with rfl | rfl
    · cases hi
      refine vx_catch (name := "java/lang/IllegalArgumentException") hown [] ⟨0, 5, 6, 13⟩ [⟨0, 5, 11, 15⟩] htab (fun z hz => by cases hz) rfl (by decide) (hts (.classLink RL 13 "java/lang/IllegalArgumentException") (List.mem_append_right _ (by decide +kernel))) (va_Nw.use rfl (hX.2.2.2.1 "java/lang/IllegalArgumentException" (by decide +kernel))) h5 h6 h7 ?_
      refine lv_astore_n (lv' := [(2, .ref q9), (0, .ref (ad 0)), (1, .int x1)]) hx hb dL_append_6 rfl hl (by decide) rfl (fun ls hl => ?_)
      refine lv_sipush (v := (-1001)) hx hb dL_append_7 (by decide) ?_
      exact vx_ret (W.iret (v := (-1001)) hx hb hr (fun t ht hW => ⟨⟨(-1001), _, rfl, wrp_1 hk9, by rw [ht]; exact hP, va_K.moved hW.alike hK, hD⟩, hS.F ht⟩) hS.2.2 dL_append_10)
    · cases hi
      refine vx_catch (name := "java/lang/IllegalStateException") hown [⟨0, 5, 6, 13⟩] ⟨0, 5, 11, 15⟩ [] htab (fun z hz => Or.inr (by rcases (show z = (⟨0, 5, 6, 13⟩ : ExceptionTableEntry) from by simpa using hz) with rfl <;> first | exact ⟨by decide, "java/lang/IllegalArgumentException", (hts (.classLink RL 13 "java/lang/IllegalArgumentException") (List.mem_append_right _ (by decide +kernel))), hX.2.2.2.2.1 "java/lang/IllegalStateException" (by decide +kernel) "java/lang/IllegalArgumentException" (by decide +kernel) (by decide)⟩)) rfl (by decide) (hts (.classLink RL 15 "java/lang/IllegalStateException") (List.mem_append_right _ (by decide +kernel))) (va_Nw.use rfl (hX.2.2.2.1 "java/lang/IllegalStateException" (by decide +kernel))) h5 h6 h7 ?_
      refine lv_astore_n (lv' := [(2, .ref q9), (0, .ref (ad 0)), (1, .int x1)]) hx hb dL_append_11 rfl hl (by decide) rfl (fun ls hl => ?_)
      refine lv_sipush (v := (-1002)) hx hb dL_append_12 (by decide) ?_
      exact vx_ret (W.iret (v := (-1002)) hx hb hr (fun t ht hW => ⟨⟨(-1002), _, rfl, wrp_2 hk9, by rw [ht]; exact hP, va_K.moved hW.alike hK, hD⟩, hS.F ht⟩) hS.2.2 dL_append_15)
  · exact vx_ret (W.iret hx hb hr (fun t ht hW => ⟨⟨_, _, rfl, wrp_0 hk9, by rw [ht]; exact hP, va_K.moved hW.alike hK, hD⟩, hS.F ht⟩) hS.2.2 dL_append_5)
def wmL_atRank : List Cond := wsL_atRank ++ lx
set_option maxHeartbeats 4000000 in
set_option maxRecDepth 100000 in
theorem kL_atRank (l : Launch) (hfl : l.stackTraces = false) (D : va_G) (ca : Nat → ClassId) (en ks vs : Nat → Nat) (ai : Nat → Nat → Nat) (ad bd : Nat → Nat) (sz : Nat) (u : OS) (x1 : Int32) (hoi : OI u) : LMet l yL_atRank wmL_atRank ({ frames := 7, cells := 2, slots := 12, locals := 131 }) D ca en ks vs ai ad bd sz u [.ref (ad 0), .int x1] (wrp (fX5_guestAtRank u x1)) := by
  unfold LMet
  refine vx_only (vx_ofWH (cc := cL_atRank) (maxL := 3) (ret := (some .int)) (hh := [(0, 5, 6, 31)]) (by decide) rfl ?_)
  intro p e s m args below meth c s₁ B hml hv
  obtain ⟨rfl, hsz, hP, hK, hD0, hX⟩ := hv
  have hx := B.exec
  have hb := B.bytes
  have hr := B.returns
  have hts := atoms_spec (ws := wmL_atRank) B.pre
  have hown : s.vm.findClass RL = some m.cls := findClass_of_methodNamed B.named
  have htab : c.exceptionTable.toList = tableOf [(0, 5, 6, 31)] := vx_table (x := yL_atRank) B (hts (.codeWith yL_atRank cL_atRank 3 (some .int) [(0, 5, 6, 31)]) List.mem_cons_self)
  subst hsz
  have hD := hD0.self (sz := s.heap.size)
  generalize hAe : va_A (OW ca en ai ad bd u) s.heap.size = A at hD hX ⊢
  have hA : ∀ q : Nat, s.heap.size ≤ q → A q := fun q h => by rw [← hAe]; exact Or.inr h
  have hS : va_S A s.heap s.heap [] := va_S.rf
  refine W_entry (Nat.le_of_ble_eq_true rfl) (fun ls hl => ?_)
  have hl : lv_has ls 3 [(0, .ref (ad 0)), (1, .int x1)] := hl
  refine lv_aload_n hx hb dL_atRank_0 rfl (lv_at hl 0 rfl) ?_
  refine lv_iload_n hx hb dL_atRank_1 rfl (lv_at hl 1 rfl) ?_
  refine hcTo (wr := []) (As := [.int x1]) (rest := []) ⟨hx, hb, hml, hown, hts⟩ (kX5_guestAtRank l hfl D ca en ks vs ai ad bd _ u x1 hoi ) (cwV 1 hts (good_more gL_atRank_X5_guestAtRank) rfl rfl rfl (by decide +kernel) ⟨Nat.le_of_ble_eq_true rfl, Nat.le_of_ble_eq_true rfl⟩) hK hP hD hS hA hX (List.Perm.refl _) rfl hl.1 rfl (Nat.le_of_ble_eq_true rfl) ⟨Nat.le_of_ble_eq_true rfl, Nat.le_of_ble_eq_true rfl⟩ dL_atRank_2 (fun i E9 ce q9 H locs hi hk9 hP hD hS h5 h6 h7 => ?_) (fun H locs hk9 hP hD hS => ?_)
  · have hlt : i < 1 := (List.getElem?_eq_some_iff.mp hi).1
    rcases (show i = 0 by omega) with rfl
    · cases hi
      refine vx_catch (name := "java/util/NoSuchElementException") hown [] ⟨0, 5, 6, 31⟩ [] htab (fun z hz => by cases hz) rfl (by decide) (hts (.classLink RL 31 "java/util/NoSuchElementException") (List.mem_append_right _ (by decide +kernel))) (va_Nw.use rfl (hX.2.2.2.1 "java/util/NoSuchElementException" (by decide +kernel))) h5 h6 h7 ?_
      refine lv_astore_n (lv' := [(2, .ref q9), (0, .ref (ad 0)), (1, .int x1)]) hx hb dL_atRank_6 rfl hl (by decide) rfl (fun ls hl => ?_)
      refine lv_sipush (v := (-1001)) hx hb dL_atRank_7 (by decide) ?_
      exact vx_ret (W.iret (v := (-1001)) hx hb hr (fun t ht hW => ⟨⟨(-1001), _, rfl, wrp_1 hk9, by rw [ht]; exact hP, va_K.moved hW.alike hK, hD⟩, hS.F ht⟩) hS.2.2 dL_atRank_10)
  · exact vx_ret (W.iret hx hb hr (fun t ht hW => ⟨⟨_, _, rfl, wrp_0 hk9, by rw [ht]; exact hP, va_K.moved hW.alike hK, hD⟩, hS.F ht⟩) hS.2.2 dL_atRank_5)
def wmL_brim : List Cond := wsL_brim ++ lx
set_option maxHeartbeats 4000000 in
set_option maxRecDepth 100000 in
theorem kL_brim (l : Launch) (hfl : l.stackTraces = false) (D : va_G) (ca : Nat → ClassId) (en ks vs : Nat → Nat) (ai : Nat → Nat → Nat) (ad bd : Nat → Nat) (sz : Nat) (u : OS) (x1 : Int32) (hoi : OI u) : LMet l yL_brim wmL_brim ({ frames := 8, cells := 2, slots := 12, locals := 124 }) D ca en ks vs ai ad bd sz u [.ref (ad 0), .int x1] (wrp (fX5_brim u x1)) := by
  unfold LMet
  refine vx_only (vx_ofWH (cc := cL_brim) (maxL := 3) (ret := (some .int)) (hh := [(0, 5, 6, 21)]) (by decide) rfl ?_)
  intro p e s m args below meth c s₁ B hml hv
  obtain ⟨rfl, hsz, hP, hK, hD0, hX⟩ := hv
  have hx := B.exec
  have hb := B.bytes
  have hr := B.returns
  have hts := atoms_spec (ws := wmL_brim) B.pre
  have hown : s.vm.findClass RL = some m.cls := findClass_of_methodNamed B.named
  have htab : c.exceptionTable.toList = tableOf [(0, 5, 6, 21)] := vx_table (x := yL_brim) B (hts (.codeWith yL_brim cL_brim 3 (some .int) [(0, 5, 6, 21)]) List.mem_cons_self)
  subst hsz
  have hD := hD0.self (sz := s.heap.size)
  generalize hAe : va_A (OW ca en ai ad bd u) s.heap.size = A at hD hX ⊢
  have hA : ∀ q : Nat, s.heap.size ≤ q → A q := fun q h => by rw [← hAe]; exact Or.inr h
  have hS : va_S A s.heap s.heap [] := va_S.rf
  refine W_entry (Nat.le_of_ble_eq_true rfl) (fun ls hl => ?_)
  have hl : lv_has ls 3 [(0, .ref (ad 0)), (1, .int x1)] := hl
  refine lv_aload_n hx hb dL_brim_0 rfl (lv_at hl 0 rfl) ?_
  refine lv_iload_n hx hb dL_brim_1 rfl (lv_at hl 1 rfl) ?_
  refine hcTo (wr := []) (As := [.int x1]) (rest := []) ⟨hx, hb, hml, hown, hts⟩ (kX5_brim l hfl D ca en ks vs ai ad bd _ u x1 hoi ) (cwV 1 hts (good_more gL_brim_X5_brim) rfl rfl rfl (by decide +kernel) ⟨Nat.le_of_ble_eq_true rfl, Nat.le_of_ble_eq_true rfl⟩) hK hP hD hS hA hX (List.Perm.refl _) rfl hl.1 rfl (Nat.le_of_ble_eq_true rfl) ⟨Nat.le_of_ble_eq_true rfl, Nat.le_of_ble_eq_true rfl⟩ dL_brim_2 (fun i E9 ce q9 H locs hi hk9 hP hD hS h5 h6 h7 => ?_) (fun H locs hk9 hP hD hS => ?_)
  · have hlt : i < 1 := (List.getElem?_eq_some_iff.mp hi).1
    rcases (show i = 0 by omega) with rfl
    · cases hi
      refine vx_catch (name := "java/lang/IndexOutOfBoundsException") hown [] ⟨0, 5, 6, 21⟩ [] htab (fun z hz => by cases hz) rfl (by decide) (hts (.classLink RL 21 "java/lang/IndexOutOfBoundsException") (List.mem_append_right _ (by decide +kernel))) (va_Nw.use rfl (hX.2.2.2.1 "java/lang/IndexOutOfBoundsException" (by decide +kernel))) h5 h6 h7 ?_
      refine lv_astore_n (lv' := [(2, .ref q9), (0, .ref (ad 0)), (1, .int x1)]) hx hb dL_brim_6 rfl hl (by decide) rfl (fun ls hl => ?_)
      refine lv_sipush (v := (-1001)) hx hb dL_brim_7 (by decide) ?_
      exact vx_ret (W.iret (v := (-1001)) hx hb hr (fun t ht hW => ⟨⟨(-1001), _, rfl, wrp_1 hk9, by rw [ht]; exact hP, va_K.moved hW.alike hK, hD⟩, hS.F ht⟩) hS.2.2 dL_brim_10)
  · exact vx_ret (W.iret hx hb hr (fun t ht hW => ⟨⟨_, _, rfl, wrp_0 hk9, by rw [ht]; exact hP, va_K.moved hW.alike hK, hD⟩, hS.F ht⟩) hS.2.2 dL_brim_5)
def wmL_coatChair : List Cond := wsL_coatChair ++ lx
set_option maxHeartbeats 4000000 in
set_option maxRecDepth 100000 in
theorem kL_coatChair (l : Launch) (hfl : l.stackTraces = false) (D : va_G) (ca : Nat → ClassId) (en ks vs : Nat → Nat) (ai : Nat → Nat → Nat) (ad bd : Nat → Nat) (sz : Nat) (u : OS) (x1 : Int32) (hoi : OI u) : LMet l yL_coatChair wmL_coatChair ({ frames := 8, cells := 2, slots := 12, locals := 125 }) D ca en ks vs ai ad bd sz u [.ref (ad 0), .int x1] (wrp (fX5_coatChair u x1)) := by
  unfold LMet
  refine vx_only (vx_ofWH (cc := cL_coatChair) (maxL := 3) (ret := (some .int)) (hh := [(0, 5, 6, 21), (0, 5, 11, 31)]) (by decide) rfl ?_)
  intro p e s m args below meth c s₁ B hml hv
  obtain ⟨rfl, hsz, hP, hK, hD0, hX⟩ := hv
  have hx := B.exec
  have hb := B.bytes
  have hr := B.returns
  have hts := atoms_spec (ws := wmL_coatChair) B.pre
  have hown : s.vm.findClass RL = some m.cls := findClass_of_methodNamed B.named
  have htab : c.exceptionTable.toList = tableOf [(0, 5, 6, 21), (0, 5, 11, 31)] := vx_table (x := yL_coatChair) B (hts (.codeWith yL_coatChair cL_coatChair 3 (some .int) [(0, 5, 6, 21), (0, 5, 11, 31)]) List.mem_cons_self)
  subst hsz
  have hD := hD0.self (sz := s.heap.size)
  generalize hAe : va_A (OW ca en ai ad bd u) s.heap.size = A at hD hX ⊢
  have hA : ∀ q : Nat, s.heap.size ≤ q → A q := fun q h => by rw [← hAe]; exact Or.inr h
  have hS : va_S A s.heap s.heap [] := va_S.rf
  refine W_entry (Nat.le_of_ble_eq_true rfl) (fun ls hl => ?_)
  have hl : lv_has ls 3 [(0, .ref (ad 0)), (1, .int x1)] := hl
  refine lv_aload_n hx hb dL_coatChair_0 rfl (lv_at hl 0 rfl) ?_
  refine lv_iload_n hx hb dL_coatChair_1 rfl (lv_at hl 1 rfl) ?_
  refine hcTo (wr := []) (As := [.int x1]) (rest := []) ⟨hx, hb, hml, hown, hts⟩ (kX5_coatChair l hfl D ca en ks vs ai ad bd _ u x1 hoi ) (cwV 1 hts (good_more gL_coatChair_X5_coatChair) rfl rfl rfl (by decide +kernel) ⟨Nat.le_of_ble_eq_true rfl, Nat.le_of_ble_eq_true rfl⟩) hK hP hD hS hA hX (List.Perm.refl _) rfl hl.1 rfl (Nat.le_of_ble_eq_true rfl) ⟨Nat.le_of_ble_eq_true rfl, Nat.le_of_ble_eq_true rfl⟩ dL_coatChair_2 (fun i E9 ce q9 H locs hi hk9 hP hD hS h5 h6 h7 => ?_) (fun H locs hk9 hP hD hS => ?_)
  · have hlt : i < 2 := (List.getElem?_eq_some_iff.mp hi).1
    rcases (show i = 0 ∨ i = 1 by omega) with rfl | rfl
    · cases hi
      refine vx_catch (name := "java/lang/IndexOutOfBoundsException") hown [] ⟨0, 5, 6, 21⟩ [⟨0, 5, 11, 31⟩] htab (fun z hz => by cases hz) rfl (by decide) (hts (.classLink RL 21 "java/lang/IndexOutOfBoundsException") (List.mem_append_right _ (by decide +kernel))) (va_Nw.use rfl (hX.2.2.2.1 "java/lang/IndexOutOfBoundsException" (by decide +kernel))) h5 h6 h7 ?_
      refine lv_astore_n (lv' := [(2, .ref q9), (0, .ref (ad 0)), (1, .int x1)]) hx hb dL_coatChair_6 rfl hl (by decide) rfl (fun ls hl => ?_)
      refine lv_sipush (v := (-1001)) hx hb dL_coatChair_7 (by decide) ?_
      exact vx_ret (W.iret (v := (-1001)) hx hb hr (fun t ht hW => ⟨⟨(-1001), _, rfl, wrp_1 hk9, by rw [ht]; exact hP, va_K.moved hW.alike hK, hD⟩, hS.F ht⟩) hS.2.2 dL_coatChair_10)
    · cases hi
      refine vx_catch (name := "java/util/NoSuchElementException") hown [⟨0, 5, 6, 21⟩] ⟨0, 5, 11, 31⟩ [] htab (fun z hz => Or.inr (by rcases (show z = (⟨0, 5, 6, 21⟩ : ExceptionTableEntry) from by simpa using hz) with rfl <;> first | exact ⟨by decide, "java/lang/IndexOutOfBoundsException", (hts (.classLink RL 21 "java/lang/IndexOutOfBoundsException") (List.mem_append_right _ (by decide +kernel))), hX.2.2.2.2.1 "java/util/NoSuchElementException" (by decide +kernel) "java/lang/IndexOutOfBoundsException" (by decide +kernel) (by decide)⟩)) rfl (by decide) (hts (.classLink RL 31 "java/util/NoSuchElementException") (List.mem_append_right _ (by decide +kernel))) (va_Nw.use rfl (hX.2.2.2.1 "java/util/NoSuchElementException" (by decide +kernel))) h5 h6 h7 ?_
      refine lv_astore_n (lv' := [(2, .ref q9), (0, .ref (ad 0)), (1, .int x1)]) hx hb dL_coatChair_11 rfl hl (by decide) rfl (fun ls hl => ?_)
      refine lv_sipush (v := (-1002)) hx hb dL_coatChair_12 (by decide) ?_
      exact vx_ret (W.iret (v := (-1002)) hx hb hr (fun t ht hW => ⟨⟨(-1002), _, rfl, wrp_2 hk9, by rw [ht]; exact hP, va_K.moved hW.alike hK, hD⟩, hS.F ht⟩) hS.2.2 dL_coatChair_15)
  · exact vx_ret (W.iret hx hb hr (fun t ht hW => ⟨⟨_, _, rfl, wrp_0 hk9, by rw [ht]; exact hP, va_K.moved hW.alike hK, hD⟩, hS.F ht⟩) hS.2.2 dL_coatChair_5)
def wmL_coatCount : List Cond := wsL_coatCount ++ lx
set_option maxHeartbeats 4000000 in
set_option maxRecDepth 100000 in
theorem kL_coatCount (l : Launch) (hfl : l.stackTraces = false) (D : va_G) (ca : Nat → ClassId) (en ks vs : Nat → Nat) (ai : Nat → Nat → Nat) (ad bd : Nat → Nat) (sz : Nat) (u : OS) (x1 : Int32) (hoi : OI u) : LMet l yL_coatCount wmL_coatCount ({ frames := 8, cells := 2, slots := 12, locals := 123 }) D ca en ks vs ai ad bd sz u [.ref (ad 0), .int x1] (wrp (fX5_coatCount u x1)) := by
  unfold LMet
  refine vx_only (vx_ofWH (cc := cL_coatCount) (maxL := 3) (ret := (some .int)) (hh := [(0, 5, 6, 21)]) (by decide) rfl ?_)
  intro p e s m args below meth c s₁ B hml hv
  obtain ⟨rfl, hsz, hP, hK, hD0, hX⟩ := hv
  have hx := B.exec
  have hb := B.bytes
  have hr := B.returns
  have hts := atoms_spec (ws := wmL_coatCount) B.pre
  have hown : s.vm.findClass RL = some m.cls := findClass_of_methodNamed B.named
  have htab : c.exceptionTable.toList = tableOf [(0, 5, 6, 21)] := vx_table (x := yL_coatCount) B (hts (.codeWith yL_coatCount cL_coatCount 3 (some .int) [(0, 5, 6, 21)]) List.mem_cons_self)
  subst hsz
  have hD := hD0.self (sz := s.heap.size)
  generalize hAe : va_A (OW ca en ai ad bd u) s.heap.size = A at hD hX ⊢
  have hA : ∀ q : Nat, s.heap.size ≤ q → A q := fun q h => by rw [← hAe]; exact Or.inr h
  have hS : va_S A s.heap s.heap [] := va_S.rf
  refine W_entry (Nat.le_of_ble_eq_true rfl) (fun ls hl => ?_)
  have hl : lv_has ls 3 [(0, .ref (ad 0)), (1, .int x1)] := hl
  refine lv_aload_n hx hb dL_coatCount_0 rfl (lv_at hl 0 rfl) ?_
  refine lv_iload_n hx hb dL_coatCount_1 rfl (lv_at hl 1 rfl) ?_
  refine hcTo (wr := []) (As := [.int x1]) (rest := []) ⟨hx, hb, hml, hown, hts⟩ (kX5_coatCount l hfl D ca en ks vs ai ad bd _ u x1 hoi ) (cwV 1 hts (good_more gL_coatCount_X5_coatCount) rfl rfl rfl (by decide +kernel) ⟨Nat.le_of_ble_eq_true rfl, Nat.le_of_ble_eq_true rfl⟩) hK hP hD hS hA hX (List.Perm.refl _) rfl hl.1 rfl (Nat.le_of_ble_eq_true rfl) ⟨Nat.le_of_ble_eq_true rfl, Nat.le_of_ble_eq_true rfl⟩ dL_coatCount_2 (fun i E9 ce q9 H locs hi hk9 hP hD hS h5 h6 h7 => ?_) (fun H locs hk9 hP hD hS => ?_)
  · have hlt : i < 1 := (List.getElem?_eq_some_iff.mp hi).1
    rcases (show i = 0 by omega) with rfl
    · cases hi
      refine vx_catch (name := "java/lang/IndexOutOfBoundsException") hown [] ⟨0, 5, 6, 21⟩ [] htab (fun z hz => by cases hz) rfl (by decide) (hts (.classLink RL 21 "java/lang/IndexOutOfBoundsException") (List.mem_append_right _ (by decide +kernel))) (va_Nw.use rfl (hX.2.2.2.1 "java/lang/IndexOutOfBoundsException" (by decide +kernel))) h5 h6 h7 ?_
      refine lv_astore_n (lv' := [(2, .ref q9), (0, .ref (ad 0)), (1, .int x1)]) hx hb dL_coatCount_6 rfl hl (by decide) rfl (fun ls hl => ?_)
      refine lv_sipush (v := (-1001)) hx hb dL_coatCount_7 (by decide) ?_
      exact vx_ret (W.iret (v := (-1001)) hx hb hr (fun t ht hW => ⟨⟨(-1001), _, rfl, wrp_1 hk9, by rw [ht]; exact hP, va_K.moved hW.alike hK, hD⟩, hS.F ht⟩) hS.2.2 dL_coatCount_10)
  · exact vx_ret (W.iret hx hb hr (fun t ht hW => ⟨⟨_, _, rfl, wrp_0 hk9, by rw [ht]; exact hP, va_K.moved hW.alike hK, hD⟩, hS.F ht⟩) hS.2.2 dL_coatCount_5)
def wmL_coatOwner : List Cond := wsL_coatOwner ++ lx
set_option maxHeartbeats 4000000 in
set_option maxRecDepth 100000 in
theorem kL_coatOwner (l : Launch) (hfl : l.stackTraces = false) (D : va_G) (ca : Nat → ClassId) (en ks vs : Nat → Nat) (ai : Nat → Nat → Nat) (ad bd : Nat → Nat) (sz : Nat) (u : OS) (x1 : Int32) (x2 : Int32) (hoi : OI u) : LMet l yL_coatOwner wmL_coatOwner ({ frames := 8, cells := 2, slots := 12, locals := 125 }) D ca en ks vs ai ad bd sz u [.ref (ad 0), .int x1, .int x2] (wrp (fX5_coatOwner u x1 x2)) := by
  unfold LMet
  refine vx_only (vx_ofWH (cc := cL_coatOwner) (maxL := 4) (ret := (some .int)) (hh := [(0, 6, 7, 21), (0, 6, 12, 31)]) (by decide) rfl ?_)
  intro p e s m args below meth c s₁ B hml hv
  obtain ⟨rfl, hsz, hP, hK, hD0, hX⟩ := hv
  have hx := B.exec
  have hb := B.bytes
  have hr := B.returns
  have hts := atoms_spec (ws := wmL_coatOwner) B.pre
  have hown : s.vm.findClass RL = some m.cls := findClass_of_methodNamed B.named
  have htab : c.exceptionTable.toList = tableOf [(0, 6, 7, 21), (0, 6, 12, 31)] := vx_table (x := yL_coatOwner) B (hts (.codeWith yL_coatOwner cL_coatOwner 4 (some .int) [(0, 6, 7, 21), (0, 6, 12, 31)]) List.mem_cons_self)
  subst hsz
  have hD := hD0.self (sz := s.heap.size)
  generalize hAe : va_A (OW ca en ai ad bd u) s.heap.size = A at hD hX ⊢
  have hA : ∀ q : Nat, s.heap.size ≤ q → A q := fun q h => by rw [← hAe]; exact Or.inr h
  have hS : va_S A s.heap s.heap [] := va_S.rf
  refine W_entry (Nat.le_of_ble_eq_true rfl) (fun ls hl => ?_)
  have hl : lv_has ls 4 [(0, .ref (ad 0)), (1, .int x1), (2, .int x2)] := hl
  refine lv_aload_n hx hb dL_coatOwner_0 rfl (lv_at hl 0 rfl) ?_
  refine lv_iload_n hx hb dL_coatOwner_1 rfl (lv_at hl 1 rfl) ?_
  refine lv_iload_n hx hb dL_coatOwner_2 rfl (lv_at hl 2 rfl) ?_
  refine hcTo (wr := []) (As := [.int x1, .int x2]) (rest := []) ⟨hx, hb, hml, hown, hts⟩ (kX5_coatOwner l hfl D ca en ks vs ai ad bd _ u x1 x2 hoi ) (cwV 2 hts (good_more gL_coatOwner_X5_coatOwner) rfl rfl rfl (by decide +kernel) ⟨Nat.le_of_ble_eq_true rfl, Nat.le_of_ble_eq_true rfl⟩) hK hP hD hS hA hX (List.Perm.refl _) rfl hl.1 rfl (Nat.le_of_ble_eq_true rfl) ⟨Nat.le_of_ble_eq_true rfl, Nat.le_of_ble_eq_true rfl⟩ dL_coatOwner_3 (fun i E9 ce q9 H locs hi hk9 hP hD hS h5 h6 h7 => ?_) (fun H locs hk9 hP hD hS => ?_)
  · have hlt : i < 2 := (List.getElem?_eq_some_iff.mp hi).1
    rcases (show i = 0 ∨ i = 1 by omega) with rfl | rfl
    · cases hi
      refine vx_catch (name := "java/lang/IndexOutOfBoundsException") hown [] ⟨0, 6, 7, 21⟩ [⟨0, 6, 12, 31⟩] htab (fun z hz => by cases hz) rfl (by decide) (hts (.classLink RL 21 "java/lang/IndexOutOfBoundsException") (List.mem_append_right _ (by decide +kernel))) (va_Nw.use rfl (hX.2.2.2.1 "java/lang/IndexOutOfBoundsException" (by decide +kernel))) h5 h6 h7 ?_
      refine lv_astore_n (lv' := [(3, .ref q9), (0, .ref (ad 0)), (1, .int x1), (2, .int x2)]) hx hb dL_coatOwner_7 rfl hl (by decide) rfl (fun ls hl => ?_)
      refine lv_sipush (v := (-1001)) hx hb dL_coatOwner_8 (by decide) ?_
      exact vx_ret (W.iret (v := (-1001)) hx hb hr (fun t ht hW => ⟨⟨(-1001), _, rfl, wrp_1 hk9, by rw [ht]; exact hP, va_K.moved hW.alike hK, hD⟩, hS.F ht⟩) hS.2.2 dL_coatOwner_11)
    · cases hi
      refine vx_catch (name := "java/util/NoSuchElementException") hown [⟨0, 6, 7, 21⟩] ⟨0, 6, 12, 31⟩ [] htab (fun z hz => Or.inr (by rcases (show z = (⟨0, 6, 7, 21⟩ : ExceptionTableEntry) from by simpa using hz) with rfl <;> first | exact ⟨by decide, "java/lang/IndexOutOfBoundsException", (hts (.classLink RL 21 "java/lang/IndexOutOfBoundsException") (List.mem_append_right _ (by decide +kernel))), hX.2.2.2.2.1 "java/util/NoSuchElementException" (by decide +kernel) "java/lang/IndexOutOfBoundsException" (by decide +kernel) (by decide)⟩)) rfl (by decide) (hts (.classLink RL 31 "java/util/NoSuchElementException") (List.mem_append_right _ (by decide +kernel))) (va_Nw.use rfl (hX.2.2.2.1 "java/util/NoSuchElementException" (by decide +kernel))) h5 h6 h7 ?_
      refine lv_astore_n (lv' := [(3, .ref q9), (0, .ref (ad 0)), (1, .int x1), (2, .int x2)]) hx hb dL_coatOwner_12 rfl hl (by decide) rfl (fun ls hl => ?_)
      refine lv_sipush (v := (-1002)) hx hb dL_coatOwner_13 (by decide) ?_
      exact vx_ret (W.iret (v := (-1002)) hx hb hr (fun t ht hW => ⟨⟨(-1002), _, rfl, wrp_2 hk9, by rw [ht]; exact hP, va_K.moved hW.alike hK, hD⟩, hS.F ht⟩) hS.2.2 dL_coatOwner_16)
  · exact vx_ret (W.iret hx hb hr (fun t ht hW => ⟨⟨_, _, rfl, wrp_0 hk9, by rw [ht]; exact hP, va_K.moved hW.alike hK, hD⟩, hS.F ht⟩) hS.2.2 dL_coatOwner_6)
def wmL_contest : List Cond := wsL_contest ++ lx
set_option maxHeartbeats 4000000 in
set_option maxRecDepth 100000 in
theorem kL_contest (l : Launch) (hfl : l.stackTraces = false) (D : va_G) (ca : Nat → ClassId) (en ks vs : Nat → Nat) (ai : Nat → Nat → Nat) (ad bd : Nat → Nat) (sz : Nat) (u : OS) (x1 : Int32) (x2 : Int32) (hoi : OI u) : LMet l yL_contest wmL_contest ({ frames := 7, cells := 2, slots := 12, locals := 149 }) D ca en ks vs ai ad bd sz u [.ref (ad 0), .int x1, .int x2] (wrb (fX5_contest u x1 x2)) := by
  unfold LMet
  refine vx_only (vx_ofWH (cc := cL_contest) (maxL := 4) (ret := (some .int)) (hh := [(0, 14, 15, 21), (0, 14, 20, 31), (0, 14, 25, 15)]) (by decide) rfl ?_)
  intro p e s m args below meth c s₁ B hml hv
  obtain ⟨rfl, hsz, hP, hK, hD0, hX⟩ := hv
  have hx := B.exec
  have hb := B.bytes
  have hr := B.returns
  have hts := atoms_spec (ws := wmL_contest) B.pre
  have hown : s.vm.findClass RL = some m.cls := findClass_of_methodNamed B.named
  have htab : c.exceptionTable.toList = tableOf [(0, 14, 15, 21), (0, 14, 20, 31), (0, 14, 25, 15)] := vx_table (x := yL_contest) B (hts (.codeWith yL_contest cL_contest 4 (some .int) [(0, 14, 15, 21), (0, 14, 20, 31), (0, 14, 25, 15)]) List.mem_cons_self)
  subst hsz
  have hD := hD0.self (sz := s.heap.size)
  generalize hAe : va_A (OW ca en ai ad bd u) s.heap.size = A at hD hX ⊢
  have hA : ∀ q : Nat, s.heap.size ≤ q → A q := fun q h => by rw [← hAe]; exact Or.inr h
  have hS : va_S A s.heap s.heap [] := va_S.rf
  refine W_entry (Nat.le_of_ble_eq_true rfl) (fun ls hl => ?_)
  have hl : lv_has ls 4 [(0, .ref (ad 0)), (1, .int x1), (2, .int x2)] := hl
  refine lv_aload_n hx hb dL_contest_0 rfl (lv_at hl 0 rfl) ?_
  refine lv_iload_n hx hb dL_contest_1 rfl (lv_at hl 1 rfl) ?_
  refine lv_iload_n hx hb dL_contest_2 rfl (lv_at hl 2 rfl) ?_
  refine hcTo (wr := []) (As := [.int x1, .int x2]) (rest := []) ⟨hx, hb, hml, hown, hts⟩ (kX5_contest l hfl D ca en ks vs ai ad bd _ u x1 x2 hoi ) (cwV 2 hts (good_more gL_contest_X5_contest) rfl rfl rfl (by decide +kernel) ⟨Nat.le_of_ble_eq_true rfl, Nat.le_of_ble_eq_true rfl⟩) hK hP hD hS hA hX (List.Perm.refl _) rfl hl.1 rfl (Nat.le_of_ble_eq_true rfl) ⟨Nat.le_of_ble_eq_true rfl, Nat.le_of_ble_eq_true rfl⟩ dL_contest_3 (fun i E9 ce q9 H locs hi hk9 hP hD hS h5 h6 h7 => ?_) (fun H locs hk9 hP hD hS => ?_)
  · have hlt : i < 3 := (List.getElem?_eq_some_iff.mp hi).1
    rcases (show i = 0 ∨ i = 1 ∨ i = 2 by omega) with rfl | rfl | rfl
    · cases hi
      refine vx_catch (name := "java/lang/IndexOutOfBoundsException") hown [] ⟨0, 14, 15, 21⟩ [⟨0, 14, 20, 31⟩, ⟨0, 14, 25, 15⟩] htab (fun z hz => by cases hz) rfl (by decide) (hts (.classLink RL 21 "java/lang/IndexOutOfBoundsException") (List.mem_append_right _ (by decide +kernel))) (va_Nw.use rfl (hX.2.2.2.1 "java/lang/IndexOutOfBoundsException" (by decide +kernel))) h5 h6 h7 ?_
      refine lv_astore_n (lv' := [(3, .ref q9), (0, .ref (ad 0)), (1, .int x1), (2, .int x2)]) hx hb dL_contest_15 rfl hl (by decide) rfl (fun ls hl => ?_)
      refine lv_sipush (v := (-1001)) hx hb dL_contest_16 (by decide) ?_
      exact vx_ret (W.iret (v := (-1001)) hx hb hr (fun t ht hW => ⟨⟨(-1001), _, rfl, wrb_1 hk9, by rw [ht]; exact hP, va_K.moved hW.alike hK, hD⟩, hS.F ht⟩) hS.2.2 dL_contest_19)
    · cases hi
      refine vx_catch (name := "java/util/NoSuchElementException") hown [⟨0, 14, 15, 21⟩] ⟨0, 14, 20, 31⟩ [⟨0, 14, 25, 15⟩] htab (fun z hz => Or.inr (by rcases (show z = (⟨0, 14, 15, 21⟩ : ExceptionTableEntry) from by simpa using hz) with rfl <;> first | exact ⟨by decide, "java/lang/IndexOutOfBoundsException", (hts (.classLink RL 21 "java/lang/IndexOutOfBoundsException") (List.mem_append_right _ (by decide +kernel))), hX.2.2.2.2.1 "java/util/NoSuchElementException" (by decide +kernel) "java/lang/IndexOutOfBoundsException" (by decide +kernel) (by decide)⟩)) rfl (by decide) (hts (.classLink RL 31 "java/util/NoSuchElementException") (List.mem_append_right _ (by decide +kernel))) (va_Nw.use rfl (hX.2.2.2.1 "java/util/NoSuchElementException" (by decide +kernel))) h5 h6 h7 ?_
      refine lv_astore_n (lv' := [(3, .ref q9), (0, .ref (ad 0)), (1, .int x1), (2, .int x2)]) hx hb dL_contest_20 rfl hl (by decide) rfl (fun ls hl => ?_)
      refine lv_sipush (v := (-1002)) hx hb dL_contest_21 (by decide) ?_
      exact vx_ret (W.iret (v := (-1002)) hx hb hr (fun t ht hW => ⟨⟨(-1002), _, rfl, wrb_2 hk9, by rw [ht]; exact hP, va_K.moved hW.alike hK, hD⟩, hS.F ht⟩) hS.2.2 dL_contest_24)
    · cases hi
      refine vx_catch (name := "java/lang/IllegalStateException") hown [⟨0, 14, 15, 21⟩, ⟨0, 14, 20, 31⟩] ⟨0, 14, 25, 15⟩ [] htab (fun z hz => Or.inr (by rcases (show z = (⟨0, 14, 15, 21⟩ : ExceptionTableEntry) ∨ z = (⟨0, 14, 20, 31⟩ : ExceptionTableEntry) from by simpa using hz) with rfl | rfl <;> first | exact ⟨by decide, "java/lang/IndexOutOfBoundsException", (hts (.classLink RL 21 "java/lang/IndexOutOfBoundsException") (List.mem_append_right _ (by decide +kernel))), hX.2.2.2.2.1 "java/lang/IllegalStateException" (by decide +kernel) "java/lang/IndexOutOfBoundsException" (by decide +kernel) (by decide)⟩ | exact ⟨by decide, "java/util/NoSuchElementException", (hts (.classLink RL 31 "java/util/NoSuchElementException") (List.mem_append_right _ (by decide +kernel))), hX.2.2.2.2.1 "java/lang/IllegalStateException" (by decide +kernel) "java/util/NoSuchElementException" (by decide +kernel) (by decide)⟩)) rfl (by decide) (hts (.classLink RL 15 "java/lang/IllegalStateException") (List.mem_append_right _ (by decide +kernel))) (va_Nw.use rfl (hX.2.2.2.1 "java/lang/IllegalStateException" (by decide +kernel))) h5 h6 h7 ?_
      refine lv_astore_n (lv' := [(3, .ref q9), (0, .ref (ad 0)), (1, .int x1), (2, .int x2)]) hx hb dL_contest_25 rfl hl (by decide) rfl (fun ls hl => ?_)
      refine lv_sipush (v := (-1003)) hx hb dL_contest_26 (by decide) ?_
      exact vx_ret (W.iret (v := (-1003)) hx hb hr (fun t ht hW => ⟨⟨(-1003), _, rfl, wrb_3 hk9, by rw [ht]; exact hP, va_K.moved hW.alike hK, hD⟩, hS.F ht⟩) hS.2.2 dL_contest_29)
  · refine lv_if_eq (tgt := 13) hx hb dL_contest_6 (by decide) (fun c0 => ?_) (fun c0 => ?_)
    · refine lv_iconst (v := 0) hx hb dL_contest_13 (by decide) ?_
      exact vx_ret (W.iret (v := 0) hx hb hr (fun t ht hW => ⟨⟨0, _, rfl, wrb_0 hk9 c0, by rw [ht]; exact hP, va_K.moved hW.alike hK, hD⟩, hS.F ht⟩) hS.2.2 dL_contest_14)
    · refine lv_iconst (v := 1) hx hb dL_contest_9 (by decide) ?_
      refine lv_goto (tgt := 14) hx hb dL_contest_10 (by decide) ?_
      exact vx_ret (W.iret (v := 1) hx hb hr (fun t ht hW => ⟨⟨1, _, rfl, wrb_9 hk9 c0, by rw [ht]; exact hP, va_K.moved hW.alike hK, hD⟩, hS.F ht⟩) hS.2.2 dL_contest_14)
def wmL_coverSize : List Cond := wsL_coverSize ++ lx
set_option maxHeartbeats 4000000 in
set_option maxRecDepth 100000 in
theorem kL_coverSize (l : Launch) (hfl : l.stackTraces = false) (D : va_G) (ca : Nat → ClassId) (en ks vs : Nat → Nat) (ai : Nat → Nat → Nat) (ad bd : Nat → Nat) (sz : Nat) (u : OS) (x1 : Int32) (hoi : OI u) : LMet l yL_coverSize wmL_coverSize ({ frames := 8, cells := 2, slots := 12, locals := 124 }) D ca en ks vs ai ad bd sz u [.ref (ad 0), .int x1] (wrp (fX5_coverSize u x1)) := by
  unfold LMet
  refine vx_only (vx_ofWH (cc := cL_coverSize) (maxL := 3) (ret := (some .int)) (hh := [(0, 5, 6, 21)]) (by decide) rfl ?_)
  intro p e s m args below meth c s₁ B hml hv
  obtain ⟨rfl, hsz, hP, hK, hD0, hX⟩ := hv
  have hx := B.exec
  have hb := B.bytes
  have hr := B.returns
  have hts := atoms_spec (ws := wmL_coverSize) B.pre
  have hown : s.vm.findClass RL = some m.cls := findClass_of_methodNamed B.named
  have htab : c.exceptionTable.toList = tableOf [(0, 5, 6, 21)] := vx_table (x := yL_coverSize) B (hts (.codeWith yL_coverSize cL_coverSize 3 (some .int) [(0, 5, 6, 21)]) List.mem_cons_self)
  subst hsz
  have hD := hD0.self (sz := s.heap.size)
  generalize hAe : va_A (OW ca en ai ad bd u) s.heap.size = A at hD hX ⊢
  have hA : ∀ q : Nat, s.heap.size ≤ q → A q := fun q h => by rw [← hAe]; exact Or.inr h
  have hS : va_S A s.heap s.heap [] := va_S.rf
  refine W_entry (Nat.le_of_ble_eq_true rfl) (fun ls hl => ?_)
  have hl : lv_has ls 3 [(0, .ref (ad 0)), (1, .int x1)] := hl
  refine lv_aload_n hx hb dL_coverSize_0 rfl (lv_at hl 0 rfl) ?_
  refine lv_iload_n hx hb dL_coverSize_1 rfl (lv_at hl 1 rfl) ?_
  refine hcTo (wr := []) (As := [.int x1]) (rest := []) ⟨hx, hb, hml, hown, hts⟩ (kX5_coverSize l hfl D ca en ks vs ai ad bd _ u x1 hoi ) (cwV 1 hts (good_more gL_coverSize_X5_coverSize) rfl rfl rfl (by decide +kernel) ⟨Nat.le_of_ble_eq_true rfl, Nat.le_of_ble_eq_true rfl⟩) hK hP hD hS hA hX (List.Perm.refl _) rfl hl.1 rfl (Nat.le_of_ble_eq_true rfl) ⟨Nat.le_of_ble_eq_true rfl, Nat.le_of_ble_eq_true rfl⟩ dL_coverSize_2 (fun i E9 ce q9 H locs hi hk9 hP hD hS h5 h6 h7 => ?_) (fun H locs hk9 hP hD hS => ?_)
  · have hlt : i < 1 := (List.getElem?_eq_some_iff.mp hi).1
    rcases (show i = 0 by omega) with rfl
    · cases hi
      refine vx_catch (name := "java/lang/IndexOutOfBoundsException") hown [] ⟨0, 5, 6, 21⟩ [] htab (fun z hz => by cases hz) rfl (by decide) (hts (.classLink RL 21 "java/lang/IndexOutOfBoundsException") (List.mem_append_right _ (by decide +kernel))) (va_Nw.use rfl (hX.2.2.2.1 "java/lang/IndexOutOfBoundsException" (by decide +kernel))) h5 h6 h7 ?_
      refine lv_astore_n (lv' := [(2, .ref q9), (0, .ref (ad 0)), (1, .int x1)]) hx hb dL_coverSize_6 rfl hl (by decide) rfl (fun ls hl => ?_)
      refine lv_sipush (v := (-1001)) hx hb dL_coverSize_7 (by decide) ?_
      exact vx_ret (W.iret (v := (-1001)) hx hb hr (fun t ht hW => ⟨⟨(-1001), _, rfl, wrp_1 hk9, by rw [ht]; exact hP, va_K.moved hW.alike hK, hD⟩, hS.F ht⟩) hS.2.2 dL_coverSize_10)
  · exact vx_ret (W.iret hx hb hr (fun t ht hW => ⟨⟨_, _, rfl, wrp_0 hk9, by rw [ht]; exact hP, va_K.moved hW.alike hK, hD⟩, hS.F ht⟩) hS.2.2 dL_coverSize_5)
def wmL_coverer : List Cond := wsL_coverer ++ lx
set_option maxHeartbeats 4000000 in
set_option maxRecDepth 100000 in
theorem kL_coverer (l : Launch) (hfl : l.stackTraces = false) (D : va_G) (ca : Nat → ClassId) (en ks vs : Nat → Nat) (ai : Nat → Nat → Nat) (ad bd : Nat → Nat) (sz : Nat) (u : OS) (x1 : Int32) (hoi : OI u) : LMet l yL_coverer wmL_coverer ({ frames := 8, cells := 2, slots := 12, locals := 124 }) D ca en ks vs ai ad bd sz u [.ref (ad 0), .int x1] (wrp (fX5_covererOf u x1)) := by
  unfold LMet
  refine vx_only (vx_ofWH (cc := cL_coverer) (maxL := 3) (ret := (some .int)) (hh := [(0, 5, 6, 21), (0, 5, 11, 31)]) (by decide) rfl ?_)
  intro p e s m args below meth c s₁ B hml hv
  obtain ⟨rfl, hsz, hP, hK, hD0, hX⟩ := hv
  have hx := B.exec
  have hb := B.bytes
  have hr := B.returns
  have hts := atoms_spec (ws := wmL_coverer) B.pre
  have hown : s.vm.findClass RL = some m.cls := findClass_of_methodNamed B.named
  have htab : c.exceptionTable.toList = tableOf [(0, 5, 6, 21), (0, 5, 11, 31)] := vx_table (x := yL_coverer) B (hts (.codeWith yL_coverer cL_coverer 3 (some .int) [(0, 5, 6, 21), (0, 5, 11, 31)]) List.mem_cons_self)
  subst hsz
  have hD := hD0.self (sz := s.heap.size)
  generalize hAe : va_A (OW ca en ai ad bd u) s.heap.size = A at hD hX ⊢
  have hA : ∀ q : Nat, s.heap.size ≤ q → A q := fun q h => by rw [← hAe]; exact Or.inr h
  have hS : va_S A s.heap s.heap [] := va_S.rf
  refine W_entry (Nat.le_of_ble_eq_true rfl) (fun ls hl => ?_)
  have hl : lv_has ls 3 [(0, .ref (ad 0)), (1, .int x1)] := hl
  refine lv_aload_n hx hb dL_coverer_0 rfl (lv_at hl 0 rfl) ?_
  refine lv_iload_n hx hb dL_coverer_1 rfl (lv_at hl 1 rfl) ?_
  refine hcTo (wr := []) (As := [.int x1]) (rest := []) ⟨hx, hb, hml, hown, hts⟩ (kX5_covererOf l hfl D ca en ks vs ai ad bd _ u x1 hoi ) (cwV 1 hts (good_more gL_coverer_X5_covererOf) rfl rfl rfl (by decide +kernel) ⟨Nat.le_of_ble_eq_true rfl, Nat.le_of_ble_eq_true rfl⟩) hK hP hD hS hA hX (List.Perm.refl _) rfl hl.1 rfl (Nat.le_of_ble_eq_true rfl) ⟨Nat.le_of_ble_eq_true rfl, Nat.le_of_ble_eq_true rfl⟩ dL_coverer_2 (fun i E9 ce q9 H locs hi hk9 hP hD hS h5 h6 h7 => ?_) (fun H locs hk9 hP hD hS => ?_)
  · have hlt : i < 2 := (List.getElem?_eq_some_iff.mp hi).1
    rcases (show i = 0 ∨ i = 1 by omega) with rfl | rfl
    · cases hi
      refine vx_catch (name := "java/lang/IndexOutOfBoundsException") hown [] ⟨0, 5, 6, 21⟩ [⟨0, 5, 11, 31⟩] htab (fun z hz => by cases hz) rfl (by decide) (hts (.classLink RL 21 "java/lang/IndexOutOfBoundsException") (List.mem_append_right _ (by decide +kernel))) (va_Nw.use rfl (hX.2.2.2.1 "java/lang/IndexOutOfBoundsException" (by decide +kernel))) h5 h6 h7 ?_
      refine lv_astore_n (lv' := [(2, .ref q9), (0, .ref (ad 0)), (1, .int x1)]) hx hb dL_coverer_6 rfl hl (by decide) rfl (fun ls hl => ?_)
      refine lv_sipush (v := (-1001)) hx hb dL_coverer_7 (by decide) ?_
      exact vx_ret (W.iret (v := (-1001)) hx hb hr (fun t ht hW => ⟨⟨(-1001), _, rfl, wrp_1 hk9, by rw [ht]; exact hP, va_K.moved hW.alike hK, hD⟩, hS.F ht⟩) hS.2.2 dL_coverer_10)
    · cases hi
      refine vx_catch (name := "java/util/NoSuchElementException") hown [⟨0, 5, 6, 21⟩] ⟨0, 5, 11, 31⟩ [] htab (fun z hz => Or.inr (by rcases (show z = (⟨0, 5, 6, 21⟩ : ExceptionTableEntry) from by simpa using hz) with rfl <;> first | exact ⟨by decide, "java/lang/IndexOutOfBoundsException", (hts (.classLink RL 21 "java/lang/IndexOutOfBoundsException") (List.mem_append_right _ (by decide +kernel))), hX.2.2.2.2.1 "java/util/NoSuchElementException" (by decide +kernel) "java/lang/IndexOutOfBoundsException" (by decide +kernel) (by decide)⟩)) rfl (by decide) (hts (.classLink RL 31 "java/util/NoSuchElementException") (List.mem_append_right _ (by decide +kernel))) (va_Nw.use rfl (hX.2.2.2.1 "java/util/NoSuchElementException" (by decide +kernel))) h5 h6 h7 ?_
      refine lv_astore_n (lv' := [(2, .ref q9), (0, .ref (ad 0)), (1, .int x1)]) hx hb dL_coverer_11 rfl hl (by decide) rfl (fun ls hl => ?_)
      refine lv_sipush (v := (-1002)) hx hb dL_coverer_12 (by decide) ?_
      exact vx_ret (W.iret (v := (-1002)) hx hb hr (fun t ht hW => ⟨⟨(-1002), _, rfl, wrp_2 hk9, by rw [ht]; exact hP, va_K.moved hW.alike hK, hD⟩, hS.F ht⟩) hS.2.2 dL_coverer_15)
  · exact vx_ret (W.iret hx hb hr (fun t ht hW => ⟨⟨_, _, rfl, wrp_0 hk9, by rw [ht]; exact hP, va_K.moved hW.alike hK, hD⟩, hS.F ht⟩) hS.2.2 dL_coverer_5)
def wmL_describe : List Cond := wsL_describe ++ lx
set_option maxHeartbeats 4000000 in
set_option maxRecDepth 100000 in
theorem kL_describe (l : Launch) (hfl : l.stackTraces = false) (D : va_G) (ca : Nat → ClassId) (en ks vs : Nat → Nat) (ai : Nat → Nat → Nat) (ad bd : Nat → Nat) (sz : Nat) (u : OS) (x1 : Int32) (hoi : OI u) (hdead : ¬ fX5_requireRow x1 = 0) : LMet l yL_describe wmL_describe ({ frames := 8, cells := 2, slots := 12, locals := 124 }) D ca en ks vs ai ad bd sz u [.ref (ad 0), .int x1] (wrp (fX5_describeRow u x1)) := by
  unfold LMet
  refine vx_only (vx_ofWH (cc := cL_describe) (maxL := 3) (ret := (some .int)) (hh := [(0, 5, 6, 21)]) (by decide) rfl ?_)
  intro p e s m args below meth c s₁ B hml hv
  obtain ⟨rfl, hsz, hP, hK, hD0, hX⟩ := hv
  have hx := B.exec
  have hb := B.bytes
  have hr := B.returns
  have hts := atoms_spec (ws := wmL_describe) B.pre
  have hown : s.vm.findClass RL = some m.cls := findClass_of_methodNamed B.named
  have htab : c.exceptionTable.toList = tableOf [(0, 5, 6, 21)] := vx_table (x := yL_describe) B (hts (.codeWith yL_describe cL_describe 3 (some .int) [(0, 5, 6, 21)]) List.mem_cons_self)
  subst hsz
  have hD := hD0.self (sz := s.heap.size)
  generalize hAe : va_A (OW ca en ai ad bd u) s.heap.size = A at hD hX ⊢
  have hA : ∀ q : Nat, s.heap.size ≤ q → A q := fun q h => by rw [← hAe]; exact Or.inr h
  have hS : va_S A s.heap s.heap [] := va_S.rf
  refine W_entry (Nat.le_of_ble_eq_true rfl) (fun ls hl => ?_)
  have hl : lv_has ls 3 [(0, .ref (ad 0)), (1, .int x1)] := hl
  refine lv_aload_n hx hb dL_describe_0 rfl (lv_at hl 0 rfl) ?_
  refine lv_iload_n hx hb dL_describe_1 rfl (lv_at hl 1 rfl) ?_
  refine hcTo (wr := []) (As := [.int x1]) (rest := []) ⟨hx, hb, hml, hown, hts⟩ (kX5_describeRow l hfl D ca en ks vs ai ad bd _ u x1 hoi hdead) (cwV 1 hts (good_more gL_describe_X5_describeRow) rfl rfl rfl (by decide +kernel) ⟨Nat.le_of_ble_eq_true rfl, Nat.le_of_ble_eq_true rfl⟩) hK hP hD hS hA hX (List.Perm.refl _) rfl hl.1 rfl (Nat.le_of_ble_eq_true rfl) ⟨Nat.le_of_ble_eq_true rfl, Nat.le_of_ble_eq_true rfl⟩ dL_describe_2 (fun i E9 ce q9 H locs hi hk9 hP hD hS h5 h6 h7 => ?_) (fun H locs hk9 hP hD hS => ?_)
  · have hlt : i < 1 := (List.getElem?_eq_some_iff.mp hi).1
    rcases (show i = 0 by omega) with rfl
    · cases hi
      refine vx_catch (name := "java/lang/IndexOutOfBoundsException") hown [] ⟨0, 5, 6, 21⟩ [] htab (fun z hz => by cases hz) rfl (by decide) (hts (.classLink RL 21 "java/lang/IndexOutOfBoundsException") (List.mem_append_right _ (by decide +kernel))) (va_Nw.use rfl (hX.2.2.2.1 "java/lang/IndexOutOfBoundsException" (by decide +kernel))) h5 h6 h7 ?_
      refine lv_astore_n (lv' := [(2, .ref q9), (0, .ref (ad 0)), (1, .int x1)]) hx hb dL_describe_6 rfl hl (by decide) rfl (fun ls hl => ?_)
      refine lv_sipush (v := (-1001)) hx hb dL_describe_7 (by decide) ?_
      exact vx_ret (W.iret (v := (-1001)) hx hb hr (fun t ht hW => ⟨⟨(-1001), _, rfl, wrp_1 hk9, by rw [ht]; exact hP, va_K.moved hW.alike hK, hD⟩, hS.F ht⟩) hS.2.2 dL_describe_10)
  · exact vx_ret (W.iret hx hb hr (fun t ht hW => ⟨⟨_, _, rfl, wrp_0 hk9, by rw [ht]; exact hP, va_K.moved hW.alike hK, hD⟩, hS.F ht⟩) hS.2.2 dL_describe_5)
def wmL_errorPosition : List Cond := wsL_errorPosition ++ lx
set_option maxHeartbeats 4000000 in
set_option maxRecDepth 100000 in
theorem kL_errorPosition (l : Launch) (hfl : l.stackTraces = false) (D : va_G) (ca : Nat → ClassId) (en ks vs : Nat → Nat) (ai : Nat → Nat → Nat) (ad bd : Nat → Nat) (sz : Nat) (u : OS) (hoi : OI u) : LMet l yL_errorPosition wmL_errorPosition ({ frames := 7, cells := 2, slots := 12, locals := 102 }) D ca en ks vs ai ad bd sz u [.ref (ad 0)] (wrp (fX5_errorPosition u)) := by
  unfold LMet
  refine vx_only (vx_ofWH (cc := cL_errorPosition) (maxL := 2) (ret := (some .int)) (hh := [(0, 4, 5, 31)]) (by decide) rfl ?_)
  intro p e s m args below meth c s₁ B hml hv
  obtain ⟨rfl, hsz, hP, hK, hD0, hX⟩ := hv
  have hx := B.exec
  have hb := B.bytes
  have hr := B.returns
  have hts := atoms_spec (ws := wmL_errorPosition) B.pre
  have hown : s.vm.findClass RL = some m.cls := findClass_of_methodNamed B.named
  have htab : c.exceptionTable.toList = tableOf [(0, 4, 5, 31)] := vx_table (x := yL_errorPosition) B (hts (.codeWith yL_errorPosition cL_errorPosition 2 (some .int) [(0, 4, 5, 31)]) List.mem_cons_self)
  subst hsz
  have hD := hD0.self (sz := s.heap.size)
  generalize hAe : va_A (OW ca en ai ad bd u) s.heap.size = A at hD hX ⊢
  have hA : ∀ q : Nat, s.heap.size ≤ q → A q := fun q h => by rw [← hAe]; exact Or.inr h
  have hS : va_S A s.heap s.heap [] := va_S.rf
  refine W_entry (Nat.le_of_ble_eq_true rfl) (fun ls hl => ?_)
  have hl : lv_has ls 2 [(0, .ref (ad 0))] := hl
  refine lv_aload_n hx hb dL_errorPosition_0 rfl (lv_at hl 0 rfl) ?_
  refine hcTo (wr := []) (As := []) (rest := []) ⟨hx, hb, hml, hown, hts⟩ (kX5_errorPosition l hfl D ca en ks vs ai ad bd _ u  hoi ) (cwV 0 hts (good_more gL_errorPosition_X5_errorPosition) rfl rfl rfl (by decide +kernel) ⟨Nat.le_of_ble_eq_true rfl, Nat.le_of_ble_eq_true rfl⟩) hK hP hD hS hA hX (List.Perm.refl _) rfl hl.1 rfl (Nat.le_of_ble_eq_true rfl) ⟨Nat.le_of_ble_eq_true rfl, Nat.le_of_ble_eq_true rfl⟩ dL_errorPosition_1 (fun i E9 ce q9 H locs hi hk9 hP hD hS h5 h6 h7 => ?_) (fun H locs hk9 hP hD hS => ?_)
  · have hlt : i < 1 := (List.getElem?_eq_some_iff.mp hi).1
    rcases (show i = 0 by omega) with rfl
    · cases hi
      refine vx_catch (name := "java/util/NoSuchElementException") hown [] ⟨0, 4, 5, 31⟩ [] htab (fun z hz => by cases hz) rfl (by decide) (hts (.classLink RL 31 "java/util/NoSuchElementException") (List.mem_append_right _ (by decide +kernel))) (va_Nw.use rfl (hX.2.2.2.1 "java/util/NoSuchElementException" (by decide +kernel))) h5 h6 h7 ?_
      refine lv_astore_n (lv' := [(1, .ref q9), (0, .ref (ad 0))]) hx hb dL_errorPosition_5 rfl hl (by decide) rfl (fun ls hl => ?_)
      refine lv_sipush (v := (-1001)) hx hb dL_errorPosition_6 (by decide) ?_
      exact vx_ret (W.iret (v := (-1001)) hx hb hr (fun t ht hW => ⟨⟨(-1001), _, rfl, wrp_1 hk9, by rw [ht]; exact hP, va_K.moved hW.alike hK, hD⟩, hS.F ht⟩) hS.2.2 dL_errorPosition_9)
  · exact vx_ret (W.iret hx hb hr (fun t ht hW => ⟨⟨_, _, rfl, wrp_0 hk9, by rw [ht]; exact hP, va_K.moved hW.alike hK, hD⟩, hS.F ht⟩) hS.2.2 dL_errorPosition_4)
def wmL_failedCommand : List Cond := wsL_failedCommand ++ lx
set_option maxHeartbeats 4000000 in
set_option maxRecDepth 100000 in
theorem kL_failedCommand (l : Launch) (hfl : l.stackTraces = false) (D : va_G) (ca : Nat → ClassId) (en ks vs : Nat → Nat) (ai : Nat → Nat → Nat) (ad bd : Nat → Nat) (sz : Nat) (u : OS) (hoi : OI u) : LMet l yL_failedCommand wmL_failedCommand ({ frames := 7, cells := 2, slots := 12, locals := 102 }) D ca en ks vs ai ad bd sz u [.ref (ad 0)] (wrp (fX5_failedCommand u)) := by
  unfold LMet
  refine vx_only (vx_ofWH (cc := cL_failedCommand) (maxL := 2) (ret := (some .int)) (hh := [(0, 4, 5, 31)]) (by decide) rfl ?_)
  intro p e s m args below meth c s₁ B hml hv
  obtain ⟨rfl, hsz, hP, hK, hD0, hX⟩ := hv
  have hx := B.exec
  have hb := B.bytes
  have hr := B.returns
  have hts := atoms_spec (ws := wmL_failedCommand) B.pre
  have hown : s.vm.findClass RL = some m.cls := findClass_of_methodNamed B.named
  have htab : c.exceptionTable.toList = tableOf [(0, 4, 5, 31)] := vx_table (x := yL_failedCommand) B (hts (.codeWith yL_failedCommand cL_failedCommand 2 (some .int) [(0, 4, 5, 31)]) List.mem_cons_self)
  subst hsz
  have hD := hD0.self (sz := s.heap.size)
  generalize hAe : va_A (OW ca en ai ad bd u) s.heap.size = A at hD hX ⊢
  have hA : ∀ q : Nat, s.heap.size ≤ q → A q := fun q h => by rw [← hAe]; exact Or.inr h
  have hS : va_S A s.heap s.heap [] := va_S.rf
  refine W_entry (Nat.le_of_ble_eq_true rfl) (fun ls hl => ?_)
  have hl : lv_has ls 2 [(0, .ref (ad 0))] := hl
  refine lv_aload_n hx hb dL_failedCommand_0 rfl (lv_at hl 0 rfl) ?_
  refine hcTo (wr := []) (As := []) (rest := []) ⟨hx, hb, hml, hown, hts⟩ (kX5_failedCommand l hfl D ca en ks vs ai ad bd _ u  hoi ) (cwV 0 hts (good_more gL_failedCommand_X5_failedCommand) rfl rfl rfl (by decide +kernel) ⟨Nat.le_of_ble_eq_true rfl, Nat.le_of_ble_eq_true rfl⟩) hK hP hD hS hA hX (List.Perm.refl _) rfl hl.1 rfl (Nat.le_of_ble_eq_true rfl) ⟨Nat.le_of_ble_eq_true rfl, Nat.le_of_ble_eq_true rfl⟩ dL_failedCommand_1 (fun i E9 ce q9 H locs hi hk9 hP hD hS h5 h6 h7 => ?_) (fun H locs hk9 hP hD hS => ?_)
  · have hlt : i < 1 := (List.getElem?_eq_some_iff.mp hi).1
    rcases (show i = 0 by omega) with rfl
    · cases hi
      refine vx_catch (name := "java/util/NoSuchElementException") hown [] ⟨0, 4, 5, 31⟩ [] htab (fun z hz => by cases hz) rfl (by decide) (hts (.classLink RL 31 "java/util/NoSuchElementException") (List.mem_append_right _ (by decide +kernel))) (va_Nw.use rfl (hX.2.2.2.1 "java/util/NoSuchElementException" (by decide +kernel))) h5 h6 h7 ?_
      refine lv_astore_n (lv' := [(1, .ref q9), (0, .ref (ad 0))]) hx hb dL_failedCommand_5 rfl hl (by decide) rfl (fun ls hl => ?_)
      refine lv_sipush (v := (-1001)) hx hb dL_failedCommand_6 (by decide) ?_
      exact vx_ret (W.iret (v := (-1001)) hx hb hr (fun t ht hW => ⟨⟨(-1001), _, rfl, wrp_1 hk9, by rw [ht]; exact hP, va_K.moved hW.alike hK, hD⟩, hS.F ht⟩) hS.2.2 dL_failedCommand_9)
  · exact vx_ret (W.iret hx hb hr (fun t ht hW => ⟨⟨_, _, rfl, wrp_0 hk9, by rw [ht]; exact hP, va_K.moved hW.alike hK, hD⟩, hS.F ht⟩) hS.2.2 dL_failedCommand_4)
def wmL_failedException : List Cond := wsL_failedException ++ lx
set_option maxHeartbeats 4000000 in
set_option maxRecDepth 100000 in
theorem kL_failedException (l : Launch) (hfl : l.stackTraces = false) (D : va_G) (ca : Nat → ClassId) (en ks vs : Nat → Nat) (ai : Nat → Nat → Nat) (ad bd : Nat → Nat) (sz : Nat) (u : OS) (hoi : OI u) : LMet l yL_failedException wmL_failedException ({ frames := 7, cells := 2, slots := 12, locals := 102 }) D ca en ks vs ai ad bd sz u [.ref (ad 0)] (wrp (fX5_failedException u)) := by
  unfold LMet
  refine vx_only (vx_ofWH (cc := cL_failedException) (maxL := 2) (ret := (some .int)) (hh := [(0, 4, 5, 31)]) (by decide) rfl ?_)
  intro p e s m args below meth c s₁ B hml hv
  obtain ⟨rfl, hsz, hP, hK, hD0, hX⟩ := hv
  have hx := B.exec
  have hb := B.bytes
  have hr := B.returns
  have hts := atoms_spec (ws := wmL_failedException) B.pre
  have hown : s.vm.findClass RL = some m.cls := findClass_of_methodNamed B.named
  have htab : c.exceptionTable.toList = tableOf [(0, 4, 5, 31)] := vx_table (x := yL_failedException) B (hts (.codeWith yL_failedException cL_failedException 2 (some .int) [(0, 4, 5, 31)]) List.mem_cons_self)
  subst hsz
  have hD := hD0.self (sz := s.heap.size)
  generalize hAe : va_A (OW ca en ai ad bd u) s.heap.size = A at hD hX ⊢
  have hA : ∀ q : Nat, s.heap.size ≤ q → A q := fun q h => by rw [← hAe]; exact Or.inr h
  have hS : va_S A s.heap s.heap [] := va_S.rf
  refine W_entry (Nat.le_of_ble_eq_true rfl) (fun ls hl => ?_)
  have hl : lv_has ls 2 [(0, .ref (ad 0))] := hl
  refine lv_aload_n hx hb dL_failedException_0 rfl (lv_at hl 0 rfl) ?_
  refine hcTo (wr := []) (As := []) (rest := []) ⟨hx, hb, hml, hown, hts⟩ (kX5_failedException l hfl D ca en ks vs ai ad bd _ u  hoi ) (cwV 0 hts (good_more gL_failedException_X5_failedException) rfl rfl rfl (by decide +kernel) ⟨Nat.le_of_ble_eq_true rfl, Nat.le_of_ble_eq_true rfl⟩) hK hP hD hS hA hX (List.Perm.refl _) rfl hl.1 rfl (Nat.le_of_ble_eq_true rfl) ⟨Nat.le_of_ble_eq_true rfl, Nat.le_of_ble_eq_true rfl⟩ dL_failedException_1 (fun i E9 ce q9 H locs hi hk9 hP hD hS h5 h6 h7 => ?_) (fun H locs hk9 hP hD hS => ?_)
  · have hlt : i < 1 := (List.getElem?_eq_some_iff.mp hi).1
    rcases (show i = 0 by omega) with rfl
    · cases hi
      refine vx_catch (name := "java/util/NoSuchElementException") hown [] ⟨0, 4, 5, 31⟩ [] htab (fun z hz => by cases hz) rfl (by decide) (hts (.classLink RL 31 "java/util/NoSuchElementException") (List.mem_append_right _ (by decide +kernel))) (va_Nw.use rfl (hX.2.2.2.1 "java/util/NoSuchElementException" (by decide +kernel))) h5 h6 h7 ?_
      refine lv_astore_n (lv' := [(1, .ref q9), (0, .ref (ad 0))]) hx hb dL_failedException_5 rfl hl (by decide) rfl (fun ls hl => ?_)
      refine lv_sipush (v := (-1001)) hx hb dL_failedException_6 (by decide) ?_
      exact vx_ret (W.iret (v := (-1001)) hx hb hr (fun t ht hW => ⟨⟨(-1001), _, rfl, wrp_1 hk9, by rw [ht]; exact hP, va_K.moved hW.alike hK, hD⟩, hS.F ht⟩) hS.2.2 dL_failedException_9)
  · exact vx_ret (W.iret hx hb hr (fun t ht hW => ⟨⟨_, _, rfl, wrp_0 hk9, by rw [ht]; exact hP, va_K.moved hW.alike hK, hD⟩, hS.F ht⟩) hS.2.2 dL_failedException_4)
def wmL_feathers : List Cond := wsL_feathers ++ lx
set_option maxHeartbeats 4000000 in
set_option maxRecDepth 100000 in
theorem kL_feathers (l : Launch) (hfl : l.stackTraces = false) (D : va_G) (ca : Nat → ClassId) (en ks vs : Nat → Nat) (ai : Nat → Nat → Nat) (ad bd : Nat → Nat) (sz : Nat) (u : OS) (x1 : Int32) (hoi : OI u) : LMet l yL_feathers wmL_feathers ({ frames := 8, cells := 2, slots := 12, locals := 124 }) D ca en ks vs ai ad bd sz u [.ref (ad 0), .int x1] (wrp (fX5_feathers u x1)) := by
  unfold LMet
  refine vx_only (vx_ofWH (cc := cL_feathers) (maxL := 3) (ret := (some .int)) (hh := [(0, 5, 6, 21)]) (by decide) rfl ?_)
  intro p e s m args below meth c s₁ B hml hv
  obtain ⟨rfl, hsz, hP, hK, hD0, hX⟩ := hv
  have hx := B.exec
  have hb := B.bytes
  have hr := B.returns
  have hts := atoms_spec (ws := wmL_feathers) B.pre
  have hown : s.vm.findClass RL = some m.cls := findClass_of_methodNamed B.named
  have htab : c.exceptionTable.toList = tableOf [(0, 5, 6, 21)] := vx_table (x := yL_feathers) B (hts (.codeWith yL_feathers cL_feathers 3 (some .int) [(0, 5, 6, 21)]) List.mem_cons_self)
  subst hsz
  have hD := hD0.self (sz := s.heap.size)
  generalize hAe : va_A (OW ca en ai ad bd u) s.heap.size = A at hD hX ⊢
  have hA : ∀ q : Nat, s.heap.size ≤ q → A q := fun q h => by rw [← hAe]; exact Or.inr h
  have hS : va_S A s.heap s.heap [] := va_S.rf
  refine W_entry (Nat.le_of_ble_eq_true rfl) (fun ls hl => ?_)
  have hl : lv_has ls 3 [(0, .ref (ad 0)), (1, .int x1)] := hl
  refine lv_aload_n hx hb dL_feathers_0 rfl (lv_at hl 0 rfl) ?_
  refine lv_iload_n hx hb dL_feathers_1 rfl (lv_at hl 1 rfl) ?_
  refine hcTo (wr := []) (As := [.int x1]) (rest := []) ⟨hx, hb, hml, hown, hts⟩ (kX5_feathers l hfl D ca en ks vs ai ad bd _ u x1 hoi ) (cwV 1 hts (good_more gL_feathers_X5_feathers) rfl rfl rfl (by decide +kernel) ⟨Nat.le_of_ble_eq_true rfl, Nat.le_of_ble_eq_true rfl⟩) hK hP hD hS hA hX (List.Perm.refl _) rfl hl.1 rfl (Nat.le_of_ble_eq_true rfl) ⟨Nat.le_of_ble_eq_true rfl, Nat.le_of_ble_eq_true rfl⟩ dL_feathers_2 (fun i E9 ce q9 H locs hi hk9 hP hD hS h5 h6 h7 => ?_) (fun H locs hk9 hP hD hS => ?_)
  · have hlt : i < 1 := (List.getElem?_eq_some_iff.mp hi).1
    rcases (show i = 0 by omega) with rfl
    · cases hi
      refine vx_catch (name := "java/lang/IndexOutOfBoundsException") hown [] ⟨0, 5, 6, 21⟩ [] htab (fun z hz => by cases hz) rfl (by decide) (hts (.classLink RL 21 "java/lang/IndexOutOfBoundsException") (List.mem_append_right _ (by decide +kernel))) (va_Nw.use rfl (hX.2.2.2.1 "java/lang/IndexOutOfBoundsException" (by decide +kernel))) h5 h6 h7 ?_
      refine lv_astore_n (lv' := [(2, .ref q9), (0, .ref (ad 0)), (1, .int x1)]) hx hb dL_feathers_6 rfl hl (by decide) rfl (fun ls hl => ?_)
      refine lv_sipush (v := (-1001)) hx hb dL_feathers_7 (by decide) ?_
      exact vx_ret (W.iret (v := (-1001)) hx hb hr (fun t ht hW => ⟨⟨(-1001), _, rfl, wrp_1 hk9, by rw [ht]; exact hP, va_K.moved hW.alike hK, hD⟩, hS.F ht⟩) hS.2.2 dL_feathers_10)
  · exact vx_ret (W.iret hx hb hr (fun t ht hW => ⟨⟨_, _, rfl, wrp_0 hk9, by rw [ht]; exact hP, va_K.moved hW.alike hK, hD⟩, hS.F ht⟩) hS.2.2 dL_feathers_5)
def wmL_giveFeather : List Cond := wsL_giveFeather ++ lx
set_option maxHeartbeats 4000000 in
set_option maxRecDepth 100000 in
theorem kL_giveFeather (l : Launch) (hfl : l.stackTraces = false) (D : va_G) (ca : Nat → ClassId) (en ks vs : Nat → Nat) (ai : Nat → Nat → Nat) (ad bd : Nat → Nat) (sz : Nat) (u : OS) (x1 : Int32) (hoi : OI u) : LMet l yL_giveFeather wmL_giveFeather ({ frames := 7, cells := 2, slots := 12, locals := 104 }) D ca en ks vs ai ad bd sz u [.ref (ad 0), .int x1] (wrp (fX5_giveFeather u x1)) := by
  unfold LMet
  refine vx_only (vx_ofWH (cc := cL_giveFeather) (maxL := 3) (ret := (some .int)) (hh := [(0, 5, 6, 21), (0, 5, 11, 15)]) (by decide) rfl ?_)
  intro p e s m args below meth c s₁ B hml hv
  obtain ⟨rfl, hsz, hP, hK, hD0, hX⟩ := hv
  have hx := B.exec
  have hb := B.bytes
  have hr := B.returns
  have hts := atoms_spec (ws := wmL_giveFeather) B.pre
  have hown : s.vm.findClass RL = some m.cls := findClass_of_methodNamed B.named
  have htab : c.exceptionTable.toList = tableOf [(0, 5, 6, 21), (0, 5, 11, 15)] := vx_table (x := yL_giveFeather) B (hts (.codeWith yL_giveFeather cL_giveFeather 3 (some .int) [(0, 5, 6, 21), (0, 5, 11, 15)]) List.mem_cons_self)
  subst hsz
  have hD := hD0.self (sz := s.heap.size)
  generalize hAe : va_A (OW ca en ai ad bd u) s.heap.size = A at hD hX ⊢
  have hA : ∀ q : Nat, s.heap.size ≤ q → A q := fun q h => by rw [← hAe]; exact Or.inr h
  have hS : va_S A s.heap s.heap [] := va_S.rf
  refine W_entry (Nat.le_of_ble_eq_true rfl) (fun ls hl => ?_)
  have hl : lv_has ls 3 [(0, .ref (ad 0)), (1, .int x1)] := hl
  refine lv_aload_n hx hb dL_giveFeather_0 rfl (lv_at hl 0 rfl) ?_
  refine lv_iload_n hx hb dL_giveFeather_1 rfl (lv_at hl 1 rfl) ?_
  refine hcTo (wr := []) (As := [.int x1]) (rest := []) ⟨hx, hb, hml, hown, hts⟩ (kX5_giveFeather l hfl D ca en ks vs ai ad bd _ u x1 hoi ) (cwV 1 hts (good_more gL_giveFeather_X5_giveFeather) rfl rfl rfl (by decide +kernel) ⟨Nat.le_of_ble_eq_true rfl, Nat.le_of_ble_eq_true rfl⟩) hK hP hD hS hA hX (List.Perm.refl _) rfl hl.1 rfl (Nat.le_of_ble_eq_true rfl) ⟨Nat.le_of_ble_eq_true rfl, Nat.le_of_ble_eq_true rfl⟩ dL_giveFeather_2 (fun i E9 ce q9 H locs hi hk9 hP hD hS h5 h6 h7 => ?_) (fun H locs hk9 hP hD hS => ?_)
  · have hlt : i < 2 := (List.getElem?_eq_some_iff.mp hi).1
    rcases (show i = 0 ∨ i = 1 by omega) with rfl | rfl
    · cases hi
      refine vx_catch (name := "java/lang/IndexOutOfBoundsException") hown [] ⟨0, 5, 6, 21⟩ [⟨0, 5, 11, 15⟩] htab (fun z hz => by cases hz) rfl (by decide) (hts (.classLink RL 21 "java/lang/IndexOutOfBoundsException") (List.mem_append_right _ (by decide +kernel))) (va_Nw.use rfl (hX.2.2.2.1 "java/lang/IndexOutOfBoundsException" (by decide +kernel))) h5 h6 h7 ?_
      refine lv_astore_n (lv' := [(2, .ref q9), (0, .ref (ad 0)), (1, .int x1)]) hx hb dL_giveFeather_6 rfl hl (by decide) rfl (fun ls hl => ?_)
      refine lv_sipush (v := (-1001)) hx hb dL_giveFeather_7 (by decide) ?_
      exact vx_ret (W.iret (v := (-1001)) hx hb hr (fun t ht hW => ⟨⟨(-1001), _, rfl, wrp_1 hk9, by rw [ht]; exact hP, va_K.moved hW.alike hK, hD⟩, hS.F ht⟩) hS.2.2 dL_giveFeather_10)
    · cases hi
      refine vx_catch (name := "java/lang/IllegalStateException") hown [⟨0, 5, 6, 21⟩] ⟨0, 5, 11, 15⟩ [] htab (fun z hz => Or.inr (by rcases (show z = (⟨0, 5, 6, 21⟩ : ExceptionTableEntry) from by simpa using hz) with rfl <;> first | exact ⟨by decide, "java/lang/IndexOutOfBoundsException", (hts (.classLink RL 21 "java/lang/IndexOutOfBoundsException") (List.mem_append_right _ (by decide +kernel))), hX.2.2.2.2.1 "java/lang/IllegalStateException" (by decide +kernel) "java/lang/IndexOutOfBoundsException" (by decide +kernel) (by decide)⟩)) rfl (by decide) (hts (.classLink RL 15 "java/lang/IllegalStateException") (List.mem_append_right _ (by decide +kernel))) (va_Nw.use rfl (hX.2.2.2.1 "java/lang/IllegalStateException" (by decide +kernel))) h5 h6 h7 ?_
      refine lv_astore_n (lv' := [(2, .ref q9), (0, .ref (ad 0)), (1, .int x1)]) hx hb dL_giveFeather_11 rfl hl (by decide) rfl (fun ls hl => ?_)
      refine lv_sipush (v := (-1002)) hx hb dL_giveFeather_12 (by decide) ?_
      exact vx_ret (W.iret (v := (-1002)) hx hb hr (fun t ht hW => ⟨⟨(-1002), _, rfl, wrp_2 hk9, by rw [ht]; exact hP, va_K.moved hW.alike hK, hD⟩, hS.F ht⟩) hS.2.2 dL_giveFeather_15)
  · exact vx_ret (W.iret hx hb hr (fun t ht hW => ⟨⟨_, _, rfl, wrp_0 hk9, by rw [ht]; exact hP, va_K.moved hW.alike hK, hD⟩, hS.F ht⟩) hS.2.2 dL_giveFeather_5)
def wmL_hasCoat : List Cond := wsL_hasCoat ++ lx
set_option maxHeartbeats 4000000 in
set_option maxRecDepth 100000 in
theorem kL_hasCoat (l : Launch) (hfl : l.stackTraces = false) (D : va_G) (ca : Nat → ClassId) (en ks vs : Nat → Nat) (ai : Nat → Nat → Nat) (ad bd : Nat → Nat) (sz : Nat) (u : OS) (x1 : Int32) (hoi : OI u) : LMet l yL_hasCoat wmL_hasCoat ({ frames := 8, cells := 2, slots := 12, locals := 124 }) D ca en ks vs ai ad bd sz u [.ref (ad 0), .int x1] (wrb (fX5_hasCoatLeft u x1)) := by
  unfold LMet
  refine vx_only (vx_ofWH (cc := cL_hasCoat) (maxL := 3) (ret := (some .int)) (hh := [(0, 13, 14, 21)]) (by decide) rfl ?_)
  intro p e s m args below meth c s₁ B hml hv
  obtain ⟨rfl, hsz, hP, hK, hD0, hX⟩ := hv
  have hx := B.exec
  have hb := B.bytes
  have hr := B.returns
  have hts := atoms_spec (ws := wmL_hasCoat) B.pre
  have hown : s.vm.findClass RL = some m.cls := findClass_of_methodNamed B.named
  have htab : c.exceptionTable.toList = tableOf [(0, 13, 14, 21)] := vx_table (x := yL_hasCoat) B (hts (.codeWith yL_hasCoat cL_hasCoat 3 (some .int) [(0, 13, 14, 21)]) List.mem_cons_self)
  subst hsz
  have hD := hD0.self (sz := s.heap.size)
  generalize hAe : va_A (OW ca en ai ad bd u) s.heap.size = A at hD hX ⊢
  have hA : ∀ q : Nat, s.heap.size ≤ q → A q := fun q h => by rw [← hAe]; exact Or.inr h
  have hS : va_S A s.heap s.heap [] := va_S.rf
  refine W_entry (Nat.le_of_ble_eq_true rfl) (fun ls hl => ?_)
  have hl : lv_has ls 3 [(0, .ref (ad 0)), (1, .int x1)] := hl
  refine lv_aload_n hx hb dL_hasCoat_0 rfl (lv_at hl 0 rfl) ?_
  refine lv_iload_n hx hb dL_hasCoat_1 rfl (lv_at hl 1 rfl) ?_
  refine hcTo (wr := []) (As := [.int x1]) (rest := []) ⟨hx, hb, hml, hown, hts⟩ (kX5_hasCoatLeft l hfl D ca en ks vs ai ad bd _ u x1 hoi ) (cwV 1 hts (good_more gL_hasCoat_X5_hasCoatLeft) rfl rfl rfl (by decide +kernel) ⟨Nat.le_of_ble_eq_true rfl, Nat.le_of_ble_eq_true rfl⟩) hK hP hD hS hA hX (List.Perm.refl _) rfl hl.1 rfl (Nat.le_of_ble_eq_true rfl) ⟨Nat.le_of_ble_eq_true rfl, Nat.le_of_ble_eq_true rfl⟩ dL_hasCoat_2 (fun i E9 ce q9 H locs hi hk9 hP hD hS h5 h6 h7 => ?_) (fun H locs hk9 hP hD hS => ?_)
  · have hlt : i < 1 := (List.getElem?_eq_some_iff.mp hi).1
    rcases (show i = 0 by omega) with rfl
    · cases hi
      refine vx_catch (name := "java/lang/IndexOutOfBoundsException") hown [] ⟨0, 13, 14, 21⟩ [] htab (fun z hz => by cases hz) rfl (by decide) (hts (.classLink RL 21 "java/lang/IndexOutOfBoundsException") (List.mem_append_right _ (by decide +kernel))) (va_Nw.use rfl (hX.2.2.2.1 "java/lang/IndexOutOfBoundsException" (by decide +kernel))) h5 h6 h7 ?_
      refine lv_astore_n (lv' := [(2, .ref q9), (0, .ref (ad 0)), (1, .int x1)]) hx hb dL_hasCoat_14 rfl hl (by decide) rfl (fun ls hl => ?_)
      refine lv_sipush (v := (-1001)) hx hb dL_hasCoat_15 (by decide) ?_
      exact vx_ret (W.iret (v := (-1001)) hx hb hr (fun t ht hW => ⟨⟨(-1001), _, rfl, wrb_1 hk9, by rw [ht]; exact hP, va_K.moved hW.alike hK, hD⟩, hS.F ht⟩) hS.2.2 dL_hasCoat_18)
  · refine lv_if_eq (tgt := 12) hx hb dL_hasCoat_5 (by decide) (fun c0 => ?_) (fun c0 => ?_)
    · refine lv_iconst (v := 0) hx hb dL_hasCoat_12 (by decide) ?_
      exact vx_ret (W.iret (v := 0) hx hb hr (fun t ht hW => ⟨⟨0, _, rfl, wrb_0 hk9 c0, by rw [ht]; exact hP, va_K.moved hW.alike hK, hD⟩, hS.F ht⟩) hS.2.2 dL_hasCoat_13)
    · refine lv_iconst (v := 1) hx hb dL_hasCoat_8 (by decide) ?_
      refine lv_goto (tgt := 13) hx hb dL_hasCoat_9 (by decide) ?_
      exact vx_ret (W.iret (v := 1) hx hb hr (fun t ht hW => ⟨⟨1, _, rfl, wrb_9 hk9 c0, by rw [ht]; exact hP, va_K.moved hW.alike hK, hD⟩, hS.F ht⟩) hS.2.2 dL_hasCoat_13)
def wmL_hatChair : List Cond := wsL_hatChair ++ lx
set_option maxHeartbeats 4000000 in
set_option maxRecDepth 100000 in
theorem kL_hatChair (l : Launch) (hfl : l.stackTraces = false) (D : va_G) (ca : Nat → ClassId) (en ks vs : Nat → Nat) (ai : Nat → Nat → Nat) (ad bd : Nat → Nat) (sz : Nat) (u : OS) (x1 : Int32) (hoi : OI u) : LMet l yL_hatChair wmL_hatChair ({ frames := 8, cells := 2, slots := 12, locals := 125 }) D ca en ks vs ai ad bd sz u [.ref (ad 0), .int x1] (wrp (fX5_hatChair u x1)) := by
  unfold LMet
  refine vx_only (vx_ofWH (cc := cL_hatChair) (maxL := 3) (ret := (some .int)) (hh := [(0, 5, 6, 21), (0, 5, 11, 31)]) (by decide) rfl ?_)
  intro p e s m args below meth c s₁ B hml hv
  obtain ⟨rfl, hsz, hP, hK, hD0, hX⟩ := hv
  have hx := B.exec
  have hb := B.bytes
  have hr := B.returns
  have hts := atoms_spec (ws := wmL_hatChair) B.pre
  have hown : s.vm.findClass RL = some m.cls := findClass_of_methodNamed B.named
  have htab : c.exceptionTable.toList = tableOf [(0, 5, 6, 21), (0, 5, 11, 31)] := vx_table (x := yL_hatChair) B (hts (.codeWith yL_hatChair cL_hatChair 3 (some .int) [(0, 5, 6, 21), (0, 5, 11, 31)]) List.mem_cons_self)
  subst hsz
  have hD := hD0.self (sz := s.heap.size)
  generalize hAe : va_A (OW ca en ai ad bd u) s.heap.size = A at hD hX ⊢
  have hA : ∀ q : Nat, s.heap.size ≤ q → A q := fun q h => by rw [← hAe]; exact Or.inr h
  have hS : va_S A s.heap s.heap [] := va_S.rf
  refine W_entry (Nat.le_of_ble_eq_true rfl) (fun ls hl => ?_)
  have hl : lv_has ls 3 [(0, .ref (ad 0)), (1, .int x1)] := hl
  refine lv_aload_n hx hb dL_hatChair_0 rfl (lv_at hl 0 rfl) ?_
  refine lv_iload_n hx hb dL_hatChair_1 rfl (lv_at hl 1 rfl) ?_
  refine hcTo (wr := []) (As := [.int x1]) (rest := []) ⟨hx, hb, hml, hown, hts⟩ (kX5_hatChair l hfl D ca en ks vs ai ad bd _ u x1 hoi ) (cwV 1 hts (good_more gL_hatChair_X5_hatChair) rfl rfl rfl (by decide +kernel) ⟨Nat.le_of_ble_eq_true rfl, Nat.le_of_ble_eq_true rfl⟩) hK hP hD hS hA hX (List.Perm.refl _) rfl hl.1 rfl (Nat.le_of_ble_eq_true rfl) ⟨Nat.le_of_ble_eq_true rfl, Nat.le_of_ble_eq_true rfl⟩ dL_hatChair_2 (fun i E9 ce q9 H locs hi hk9 hP hD hS h5 h6 h7 => ?_) (fun H locs hk9 hP hD hS => ?_)
  · have hlt : i < 2 := (List.getElem?_eq_some_iff.mp hi).1
    rcases (show i = 0 ∨ i = 1 by omega) with rfl | rfl
    · cases hi
      refine vx_catch (name := "java/lang/IndexOutOfBoundsException") hown [] ⟨0, 5, 6, 21⟩ [⟨0, 5, 11, 31⟩] htab (fun z hz => by cases hz) rfl (by decide) (hts (.classLink RL 21 "java/lang/IndexOutOfBoundsException") (List.mem_append_right _ (by decide +kernel))) (va_Nw.use rfl (hX.2.2.2.1 "java/lang/IndexOutOfBoundsException" (by decide +kernel))) h5 h6 h7 ?_
      refine lv_astore_n (lv' := [(2, .ref q9), (0, .ref (ad 0)), (1, .int x1)]) hx hb dL_hatChair_6 rfl hl (by decide) rfl (fun ls hl => ?_)
      refine lv_sipush (v := (-1001)) hx hb dL_hatChair_7 (by decide) ?_
      exact vx_ret (W.iret (v := (-1001)) hx hb hr (fun t ht hW => ⟨⟨(-1001), _, rfl, wrp_1 hk9, by rw [ht]; exact hP, va_K.moved hW.alike hK, hD⟩, hS.F ht⟩) hS.2.2 dL_hatChair_10)
    · cases hi
      refine vx_catch (name := "java/util/NoSuchElementException") hown [⟨0, 5, 6, 21⟩] ⟨0, 5, 11, 31⟩ [] htab (fun z hz => Or.inr (by rcases (show z = (⟨0, 5, 6, 21⟩ : ExceptionTableEntry) from by simpa using hz) with rfl <;> first | exact ⟨by decide, "java/lang/IndexOutOfBoundsException", (hts (.classLink RL 21 "java/lang/IndexOutOfBoundsException") (List.mem_append_right _ (by decide +kernel))), hX.2.2.2.2.1 "java/util/NoSuchElementException" (by decide +kernel) "java/lang/IndexOutOfBoundsException" (by decide +kernel) (by decide)⟩)) rfl (by decide) (hts (.classLink RL 31 "java/util/NoSuchElementException") (List.mem_append_right _ (by decide +kernel))) (va_Nw.use rfl (hX.2.2.2.1 "java/util/NoSuchElementException" (by decide +kernel))) h5 h6 h7 ?_
      refine lv_astore_n (lv' := [(2, .ref q9), (0, .ref (ad 0)), (1, .int x1)]) hx hb dL_hatChair_11 rfl hl (by decide) rfl (fun ls hl => ?_)
      refine lv_sipush (v := (-1002)) hx hb dL_hatChair_12 (by decide) ?_
      exact vx_ret (W.iret (v := (-1002)) hx hb hr (fun t ht hW => ⟨⟨(-1002), _, rfl, wrp_2 hk9, by rw [ht]; exact hP, va_K.moved hW.alike hK, hD⟩, hS.F ht⟩) hS.2.2 dL_hatChair_15)
  · exact vx_ret (W.iret hx hb hr (fun t ht hW => ⟨⟨_, _, rfl, wrp_0 hk9, by rw [ht]; exact hP, va_K.moved hW.alike hK, hD⟩, hS.F ht⟩) hS.2.2 dL_hatChair_5)
def wmL_idle : List Cond := wsL_idle ++ lx
set_option maxHeartbeats 4000000 in
set_option maxRecDepth 100000 in
theorem kL_idle (l : Launch) (hfl : l.stackTraces = false) (D : va_G) (ca : Nat → ClassId) (en ks vs : Nat → Nat) (ai : Nat → Nat → Nat) (ad bd : Nat → Nat) (sz : Nat) (u : OS) (x1 : Int32) (hoi : OI u) : LMet l yL_idle wmL_idle ({ frames := 8, cells := 2, slots := 12, locals := 125 }) D ca en ks vs ai ad bd sz u [.ref (ad 0), .int x1] (wrp (fX5_idleMinutes u x1)) := by
  unfold LMet
  refine vx_only (vx_ofWH (cc := cL_idle) (maxL := 3) (ret := (some .int)) (hh := [(0, 5, 6, 21), (0, 5, 11, 31)]) (by decide) rfl ?_)
  intro p e s m args below meth c s₁ B hml hv
  obtain ⟨rfl, hsz, hP, hK, hD0, hX⟩ := hv
  have hx := B.exec
  have hb := B.bytes
  have hr := B.returns
  have hts := atoms_spec (ws := wmL_idle) B.pre
  have hown : s.vm.findClass RL = some m.cls := findClass_of_methodNamed B.named
  have htab : c.exceptionTable.toList = tableOf [(0, 5, 6, 21), (0, 5, 11, 31)] := vx_table (x := yL_idle) B (hts (.codeWith yL_idle cL_idle 3 (some .int) [(0, 5, 6, 21), (0, 5, 11, 31)]) List.mem_cons_self)
  subst hsz
  have hD := hD0.self (sz := s.heap.size)
  generalize hAe : va_A (OW ca en ai ad bd u) s.heap.size = A at hD hX ⊢
  have hA : ∀ q : Nat, s.heap.size ≤ q → A q := fun q h => by rw [← hAe]; exact Or.inr h
  have hS : va_S A s.heap s.heap [] := va_S.rf
  refine W_entry (Nat.le_of_ble_eq_true rfl) (fun ls hl => ?_)
  have hl : lv_has ls 3 [(0, .ref (ad 0)), (1, .int x1)] := hl
  refine lv_aload_n hx hb dL_idle_0 rfl (lv_at hl 0 rfl) ?_
  refine lv_iload_n hx hb dL_idle_1 rfl (lv_at hl 1 rfl) ?_
  refine hcTo (wr := []) (As := [.int x1]) (rest := []) ⟨hx, hb, hml, hown, hts⟩ (kX5_idleMinutes l hfl D ca en ks vs ai ad bd _ u x1 hoi ) (cwV 1 hts (good_more gL_idle_X5_idleMinutes) rfl rfl rfl (by decide +kernel) ⟨Nat.le_of_ble_eq_true rfl, Nat.le_of_ble_eq_true rfl⟩) hK hP hD hS hA hX (List.Perm.refl _) rfl hl.1 rfl (Nat.le_of_ble_eq_true rfl) ⟨Nat.le_of_ble_eq_true rfl, Nat.le_of_ble_eq_true rfl⟩ dL_idle_2 (fun i E9 ce q9 H locs hi hk9 hP hD hS h5 h6 h7 => ?_) (fun H locs hk9 hP hD hS => ?_)
  · have hlt : i < 2 := (List.getElem?_eq_some_iff.mp hi).1
    rcases (show i = 0 ∨ i = 1 by omega) with rfl | rfl
    · cases hi
      refine vx_catch (name := "java/lang/IndexOutOfBoundsException") hown [] ⟨0, 5, 6, 21⟩ [⟨0, 5, 11, 31⟩] htab (fun z hz => by cases hz) rfl (by decide) (hts (.classLink RL 21 "java/lang/IndexOutOfBoundsException") (List.mem_append_right _ (by decide +kernel))) (va_Nw.use rfl (hX.2.2.2.1 "java/lang/IndexOutOfBoundsException" (by decide +kernel))) h5 h6 h7 ?_
      refine lv_astore_n (lv' := [(2, .ref q9), (0, .ref (ad 0)), (1, .int x1)]) hx hb dL_idle_6 rfl hl (by decide) rfl (fun ls hl => ?_)
      refine lv_sipush (v := (-1001)) hx hb dL_idle_7 (by decide) ?_
      exact vx_ret (W.iret (v := (-1001)) hx hb hr (fun t ht hW => ⟨⟨(-1001), _, rfl, wrp_1 hk9, by rw [ht]; exact hP, va_K.moved hW.alike hK, hD⟩, hS.F ht⟩) hS.2.2 dL_idle_10)
    · cases hi
      refine vx_catch (name := "java/util/NoSuchElementException") hown [⟨0, 5, 6, 21⟩] ⟨0, 5, 11, 31⟩ [] htab (fun z hz => Or.inr (by rcases (show z = (⟨0, 5, 6, 21⟩ : ExceptionTableEntry) from by simpa using hz) with rfl <;> first | exact ⟨by decide, "java/lang/IndexOutOfBoundsException", (hts (.classLink RL 21 "java/lang/IndexOutOfBoundsException") (List.mem_append_right _ (by decide +kernel))), hX.2.2.2.2.1 "java/util/NoSuchElementException" (by decide +kernel) "java/lang/IndexOutOfBoundsException" (by decide +kernel) (by decide)⟩)) rfl (by decide) (hts (.classLink RL 31 "java/util/NoSuchElementException") (List.mem_append_right _ (by decide +kernel))) (va_Nw.use rfl (hX.2.2.2.1 "java/util/NoSuchElementException" (by decide +kernel))) h5 h6 h7 ?_
      refine lv_astore_n (lv' := [(2, .ref q9), (0, .ref (ad 0)), (1, .int x1)]) hx hb dL_idle_11 rfl hl (by decide) rfl (fun ls hl => ?_)
      refine lv_sipush (v := (-1002)) hx hb dL_idle_12 (by decide) ?_
      exact vx_ret (W.iret (v := (-1002)) hx hb hr (fun t ht hW => ⟨⟨(-1002), _, rfl, wrp_2 hk9, by rw [ht]; exact hP, va_K.moved hW.alike hK, hD⟩, hS.F ht⟩) hS.2.2 dL_idle_15)
  · exact vx_ret (W.iret hx hb hr (fun t ht hW => ⟨⟨_, _, rfl, wrp_0 hk9, by rw [ht]; exact hP, va_K.moved hW.alike hK, hD⟩, hS.F ht⟩) hS.2.2 dL_idle_5)
def wmL_idlest : List Cond := wsL_idlest ++ lx
set_option maxHeartbeats 4000000 in
set_option maxRecDepth 100000 in
theorem kL_idlest (l : Launch) (hfl : l.stackTraces = false) (D : va_G) (ca : Nat → ClassId) (en ks vs : Nat → Nat) (ai : Nat → Nat → Nat) (ad bd : Nat → Nat) (sz : Nat) (u : OS) (hoi : OI u) : LMet l yL_idlest wmL_idlest ({ frames := 7, cells := 2, slots := 12, locals := 103 }) D ca en ks vs ai ad bd sz u [.ref (ad 0)] (wrp (fX5_idlestGuest u)) := by
  unfold LMet
  refine vx_only (vx_ofWH (cc := cL_idlest) (maxL := 2) (ret := (some .int)) (hh := [(0, 4, 5, 31)]) (by decide) rfl ?_)
  intro p e s m args below meth c s₁ B hml hv
  obtain ⟨rfl, hsz, hP, hK, hD0, hX⟩ := hv
  have hx := B.exec
  have hb := B.bytes
  have hr := B.returns
  have hts := atoms_spec (ws := wmL_idlest) B.pre
  have hown : s.vm.findClass RL = some m.cls := findClass_of_methodNamed B.named
  have htab : c.exceptionTable.toList = tableOf [(0, 4, 5, 31)] := vx_table (x := yL_idlest) B (hts (.codeWith yL_idlest cL_idlest 2 (some .int) [(0, 4, 5, 31)]) List.mem_cons_self)
  subst hsz
  have hD := hD0.self (sz := s.heap.size)
  generalize hAe : va_A (OW ca en ai ad bd u) s.heap.size = A at hD hX ⊢
  have hA : ∀ q : Nat, s.heap.size ≤ q → A q := fun q h => by rw [← hAe]; exact Or.inr h
  have hS : va_S A s.heap s.heap [] := va_S.rf
  refine W_entry (Nat.le_of_ble_eq_true rfl) (fun ls hl => ?_)
  have hl : lv_has ls 2 [(0, .ref (ad 0))] := hl
  refine lv_aload_n hx hb dL_idlest_0 rfl (lv_at hl 0 rfl) ?_
  refine hcTo (wr := []) (As := []) (rest := []) ⟨hx, hb, hml, hown, hts⟩ (kX5_idlestGuest l hfl D ca en ks vs ai ad bd _ u  hoi ) (cwV 0 hts (good_more gL_idlest_X5_idlestGuest) rfl rfl rfl (by decide +kernel) ⟨Nat.le_of_ble_eq_true rfl, Nat.le_of_ble_eq_true rfl⟩) hK hP hD hS hA hX (List.Perm.refl _) rfl hl.1 rfl (Nat.le_of_ble_eq_true rfl) ⟨Nat.le_of_ble_eq_true rfl, Nat.le_of_ble_eq_true rfl⟩ dL_idlest_1 (fun i E9 ce q9 H locs hi hk9 hP hD hS h5 h6 h7 => ?_) (fun H locs hk9 hP hD hS => ?_)
  · have hlt : i < 1 := (List.getElem?_eq_some_iff.mp hi).1
    rcases (show i = 0 by omega) with rfl
    · cases hi
      refine vx_catch (name := "java/util/NoSuchElementException") hown [] ⟨0, 4, 5, 31⟩ [] htab (fun z hz => by cases hz) rfl (by decide) (hts (.classLink RL 31 "java/util/NoSuchElementException") (List.mem_append_right _ (by decide +kernel))) (va_Nw.use rfl (hX.2.2.2.1 "java/util/NoSuchElementException" (by decide +kernel))) h5 h6 h7 ?_
      refine lv_astore_n (lv' := [(1, .ref q9), (0, .ref (ad 0))]) hx hb dL_idlest_5 rfl hl (by decide) rfl (fun ls hl => ?_)
      refine lv_sipush (v := (-1001)) hx hb dL_idlest_6 (by decide) ?_
      exact vx_ret (W.iret (v := (-1001)) hx hb hr (fun t ht hW => ⟨⟨(-1001), _, rfl, wrp_1 hk9, by rw [ht]; exact hP, va_K.moved hW.alike hK, hD⟩, hS.F ht⟩) hS.2.2 dL_idlest_9)
  · exact vx_ret (W.iret hx hb hr (fun t ht hW => ⟨⟨_, _, rfl, wrp_0 hk9, by rw [ht]; exact hP, va_K.moved hW.alike hK, hD⟩, hS.F ht⟩) hS.2.2 dL_idlest_4)
def wmL_isCovered : List Cond := wsL_isCovered ++ lx
set_option maxHeartbeats 4000000 in
set_option maxRecDepth 100000 in
theorem kL_isCovered (l : Launch) (hfl : l.stackTraces = false) (D : va_G) (ca : Nat → ClassId) (en ks vs : Nat → Nat) (ai : Nat → Nat → Nat) (ad bd : Nat → Nat) (sz : Nat) (u : OS) (x1 : Int32) (hoi : OI u) : LMet l yL_isCovered wmL_isCovered ({ frames := 8, cells := 2, slots := 12, locals := 123 }) D ca en ks vs ai ad bd sz u [.ref (ad 0), .int x1] (wrb (fX5_isCovered u x1)) := by
  unfold LMet
  refine vx_only (vx_ofWH (cc := cL_isCovered) (maxL := 3) (ret := (some .int)) (hh := [(0, 13, 14, 21)]) (by decide) rfl ?_)
  intro p e s m args below meth c s₁ B hml hv
  obtain ⟨rfl, hsz, hP, hK, hD0, hX⟩ := hv
  have hx := B.exec
  have hb := B.bytes
  have hr := B.returns
  have hts := atoms_spec (ws := wmL_isCovered) B.pre
  have hown : s.vm.findClass RL = some m.cls := findClass_of_methodNamed B.named
  have htab : c.exceptionTable.toList = tableOf [(0, 13, 14, 21)] := vx_table (x := yL_isCovered) B (hts (.codeWith yL_isCovered cL_isCovered 3 (some .int) [(0, 13, 14, 21)]) List.mem_cons_self)
  subst hsz
  have hD := hD0.self (sz := s.heap.size)
  generalize hAe : va_A (OW ca en ai ad bd u) s.heap.size = A at hD hX ⊢
  have hA : ∀ q : Nat, s.heap.size ≤ q → A q := fun q h => by rw [← hAe]; exact Or.inr h
  have hS : va_S A s.heap s.heap [] := va_S.rf
  refine W_entry (Nat.le_of_ble_eq_true rfl) (fun ls hl => ?_)
  have hl : lv_has ls 3 [(0, .ref (ad 0)), (1, .int x1)] := hl
  refine lv_aload_n hx hb dL_isCovered_0 rfl (lv_at hl 0 rfl) ?_
  refine lv_iload_n hx hb dL_isCovered_1 rfl (lv_at hl 1 rfl) ?_
  refine hcTo (wr := []) (As := [.int x1]) (rest := []) ⟨hx, hb, hml, hown, hts⟩ (kX5_isCovered l hfl D ca en ks vs ai ad bd _ u x1 hoi ) (cwV 1 hts (good_more gL_isCovered_X5_isCovered) rfl rfl rfl (by decide +kernel) ⟨Nat.le_of_ble_eq_true rfl, Nat.le_of_ble_eq_true rfl⟩) hK hP hD hS hA hX (List.Perm.refl _) rfl hl.1 rfl (Nat.le_of_ble_eq_true rfl) ⟨Nat.le_of_ble_eq_true rfl, Nat.le_of_ble_eq_true rfl⟩ dL_isCovered_2 (fun i E9 ce q9 H locs hi hk9 hP hD hS h5 h6 h7 => ?_) (fun H locs hk9 hP hD hS => ?_)
  · have hlt : i < 1 := (List.getElem?_eq_some_iff.mp hi).1
    rcases (show i = 0 by omega) with rfl
    · cases hi
      refine vx_catch (name := "java/lang/IndexOutOfBoundsException") hown [] ⟨0, 13, 14, 21⟩ [] htab (fun z hz => by cases hz) rfl (by decide) (hts (.classLink RL 21 "java/lang/IndexOutOfBoundsException") (List.mem_append_right _ (by decide +kernel))) (va_Nw.use rfl (hX.2.2.2.1 "java/lang/IndexOutOfBoundsException" (by decide +kernel))) h5 h6 h7 ?_
      refine lv_astore_n (lv' := [(2, .ref q9), (0, .ref (ad 0)), (1, .int x1)]) hx hb dL_isCovered_14 rfl hl (by decide) rfl (fun ls hl => ?_)
      refine lv_sipush (v := (-1001)) hx hb dL_isCovered_15 (by decide) ?_
      exact vx_ret (W.iret (v := (-1001)) hx hb hr (fun t ht hW => ⟨⟨(-1001), _, rfl, wrb_1 hk9, by rw [ht]; exact hP, va_K.moved hW.alike hK, hD⟩, hS.F ht⟩) hS.2.2 dL_isCovered_18)
  · refine lv_if_eq (tgt := 12) hx hb dL_isCovered_5 (by decide) (fun c0 => ?_) (fun c0 => ?_)
    · refine lv_iconst (v := 0) hx hb dL_isCovered_12 (by decide) ?_
      exact vx_ret (W.iret (v := 0) hx hb hr (fun t ht hW => ⟨⟨0, _, rfl, wrb_0 hk9 c0, by rw [ht]; exact hP, va_K.moved hW.alike hK, hD⟩, hS.F ht⟩) hS.2.2 dL_isCovered_13)
    · refine lv_iconst (v := 1) hx hb dL_isCovered_8 (by decide) ?_
      refine lv_goto (tgt := 13) hx hb dL_isCovered_9 (by decide) ?_
      exact vx_ret (W.iret (v := 1) hx hb hr (fun t ht hW => ⟨⟨1, _, rfl, wrb_9 hk9 c0, by rw [ht]; exact hP, va_K.moved hW.alike hK, hD⟩, hS.F ht⟩) hS.2.2 dL_isCovered_13)
def wmL_isPlaced : List Cond := wsL_isPlaced ++ lx
set_option maxHeartbeats 4000000 in
set_option maxRecDepth 100000 in
theorem kL_isPlaced (l : Launch) (hfl : l.stackTraces = false) (D : va_G) (ca : Nat → ClassId) (en ks vs : Nat → Nat) (ai : Nat → Nat → Nat) (ad bd : Nat → Nat) (sz : Nat) (u : OS) (x1 : Int32) (hoi : OI u) : LMet l yL_isPlaced wmL_isPlaced ({ frames := 8, cells := 2, slots := 12, locals := 124 }) D ca en ks vs ai ad bd sz u [.ref (ad 0), .int x1] (wrb (fX5_isPlaced u x1)) := by
  unfold LMet
  refine vx_only (vx_ofWH (cc := cL_isPlaced) (maxL := 3) (ret := (some .int)) (hh := [(0, 13, 14, 21)]) (by decide) rfl ?_)
  intro p e s m args below meth c s₁ B hml hv
  obtain ⟨rfl, hsz, hP, hK, hD0, hX⟩ := hv
  have hx := B.exec
  have hb := B.bytes
  have hr := B.returns
  have hts := atoms_spec (ws := wmL_isPlaced) B.pre
  have hown : s.vm.findClass RL = some m.cls := findClass_of_methodNamed B.named
  have htab : c.exceptionTable.toList = tableOf [(0, 13, 14, 21)] := vx_table (x := yL_isPlaced) B (hts (.codeWith yL_isPlaced cL_isPlaced 3 (some .int) [(0, 13, 14, 21)]) List.mem_cons_self)
  subst hsz
  have hD := hD0.self (sz := s.heap.size)
  generalize hAe : va_A (OW ca en ai ad bd u) s.heap.size = A at hD hX ⊢
  have hA : ∀ q : Nat, s.heap.size ≤ q → A q := fun q h => by rw [← hAe]; exact Or.inr h
  have hS : va_S A s.heap s.heap [] := va_S.rf
  refine W_entry (Nat.le_of_ble_eq_true rfl) (fun ls hl => ?_)
  have hl : lv_has ls 3 [(0, .ref (ad 0)), (1, .int x1)] := hl
  refine lv_aload_n hx hb dL_isPlaced_0 rfl (lv_at hl 0 rfl) ?_
  refine lv_iload_n hx hb dL_isPlaced_1 rfl (lv_at hl 1 rfl) ?_
  refine hcTo (wr := []) (As := [.int x1]) (rest := []) ⟨hx, hb, hml, hown, hts⟩ (kX5_isPlaced l hfl D ca en ks vs ai ad bd _ u x1 hoi ) (cwV 1 hts (good_more gL_isPlaced_X5_isPlaced) rfl rfl rfl (by decide +kernel) ⟨Nat.le_of_ble_eq_true rfl, Nat.le_of_ble_eq_true rfl⟩) hK hP hD hS hA hX (List.Perm.refl _) rfl hl.1 rfl (Nat.le_of_ble_eq_true rfl) ⟨Nat.le_of_ble_eq_true rfl, Nat.le_of_ble_eq_true rfl⟩ dL_isPlaced_2 (fun i E9 ce q9 H locs hi hk9 hP hD hS h5 h6 h7 => ?_) (fun H locs hk9 hP hD hS => ?_)
  · have hlt : i < 1 := (List.getElem?_eq_some_iff.mp hi).1
    rcases (show i = 0 by omega) with rfl
    · cases hi
      refine vx_catch (name := "java/lang/IndexOutOfBoundsException") hown [] ⟨0, 13, 14, 21⟩ [] htab (fun z hz => by cases hz) rfl (by decide) (hts (.classLink RL 21 "java/lang/IndexOutOfBoundsException") (List.mem_append_right _ (by decide +kernel))) (va_Nw.use rfl (hX.2.2.2.1 "java/lang/IndexOutOfBoundsException" (by decide +kernel))) h5 h6 h7 ?_
      refine lv_astore_n (lv' := [(2, .ref q9), (0, .ref (ad 0)), (1, .int x1)]) hx hb dL_isPlaced_14 rfl hl (by decide) rfl (fun ls hl => ?_)
      refine lv_sipush (v := (-1001)) hx hb dL_isPlaced_15 (by decide) ?_
      exact vx_ret (W.iret (v := (-1001)) hx hb hr (fun t ht hW => ⟨⟨(-1001), _, rfl, wrb_1 hk9, by rw [ht]; exact hP, va_K.moved hW.alike hK, hD⟩, hS.F ht⟩) hS.2.2 dL_isPlaced_18)
  · refine lv_if_eq (tgt := 12) hx hb dL_isPlaced_5 (by decide) (fun c0 => ?_) (fun c0 => ?_)
    · refine lv_iconst (v := 0) hx hb dL_isPlaced_12 (by decide) ?_
      exact vx_ret (W.iret (v := 0) hx hb hr (fun t ht hW => ⟨⟨0, _, rfl, wrb_0 hk9 c0, by rw [ht]; exact hP, va_K.moved hW.alike hK, hD⟩, hS.F ht⟩) hS.2.2 dL_isPlaced_13)
    · refine lv_iconst (v := 1) hx hb dL_isPlaced_8 (by decide) ?_
      refine lv_goto (tgt := 13) hx hb dL_isPlaced_9 (by decide) ?_
      exact vx_ret (W.iret (v := 1) hx hb hr (fun t ht hW => ⟨⟨1, _, rfl, wrb_9 hk9 c0, by rw [ht]; exact hP, va_K.moved hW.alike hK, hD⟩, hS.F ht⟩) hS.2.2 dL_isPlaced_13)
def wmL_leaveCoat : List Cond := wsL_leaveCoat ++ lx
set_option maxHeartbeats 4000000 in
set_option maxRecDepth 100000 in
theorem kL_leaveCoat (l : Launch) (hfl : l.stackTraces = false) (D : va_G) (ca : Nat → ClassId) (en ks vs : Nat → Nat) (ai : Nat → Nat → Nat) (ad bd : Nat → Nat) (sz : Nat) (u : OS) (x1 : Int32) (x2 : Int32) (hoi : OI u) : LMet l yL_leaveCoat wmL_leaveCoat ({ frames := 7, cells := 2, slots := 12, locals := 105 }) D ca en ks vs ai ad bd sz u [.ref (ad 0), .int x1, .int x2] (wrp (fX5_leaveCoat u x1 x2)) := by
  unfold LMet
  refine vx_only (vx_ofWH (cc := cL_leaveCoat) (maxL := 4) (ret := (some .int)) (hh := [(0, 6, 7, 21), (0, 6, 12, 15), (0, 6, 17, 26)]) (by decide) rfl ?_)
  intro p e s m args below meth c s₁ B hml hv
  obtain ⟨rfl, hsz, hP, hK, hD0, hX⟩ := hv
  have hx := B.exec
  have hb := B.bytes
  have hr := B.returns
  have hts := atoms_spec (ws := wmL_leaveCoat) B.pre
  have hown : s.vm.findClass RL = some m.cls := findClass_of_methodNamed B.named
  have htab : c.exceptionTable.toList = tableOf [(0, 6, 7, 21), (0, 6, 12, 15), (0, 6, 17, 26)] := vx_table (x := yL_leaveCoat) B (hts (.codeWith yL_leaveCoat cL_leaveCoat 4 (some .int) [(0, 6, 7, 21), (0, 6, 12, 15), (0, 6, 17, 26)]) List.mem_cons_self)
  subst hsz
  have hD := hD0.self (sz := s.heap.size)
  generalize hAe : va_A (OW ca en ai ad bd u) s.heap.size = A at hD hX ⊢
  have hA : ∀ q : Nat, s.heap.size ≤ q → A q := fun q h => by rw [← hAe]; exact Or.inr h
  have hS : va_S A s.heap s.heap [] := va_S.rf
  refine W_entry (Nat.le_of_ble_eq_true rfl) (fun ls hl => ?_)
  have hl : lv_has ls 4 [(0, .ref (ad 0)), (1, .int x1), (2, .int x2)] := hl
  refine lv_aload_n hx hb dL_leaveCoat_0 rfl (lv_at hl 0 rfl) ?_
  refine lv_iload_n hx hb dL_leaveCoat_1 rfl (lv_at hl 1 rfl) ?_
  refine lv_iload_n hx hb dL_leaveCoat_2 rfl (lv_at hl 2 rfl) ?_
  refine hcTo (wr := []) (As := [.int x1, .int x2]) (rest := []) ⟨hx, hb, hml, hown, hts⟩ (kX5_leaveCoat l hfl D ca en ks vs ai ad bd _ u x1 x2 hoi ) (cwV 2 hts (good_more gL_leaveCoat_X5_leaveCoat) rfl rfl rfl (by decide +kernel) ⟨Nat.le_of_ble_eq_true rfl, Nat.le_of_ble_eq_true rfl⟩) hK hP hD hS hA hX (List.Perm.refl _) rfl hl.1 rfl (Nat.le_of_ble_eq_true rfl) ⟨Nat.le_of_ble_eq_true rfl, Nat.le_of_ble_eq_true rfl⟩ dL_leaveCoat_3 (fun i E9 ce q9 H locs hi hk9 hP hD hS h5 h6 h7 => ?_) (fun H locs hk9 hP hD hS => ?_)
  · have hlt : i < 3 := (List.getElem?_eq_some_iff.mp hi).1
    rcases (show i = 0 ∨ i = 1 ∨ i = 2 by omega) with rfl | rfl | rfl
    · cases hi
      refine vx_catch (name := "java/lang/IndexOutOfBoundsException") hown [] ⟨0, 6, 7, 21⟩ [⟨0, 6, 12, 15⟩, ⟨0, 6, 17, 26⟩] htab (fun z hz => by cases hz) rfl (by decide) (hts (.classLink RL 21 "java/lang/IndexOutOfBoundsException") (List.mem_append_right _ (by decide +kernel))) (va_Nw.use rfl (hX.2.2.2.1 "java/lang/IndexOutOfBoundsException" (by decide +kernel))) h5 h6 h7 ?_
      refine lv_astore_n (lv' := [(3, .ref q9), (0, .ref (ad 0)), (1, .int x1), (2, .int x2)]) hx hb dL_leaveCoat_7 rfl hl (by decide) rfl (fun ls hl => ?_)
      refine lv_sipush (v := (-1001)) hx hb dL_leaveCoat_8 (by decide) ?_
      exact vx_ret (W.iret (v := (-1001)) hx hb hr (fun t ht hW => ⟨⟨(-1001), _, rfl, wrp_1 hk9, by rw [ht]; exact hP, va_K.moved hW.alike hK, hD⟩, hS.F ht⟩) hS.2.2 dL_leaveCoat_11)
    · cases hi
      refine vx_catch (name := "java/lang/IllegalStateException") hown [⟨0, 6, 7, 21⟩] ⟨0, 6, 12, 15⟩ [⟨0, 6, 17, 26⟩] htab (fun z hz => Or.inr (by rcases (show z = (⟨0, 6, 7, 21⟩ : ExceptionTableEntry) from by simpa using hz) with rfl <;> first | exact ⟨by decide, "java/lang/IndexOutOfBoundsException", (hts (.classLink RL 21 "java/lang/IndexOutOfBoundsException") (List.mem_append_right _ (by decide +kernel))), hX.2.2.2.2.1 "java/lang/IllegalStateException" (by decide +kernel) "java/lang/IndexOutOfBoundsException" (by decide +kernel) (by decide)⟩)) rfl (by decide) (hts (.classLink RL 15 "java/lang/IllegalStateException") (List.mem_append_right _ (by decide +kernel))) (va_Nw.use rfl (hX.2.2.2.1 "java/lang/IllegalStateException" (by decide +kernel))) h5 h6 h7 ?_
      refine lv_astore_n (lv' := [(3, .ref q9), (0, .ref (ad 0)), (1, .int x1), (2, .int x2)]) hx hb dL_leaveCoat_12 rfl hl (by decide) rfl (fun ls hl => ?_)
      refine lv_sipush (v := (-1002)) hx hb dL_leaveCoat_13 (by decide) ?_
      exact vx_ret (W.iret (v := (-1002)) hx hb hr (fun t ht hW => ⟨⟨(-1002), _, rfl, wrp_2 hk9, by rw [ht]; exact hP, va_K.moved hW.alike hK, hD⟩, hS.F ht⟩) hS.2.2 dL_leaveCoat_16)
    · cases hi
      refine vx_catch (name := "java/lang/UnsupportedOperationException") hown [⟨0, 6, 7, 21⟩, ⟨0, 6, 12, 15⟩] ⟨0, 6, 17, 26⟩ [] htab (fun z hz => Or.inr (by rcases (show z = (⟨0, 6, 7, 21⟩ : ExceptionTableEntry) ∨ z = (⟨0, 6, 12, 15⟩ : ExceptionTableEntry) from by simpa using hz) with rfl | rfl <;> first | exact ⟨by decide, "java/lang/IndexOutOfBoundsException", (hts (.classLink RL 21 "java/lang/IndexOutOfBoundsException") (List.mem_append_right _ (by decide +kernel))), hX.2.2.2.2.1 "java/lang/UnsupportedOperationException" (by decide +kernel) "java/lang/IndexOutOfBoundsException" (by decide +kernel) (by decide)⟩ | exact ⟨by decide, "java/lang/IllegalStateException", (hts (.classLink RL 15 "java/lang/IllegalStateException") (List.mem_append_right _ (by decide +kernel))), hX.2.2.2.2.1 "java/lang/UnsupportedOperationException" (by decide +kernel) "java/lang/IllegalStateException" (by decide +kernel) (by decide)⟩)) rfl (by decide) (hts (.classLink RL 26 "java/lang/UnsupportedOperationException") (List.mem_append_right _ (by decide +kernel))) (va_Nw.use rfl (hX.2.2.2.1 "java/lang/UnsupportedOperationException" (by decide +kernel))) h5 h6 h7 ?_
      refine lv_astore_n (lv' := [(3, .ref q9), (0, .ref (ad 0)), (1, .int x1), (2, .int x2)]) hx hb dL_leaveCoat_17 rfl hl (by decide) rfl (fun ls hl => ?_)
      refine lv_sipush (v := (-1003)) hx hb dL_leaveCoat_18 (by decide) ?_
      exact vx_ret (W.iret (v := (-1003)) hx hb hr (fun t ht hW => ⟨⟨(-1003), _, rfl, wrp_3 hk9, by rw [ht]; exact hP, va_K.moved hW.alike hK, hD⟩, hS.F ht⟩) hS.2.2 dL_leaveCoat_21)
  · exact vx_ret (W.iret hx hb hr (fun t ht hW => ⟨⟨_, _, rfl, wrp_0 hk9, by rw [ht]; exact hP, va_K.moved hW.alike hK, hD⟩, hS.F ht⟩) hS.2.2 dL_leaveCoat_6)
def wmL_lineAt : List Cond := wsL_lineAt ++ lx
set_option maxHeartbeats 4000000 in
set_option maxRecDepth 100000 in
theorem kL_lineAt (l : Launch) (hfl : l.stackTraces = false) (D : va_G) (ca : Nat → ClassId) (en ks vs : Nat → Nat) (ai : Nat → Nat → Nat) (ad bd : Nat → Nat) (sz : Nat) (u : OS) (x1 : Int32) (hoi : OI u) (hdead : ¬ x1 < nI (og7 u)) : LMet l yL_lineAt wmL_lineAt ({ frames := 7, cells := 2, slots := 12, locals := 103 }) D ca en ks vs ai ad bd sz u [.ref (ad 0), .int x1] (wrp (fX5_lineAt u x1)) := by
  unfold LMet
  refine vx_only (vx_ofWH (cc := cL_lineAt) (maxL := 3) (ret := (some .int)) (hh := [(0, 5, 6, 21)]) (by decide) rfl ?_)
  intro p e s m args below meth c s₁ B hml hv
  obtain ⟨rfl, hsz, hP, hK, hD0, hX⟩ := hv
  have hx := B.exec
  have hb := B.bytes
  have hr := B.returns
  have hts := atoms_spec (ws := wmL_lineAt) B.pre
  have hown : s.vm.findClass RL = some m.cls := findClass_of_methodNamed B.named
  have htab : c.exceptionTable.toList = tableOf [(0, 5, 6, 21)] := vx_table (x := yL_lineAt) B (hts (.codeWith yL_lineAt cL_lineAt 3 (some .int) [(0, 5, 6, 21)]) List.mem_cons_self)
  subst hsz
  have hD := hD0.self (sz := s.heap.size)
  generalize hAe : va_A (OW ca en ai ad bd u) s.heap.size = A at hD hX ⊢
  have hA : ∀ q : Nat, s.heap.size ≤ q → A q := fun q h => by rw [← hAe]; exact Or.inr h
  have hS : va_S A s.heap s.heap [] := va_S.rf
  refine W_entry (Nat.le_of_ble_eq_true rfl) (fun ls hl => ?_)
  have hl : lv_has ls 3 [(0, .ref (ad 0)), (1, .int x1)] := hl
  refine lv_aload_n hx hb dL_lineAt_0 rfl (lv_at hl 0 rfl) ?_
  refine lv_iload_n hx hb dL_lineAt_1 rfl (lv_at hl 1 rfl) ?_
  refine hcTo (wr := []) (As := [.int x1]) (rest := []) ⟨hx, hb, hml, hown, hts⟩ (kX5_lineAt l hfl D ca en ks vs ai ad bd _ u x1 hoi hdead) (cwV 1 hts (good_more gL_lineAt_X5_lineAt) rfl rfl rfl (by decide +kernel) ⟨Nat.le_of_ble_eq_true rfl, Nat.le_of_ble_eq_true rfl⟩) hK hP hD hS hA hX (List.Perm.refl _) rfl hl.1 rfl (Nat.le_of_ble_eq_true rfl) ⟨Nat.le_of_ble_eq_true rfl, Nat.le_of_ble_eq_true rfl⟩ dL_lineAt_2 (fun i E9 ce q9 H locs hi hk9 hP hD hS h5 h6 h7 => ?_) (fun H locs hk9 hP hD hS => ?_)
  · have hlt : i < 1 := (List.getElem?_eq_some_iff.mp hi).1
    rcases (show i = 0 by omega) with rfl
    · cases hi
      refine vx_catch (name := "java/lang/IndexOutOfBoundsException") hown [] ⟨0, 5, 6, 21⟩ [] htab (fun z hz => by cases hz) rfl (by decide) (hts (.classLink RL 21 "java/lang/IndexOutOfBoundsException") (List.mem_append_right _ (by decide +kernel))) (va_Nw.use rfl (hX.2.2.2.1 "java/lang/IndexOutOfBoundsException" (by decide +kernel))) h5 h6 h7 ?_
      refine lv_astore_n (lv' := [(2, .ref q9), (0, .ref (ad 0)), (1, .int x1)]) hx hb dL_lineAt_6 rfl hl (by decide) rfl (fun ls hl => ?_)
      refine lv_sipush (v := (-1001)) hx hb dL_lineAt_7 (by decide) ?_
      exact vx_ret (W.iret (v := (-1001)) hx hb hr (fun t ht hW => ⟨⟨(-1001), _, rfl, wrp_1 hk9, by rw [ht]; exact hP, va_K.moved hW.alike hK, hD⟩, hS.F ht⟩) hS.2.2 dL_lineAt_10)
  · exact vx_ret (W.iret hx hb hr (fun t ht hW => ⟨⟨_, _, rfl, wrp_0 hk9, by rw [ht]; exact hP, va_K.moved hW.alike hK, hD⟩, hS.F ht⟩) hS.2.2 dL_lineAt_5)
def wmL_longest : List Cond := wsL_longest ++ lx
set_option maxHeartbeats 4000000 in
set_option maxRecDepth 100000 in
theorem kL_longest (l : Launch) (hfl : l.stackTraces = false) (D : va_G) (ca : Nat → ClassId) (en ks vs : Nat → Nat) (ai : Nat → Nat → Nat) (ad bd : Nat → Nat) (sz : Nat) (u : OS) (x1 : Int32) (hoi : OI u) : LMet l yL_longest wmL_longest ({ frames := 8, cells := 2, slots := 12, locals := 123 }) D ca en ks vs ai ad bd sz u [.ref (ad 0), .int x1] (wrp (fX5_longestFreeRun u x1)) := by
  unfold LMet
  refine vx_only (vx_ofWH (cc := cL_longest) (maxL := 3) (ret := (some .int)) (hh := [(0, 5, 6, 21)]) (by decide) rfl ?_)
  intro p e s m args below meth c s₁ B hml hv
  obtain ⟨rfl, hsz, hP, hK, hD0, hX⟩ := hv
  have hx := B.exec
  have hb := B.bytes
  have hr := B.returns
  have hts := atoms_spec (ws := wmL_longest) B.pre
  have hown : s.vm.findClass RL = some m.cls := findClass_of_methodNamed B.named
  have htab : c.exceptionTable.toList = tableOf [(0, 5, 6, 21)] := vx_table (x := yL_longest) B (hts (.codeWith yL_longest cL_longest 3 (some .int) [(0, 5, 6, 21)]) List.mem_cons_self)
  subst hsz
  have hD := hD0.self (sz := s.heap.size)
  generalize hAe : va_A (OW ca en ai ad bd u) s.heap.size = A at hD hX ⊢
  have hA : ∀ q : Nat, s.heap.size ≤ q → A q := fun q h => by rw [← hAe]; exact Or.inr h
  have hS : va_S A s.heap s.heap [] := va_S.rf
  refine W_entry (Nat.le_of_ble_eq_true rfl) (fun ls hl => ?_)
  have hl : lv_has ls 3 [(0, .ref (ad 0)), (1, .int x1)] := hl
  refine lv_aload_n hx hb dL_longest_0 rfl (lv_at hl 0 rfl) ?_
  refine lv_iload_n hx hb dL_longest_1 rfl (lv_at hl 1 rfl) ?_
  refine hcTo (wr := []) (As := [.int x1]) (rest := []) ⟨hx, hb, hml, hown, hts⟩ (kX5_longestFreeRun l hfl D ca en ks vs ai ad bd _ u x1 hoi ) (cwV 1 hts (good_more gL_longest_X5_longestFreeRun) rfl rfl rfl (by decide +kernel) ⟨Nat.le_of_ble_eq_true rfl, Nat.le_of_ble_eq_true rfl⟩) hK hP hD hS hA hX (List.Perm.refl _) rfl hl.1 rfl (Nat.le_of_ble_eq_true rfl) ⟨Nat.le_of_ble_eq_true rfl, Nat.le_of_ble_eq_true rfl⟩ dL_longest_2 (fun i E9 ce q9 H locs hi hk9 hP hD hS h5 h6 h7 => ?_) (fun H locs hk9 hP hD hS => ?_)
  · have hlt : i < 1 := (List.getElem?_eq_some_iff.mp hi).1
    rcases (show i = 0 by omega) with rfl
    · cases hi
      refine vx_catch (name := "java/lang/IndexOutOfBoundsException") hown [] ⟨0, 5, 6, 21⟩ [] htab (fun z hz => by cases hz) rfl (by decide) (hts (.classLink RL 21 "java/lang/IndexOutOfBoundsException") (List.mem_append_right _ (by decide +kernel))) (va_Nw.use rfl (hX.2.2.2.1 "java/lang/IndexOutOfBoundsException" (by decide +kernel))) h5 h6 h7 ?_
      refine lv_astore_n (lv' := [(2, .ref q9), (0, .ref (ad 0)), (1, .int x1)]) hx hb dL_longest_6 rfl hl (by decide) rfl (fun ls hl => ?_)
      refine lv_sipush (v := (-1001)) hx hb dL_longest_7 (by decide) ?_
      exact vx_ret (W.iret (v := (-1001)) hx hb hr (fun t ht hW => ⟨⟨(-1001), _, rfl, wrp_1 hk9, by rw [ht]; exact hP, va_K.moved hW.alike hK, hD⟩, hS.F ht⟩) hS.2.2 dL_longest_10)
  · exact vx_ret (W.iret hx hb hr (fun t ht hW => ⟨⟨_, _, rfl, wrp_0 hk9, by rw [ht]; exact hP, va_K.moved hW.alike hK, hD⟩, hS.F ht⟩) hS.2.2 dL_longest_5)
def wmL_longestByMask : List Cond := wsL_longestByMask ++ lx
set_option maxHeartbeats 4000000 in
set_option maxRecDepth 100000 in
theorem kL_longestByMask (l : Launch) (hfl : l.stackTraces = false) (D : va_G) (ca : Nat → ClassId) (en ks vs : Nat → Nat) (ai : Nat → Nat → Nat) (ad bd : Nat → Nat) (sz : Nat) (u : OS) (x1 : Int32) (hoi : OI u) (hdead : ¬ fX5_requireRow x1 = 0) : LMet l yL_longestByMask wmL_longestByMask ({ frames := 8, cells := 2, slots := 12, locals := 123 }) D ca en ks vs ai ad bd sz u [.ref (ad 0), .int x1] (wrp (fX5_longestFreeRunByMask u x1)) := by
  unfold LMet
  refine vx_only (vx_ofWH (cc := cL_longestByMask) (maxL := 3) (ret := (some .int)) (hh := [(0, 5, 6, 21)]) (by decide) rfl ?_)
  intro p e s m args below meth c s₁ B hml hv
  obtain ⟨rfl, hsz, hP, hK, hD0, hX⟩ := hv
  have hx := B.exec
  have hb := B.bytes
  have hr := B.returns
  have hts := atoms_spec (ws := wmL_longestByMask) B.pre
  have hown : s.vm.findClass RL = some m.cls := findClass_of_methodNamed B.named
  have htab : c.exceptionTable.toList = tableOf [(0, 5, 6, 21)] := vx_table (x := yL_longestByMask) B (hts (.codeWith yL_longestByMask cL_longestByMask 3 (some .int) [(0, 5, 6, 21)]) List.mem_cons_self)
  subst hsz
  have hD := hD0.self (sz := s.heap.size)
  generalize hAe : va_A (OW ca en ai ad bd u) s.heap.size = A at hD hX ⊢
  have hA : ∀ q : Nat, s.heap.size ≤ q → A q := fun q h => by rw [← hAe]; exact Or.inr h
  have hS : va_S A s.heap s.heap [] := va_S.rf
  refine W_entry (Nat.le_of_ble_eq_true rfl) (fun ls hl => ?_)
  have hl : lv_has ls 3 [(0, .ref (ad 0)), (1, .int x1)] := hl
  refine lv_aload_n hx hb dL_longestByMask_0 rfl (lv_at hl 0 rfl) ?_
  refine lv_iload_n hx hb dL_longestByMask_1 rfl (lv_at hl 1 rfl) ?_
  refine hcTo (wr := []) (As := [.int x1]) (rest := []) ⟨hx, hb, hml, hown, hts⟩ (kX5_longestFreeRunByMask l hfl D ca en ks vs ai ad bd _ u x1 hoi hdead) (cwV 1 hts (good_more gL_longestByMask_X5_longestFreeRunByMask) rfl rfl rfl (by decide +kernel) ⟨Nat.le_of_ble_eq_true rfl, Nat.le_of_ble_eq_true rfl⟩) hK hP hD hS hA hX (List.Perm.refl _) rfl hl.1 rfl (Nat.le_of_ble_eq_true rfl) ⟨Nat.le_of_ble_eq_true rfl, Nat.le_of_ble_eq_true rfl⟩ dL_longestByMask_2 (fun i E9 ce q9 H locs hi hk9 hP hD hS h5 h6 h7 => ?_) (fun H locs hk9 hP hD hS => ?_)
  · have hlt : i < 1 := (List.getElem?_eq_some_iff.mp hi).1
    rcases (show i = 0 by omega) with rfl
    · cases hi
      refine vx_catch (name := "java/lang/IndexOutOfBoundsException") hown [] ⟨0, 5, 6, 21⟩ [] htab (fun z hz => by cases hz) rfl (by decide) (hts (.classLink RL 21 "java/lang/IndexOutOfBoundsException") (List.mem_append_right _ (by decide +kernel))) (va_Nw.use rfl (hX.2.2.2.1 "java/lang/IndexOutOfBoundsException" (by decide +kernel))) h5 h6 h7 ?_
      refine lv_astore_n (lv' := [(2, .ref q9), (0, .ref (ad 0)), (1, .int x1)]) hx hb dL_longestByMask_6 rfl hl (by decide) rfl (fun ls hl => ?_)
      refine lv_sipush (v := (-1001)) hx hb dL_longestByMask_7 (by decide) ?_
      exact vx_ret (W.iret (v := (-1001)) hx hb hr (fun t ht hW => ⟨⟨(-1001), _, rfl, wrp_1 hk9, by rw [ht]; exact hP, va_K.moved hW.alike hK, hD⟩, hS.F ht⟩) hS.2.2 dL_longestByMask_10)
  · exact vx_ret (W.iret hx hb hr (fun t ht hW => ⟨⟨_, _, rfl, wrp_0 hk9, by rw [ht]; exact hP, va_K.moved hW.alike hK, hD⟩, hS.F ht⟩) hS.2.2 dL_longestByMask_5)
def wmL_next : List Cond := wsL_next ++ lx
set_option maxHeartbeats 4000000 in
set_option maxRecDepth 100000 in
theorem kL_next (l : Launch) (hfl : l.stackTraces = false) (D : va_G) (ca : Nat → ClassId) (en ks vs : Nat → Nat) (ai : Nat → Nat → Nat) (ad bd : Nat → Nat) (sz : Nat) (u : OS) (x1 : Int32) (hoi : OI u) : LMet l yL_next wmL_next ({ frames := 8, cells := 2, slots := 12, locals := 124 }) D ca en ks vs ai ad bd sz u [.ref (ad 0), .int x1] (wrp (fX5_nextClaimant u x1)) := by
  unfold LMet
  refine vx_only (vx_ofWH (cc := cL_next) (maxL := 3) (ret := (some .int)) (hh := [(0, 5, 6, 21), (0, 5, 11, 31)]) (by decide) rfl ?_)
  intro p e s m args below meth c s₁ B hml hv
  obtain ⟨rfl, hsz, hP, hK, hD0, hX⟩ := hv
  have hx := B.exec
  have hb := B.bytes
  have hr := B.returns
  have hts := atoms_spec (ws := wmL_next) B.pre
  have hown : s.vm.findClass RL = some m.cls := findClass_of_methodNamed B.named
  have htab : c.exceptionTable.toList = tableOf [(0, 5, 6, 21), (0, 5, 11, 31)] := vx_table (x := yL_next) B (hts (.codeWith yL_next cL_next 3 (some .int) [(0, 5, 6, 21), (0, 5, 11, 31)]) List.mem_cons_self)
  subst hsz
  have hD := hD0.self (sz := s.heap.size)
  generalize hAe : va_A (OW ca en ai ad bd u) s.heap.size = A at hD hX ⊢
  have hA : ∀ q : Nat, s.heap.size ≤ q → A q := fun q h => by rw [← hAe]; exact Or.inr h
  have hS : va_S A s.heap s.heap [] := va_S.rf
  refine W_entry (Nat.le_of_ble_eq_true rfl) (fun ls hl => ?_)
  have hl : lv_has ls 3 [(0, .ref (ad 0)), (1, .int x1)] := hl
  refine lv_aload_n hx hb dL_next_0 rfl (lv_at hl 0 rfl) ?_
  refine lv_iload_n hx hb dL_next_1 rfl (lv_at hl 1 rfl) ?_
  refine hcTo (wr := []) (As := [.int x1]) (rest := []) ⟨hx, hb, hml, hown, hts⟩ (kX5_nextClaimant l hfl D ca en ks vs ai ad bd _ u x1 hoi ) (cwV 1 hts (good_more gL_next_X5_nextClaimant) rfl rfl rfl (by decide +kernel) ⟨Nat.le_of_ble_eq_true rfl, Nat.le_of_ble_eq_true rfl⟩) hK hP hD hS hA hX (List.Perm.refl _) rfl hl.1 rfl (Nat.le_of_ble_eq_true rfl) ⟨Nat.le_of_ble_eq_true rfl, Nat.le_of_ble_eq_true rfl⟩ dL_next_2 (fun i E9 ce q9 H locs hi hk9 hP hD hS h5 h6 h7 => ?_) (fun H locs hk9 hP hD hS => ?_)
  · have hlt : i < 2 := (List.getElem?_eq_some_iff.mp hi).1
    rcases (show i = 0 ∨ i = 1 by omega) with rfl | rfl
    · cases hi
      refine vx_catch (name := "java/lang/IndexOutOfBoundsException") hown [] ⟨0, 5, 6, 21⟩ [⟨0, 5, 11, 31⟩] htab (fun z hz => by cases hz) rfl (by decide) (hts (.classLink RL 21 "java/lang/IndexOutOfBoundsException") (List.mem_append_right _ (by decide +kernel))) (va_Nw.use rfl (hX.2.2.2.1 "java/lang/IndexOutOfBoundsException" (by decide +kernel))) h5 h6 h7 ?_
      refine lv_astore_n (lv' := [(2, .ref q9), (0, .ref (ad 0)), (1, .int x1)]) hx hb dL_next_6 rfl hl (by decide) rfl (fun ls hl => ?_)
      refine lv_sipush (v := (-1001)) hx hb dL_next_7 (by decide) ?_
      exact vx_ret (W.iret (v := (-1001)) hx hb hr (fun t ht hW => ⟨⟨(-1001), _, rfl, wrp_1 hk9, by rw [ht]; exact hP, va_K.moved hW.alike hK, hD⟩, hS.F ht⟩) hS.2.2 dL_next_10)
    · cases hi
      refine vx_catch (name := "java/util/NoSuchElementException") hown [⟨0, 5, 6, 21⟩] ⟨0, 5, 11, 31⟩ [] htab (fun z hz => Or.inr (by rcases (show z = (⟨0, 5, 6, 21⟩ : ExceptionTableEntry) from by simpa using hz) with rfl <;> first | exact ⟨by decide, "java/lang/IndexOutOfBoundsException", (hts (.classLink RL 21 "java/lang/IndexOutOfBoundsException") (List.mem_append_right _ (by decide +kernel))), hX.2.2.2.2.1 "java/util/NoSuchElementException" (by decide +kernel) "java/lang/IndexOutOfBoundsException" (by decide +kernel) (by decide)⟩)) rfl (by decide) (hts (.classLink RL 31 "java/util/NoSuchElementException") (List.mem_append_right _ (by decide +kernel))) (va_Nw.use rfl (hX.2.2.2.1 "java/util/NoSuchElementException" (by decide +kernel))) h5 h6 h7 ?_
      refine lv_astore_n (lv' := [(2, .ref q9), (0, .ref (ad 0)), (1, .int x1)]) hx hb dL_next_11 rfl hl (by decide) rfl (fun ls hl => ?_)
      refine lv_sipush (v := (-1002)) hx hb dL_next_12 (by decide) ?_
      exact vx_ret (W.iret (v := (-1002)) hx hb hr (fun t ht hW => ⟨⟨(-1002), _, rfl, wrp_2 hk9, by rw [ht]; exact hP, va_K.moved hW.alike hK, hD⟩, hS.F ht⟩) hS.2.2 dL_next_15)
  · exact vx_ret (W.iret hx hb hr (fun t ht hW => ⟨⟨_, _, rfl, wrp_0 hk9, by rw [ht]; exact hP, va_K.moved hW.alike hK, hD⟩, hS.F ht⟩) hS.2.2 dL_next_5)
def wmL_nextByTime : List Cond := wsL_nextByTime ++ lx
set_option maxHeartbeats 4000000 in
set_option maxRecDepth 100000 in
theorem kL_nextByTime (l : Launch) (hfl : l.stackTraces = false) (D : va_G) (ca : Nat → ClassId) (en ks vs : Nat → Nat) (ai : Nat → Nat → Nat) (ad bd : Nat → Nat) (sz : Nat) (u : OS) (x1 : Int32) (hoi : OI u) (hdead : ¬ fX5_requireChair x1 = 0) : LMet l yL_nextByTime wmL_nextByTime ({ frames := 8, cells := 2, slots := 12, locals := 124 }) D ca en ks vs ai ad bd sz u [.ref (ad 0), .int x1] (wrp (fX5_nextClaimantByTime u x1)) := by
  unfold LMet
  refine vx_only (vx_ofWH (cc := cL_nextByTime) (maxL := 3) (ret := (some .int)) (hh := [(0, 5, 6, 21), (0, 5, 11, 31)]) (by decide) rfl ?_)
  intro p e s m args below meth c s₁ B hml hv
  obtain ⟨rfl, hsz, hP, hK, hD0, hX⟩ := hv
  have hx := B.exec
  have hb := B.bytes
  have hr := B.returns
  have hts := atoms_spec (ws := wmL_nextByTime) B.pre
  have hown : s.vm.findClass RL = some m.cls := findClass_of_methodNamed B.named
  have htab : c.exceptionTable.toList = tableOf [(0, 5, 6, 21), (0, 5, 11, 31)] := vx_table (x := yL_nextByTime) B (hts (.codeWith yL_nextByTime cL_nextByTime 3 (some .int) [(0, 5, 6, 21), (0, 5, 11, 31)]) List.mem_cons_self)
  subst hsz
  have hD := hD0.self (sz := s.heap.size)
  generalize hAe : va_A (OW ca en ai ad bd u) s.heap.size = A at hD hX ⊢
  have hA : ∀ q : Nat, s.heap.size ≤ q → A q := fun q h => by rw [← hAe]; exact Or.inr h
  have hS : va_S A s.heap s.heap [] := va_S.rf
  refine W_entry (Nat.le_of_ble_eq_true rfl) (fun ls hl => ?_)
  have hl : lv_has ls 3 [(0, .ref (ad 0)), (1, .int x1)] := hl
  refine lv_aload_n hx hb dL_nextByTime_0 rfl (lv_at hl 0 rfl) ?_
  refine lv_iload_n hx hb dL_nextByTime_1 rfl (lv_at hl 1 rfl) ?_
  refine hcTo (wr := []) (As := [.int x1]) (rest := []) ⟨hx, hb, hml, hown, hts⟩ (kX5_nextClaimantByTime l hfl D ca en ks vs ai ad bd _ u x1 hoi hdead) (cwV 1 hts (good_more gL_nextByTime_X5_nextClaimantByTime) rfl rfl rfl (by decide +kernel) ⟨Nat.le_of_ble_eq_true rfl, Nat.le_of_ble_eq_true rfl⟩) hK hP hD hS hA hX (List.Perm.refl _) rfl hl.1 rfl (Nat.le_of_ble_eq_true rfl) ⟨Nat.le_of_ble_eq_true rfl, Nat.le_of_ble_eq_true rfl⟩ dL_nextByTime_2 (fun i E9 ce q9 H locs hi hk9 hP hD hS h5 h6 h7 => ?_) (fun H locs hk9 hP hD hS => ?_)
  · have hlt : i < 2 := (List.getElem?_eq_some_iff.mp hi).1
    rcases (show i = 0 ∨ i = 1 by omega) with rfl | rfl
    · cases hi
      refine vx_catch (name := "java/lang/IndexOutOfBoundsException") hown [] ⟨0, 5, 6, 21⟩ [⟨0, 5, 11, 31⟩] htab (fun z hz => by cases hz) rfl (by decide) (hts (.classLink RL 21 "java/lang/IndexOutOfBoundsException") (List.mem_append_right _ (by decide +kernel))) (va_Nw.use rfl (hX.2.2.2.1 "java/lang/IndexOutOfBoundsException" (by decide +kernel))) h5 h6 h7 ?_
      refine lv_astore_n (lv' := [(2, .ref q9), (0, .ref (ad 0)), (1, .int x1)]) hx hb dL_nextByTime_6 rfl hl (by decide) rfl (fun ls hl => ?_)
      refine lv_sipush (v := (-1001)) hx hb dL_nextByTime_7 (by decide) ?_
      exact vx_ret (W.iret (v := (-1001)) hx hb hr (fun t ht hW => ⟨⟨(-1001), _, rfl, wrp_1 hk9, by rw [ht]; exact hP, va_K.moved hW.alike hK, hD⟩, hS.F ht⟩) hS.2.2 dL_nextByTime_10)
    · cases hi
      refine vx_catch (name := "java/util/NoSuchElementException") hown [⟨0, 5, 6, 21⟩] ⟨0, 5, 11, 31⟩ [] htab (fun z hz => Or.inr (by rcases (show z = (⟨0, 5, 6, 21⟩ : ExceptionTableEntry) from by simpa using hz) with rfl <;> first | exact ⟨by decide, "java/lang/IndexOutOfBoundsException", (hts (.classLink RL 21 "java/lang/IndexOutOfBoundsException") (List.mem_append_right _ (by decide +kernel))), hX.2.2.2.2.1 "java/util/NoSuchElementException" (by decide +kernel) "java/lang/IndexOutOfBoundsException" (by decide +kernel) (by decide)⟩)) rfl (by decide) (hts (.classLink RL 31 "java/util/NoSuchElementException") (List.mem_append_right _ (by decide +kernel))) (va_Nw.use rfl (hX.2.2.2.1 "java/util/NoSuchElementException" (by decide +kernel))) h5 h6 h7 ?_
      refine lv_astore_n (lv' := [(2, .ref q9), (0, .ref (ad 0)), (1, .int x1)]) hx hb dL_nextByTime_11 rfl hl (by decide) rfl (fun ls hl => ?_)
      refine lv_sipush (v := (-1002)) hx hb dL_nextByTime_12 (by decide) ?_
      exact vx_ret (W.iret (v := (-1002)) hx hb hr (fun t ht hW => ⟨⟨(-1002), _, rfl, wrp_2 hk9, by rw [ht]; exact hP, va_K.moved hW.alike hK, hD⟩, hS.F ht⟩) hS.2.2 dL_nextByTime_15)
  · exact vx_ret (W.iret hx hb hr (fun t ht hW => ⟨⟨_, _, rfl, wrp_0 hk9, by rw [ht]; exact hP, va_K.moved hW.alike hK, hD⟩, hS.F ht⟩) hS.2.2 dL_nextByTime_5)
def wmL_pass : List Cond := wsL_pass ++ lx
set_option maxHeartbeats 4000000 in
set_option maxRecDepth 100000 in
theorem kL_pass (l : Launch) (hfl : l.stackTraces = false) (D : va_G) (ca : Nat → ClassId) (en ks vs : Nat → Nat) (ai : Nat → Nat → Nat) (ad bd : Nat → Nat) (sz : Nat) (u : OS) (x1 : Int32) (hoi : OI u) : LMet l yL_pass wmL_pass ({ frames := 7, cells := 2, slots := 12, locals := 103 }) D ca en ks vs ai ad bd sz u [.ref (ad 0), .int x1] (wrp (fX5_pass u x1)) := by
  unfold LMet
  refine vx_only (vx_ofWH (cc := cL_pass) (maxL := 3) (ret := (some .int)) (hh := [(0, 5, 6, 13)]) (by decide) rfl ?_)
  intro p e s m args below meth c s₁ B hml hv
  obtain ⟨rfl, hsz, hP, hK, hD0, hX⟩ := hv
  have hx := B.exec
  have hb := B.bytes
  have hr := B.returns
  have hts := atoms_spec (ws := wmL_pass) B.pre
  have hown : s.vm.findClass RL = some m.cls := findClass_of_methodNamed B.named
  have htab : c.exceptionTable.toList = tableOf [(0, 5, 6, 13)] := vx_table (x := yL_pass) B (hts (.codeWith yL_pass cL_pass 3 (some .int) [(0, 5, 6, 13)]) List.mem_cons_self)
  subst hsz
  have hD := hD0.self (sz := s.heap.size)
  generalize hAe : va_A (OW ca en ai ad bd u) s.heap.size = A at hD hX ⊢
  have hA : ∀ q : Nat, s.heap.size ≤ q → A q := fun q h => by rw [← hAe]; exact Or.inr h
  have hS : va_S A s.heap s.heap [] := va_S.rf
  refine W_entry (Nat.le_of_ble_eq_true rfl) (fun ls hl => ?_)
  have hl : lv_has ls 3 [(0, .ref (ad 0)), (1, .int x1)] := hl
  refine lv_aload_n hx hb dL_pass_0 rfl (lv_at hl 0 rfl) ?_
  refine lv_iload_n hx hb dL_pass_1 rfl (lv_at hl 1 rfl) ?_
  refine hcTo (wr := []) (As := [.int x1]) (rest := []) ⟨hx, hb, hml, hown, hts⟩ (kX5_pass l hfl D ca en ks vs ai ad bd _ u x1 hoi ) (cwV 1 hts (good_more gL_pass_X5_pass) rfl rfl rfl (by decide +kernel) ⟨Nat.le_of_ble_eq_true rfl, Nat.le_of_ble_eq_true rfl⟩) hK hP hD hS hA hX (List.Perm.refl _) rfl hl.1 rfl (Nat.le_of_ble_eq_true rfl) ⟨Nat.le_of_ble_eq_true rfl, Nat.le_of_ble_eq_true rfl⟩ dL_pass_2 (fun i E9 ce q9 H locs hi hk9 hP hD hS h5 h6 h7 => ?_) (fun H locs hk9 hP hD hS => ?_)
  · have hlt : i < 1 := (List.getElem?_eq_some_iff.mp hi).1
    rcases (show i = 0 by omega) with rfl
    · cases hi
      refine vx_catch (name := "java/lang/IllegalArgumentException") hown [] ⟨0, 5, 6, 13⟩ [] htab (fun z hz => by cases hz) rfl (by decide) (hts (.classLink RL 13 "java/lang/IllegalArgumentException") (List.mem_append_right _ (by decide +kernel))) (va_Nw.use rfl (hX.2.2.2.1 "java/lang/IllegalArgumentException" (by decide +kernel))) h5 h6 h7 ?_
      refine lv_astore_n (lv' := [(2, .ref q9), (0, .ref (ad 0)), (1, .int x1)]) hx hb dL_pass_6 rfl hl (by decide) rfl (fun ls hl => ?_)
      refine lv_sipush (v := (-1001)) hx hb dL_pass_7 (by decide) ?_
      exact vx_ret (W.iret (v := (-1001)) hx hb hr (fun t ht hW => ⟨⟨(-1001), _, rfl, wrp_1 hk9, by rw [ht]; exact hP, va_K.moved hW.alike hK, hD⟩, hS.F ht⟩) hS.2.2 dL_pass_10)
  · exact vx_ret (W.iret hx hb hr (fun t ht hW => ⟨⟨_, _, rfl, wrp_0 hk9, by rw [ht]; exact hP, va_K.moved hW.alike hK, hD⟩, hS.F ht⟩) hS.2.2 dL_pass_5)
def wmL_placeHat : List Cond := wsL_placeHat ++ lx
set_option maxHeartbeats 4000000 in
set_option maxRecDepth 100000 in
theorem kL_placeHat (l : Launch) (hfl : l.stackTraces = false) (D : va_G) (ca : Nat → ClassId) (en ks vs : Nat → Nat) (ai : Nat → Nat → Nat) (ad bd : Nat → Nat) (sz : Nat) (u : OS) (x1 : Int32) (x2 : Int32) (hoi : OI u) : LMet l yL_placeHat wmL_placeHat ({ frames := 7, cells := 2, slots := 12, locals := 105 }) D ca en ks vs ai ad bd sz u [.ref (ad 0), .int x1, .int x2] (wrp (fX5_placeHat u x1 x2)) := by
  unfold LMet
  refine vx_only (vx_ofWH (cc := cL_placeHat) (maxL := 4) (ret := (some .int)) (hh := [(0, 6, 7, 21), (0, 6, 12, 15), (0, 6, 17, 26)]) (by decide) rfl ?_)
  intro p e s m args below meth c s₁ B hml hv
  obtain ⟨rfl, hsz, hP, hK, hD0, hX⟩ := hv
  have hx := B.exec
  have hb := B.bytes
  have hr := B.returns
  have hts := atoms_spec (ws := wmL_placeHat) B.pre
  have hown : s.vm.findClass RL = some m.cls := findClass_of_methodNamed B.named
  have htab : c.exceptionTable.toList = tableOf [(0, 6, 7, 21), (0, 6, 12, 15), (0, 6, 17, 26)] := vx_table (x := yL_placeHat) B (hts (.codeWith yL_placeHat cL_placeHat 4 (some .int) [(0, 6, 7, 21), (0, 6, 12, 15), (0, 6, 17, 26)]) List.mem_cons_self)
  subst hsz
  have hD := hD0.self (sz := s.heap.size)
  generalize hAe : va_A (OW ca en ai ad bd u) s.heap.size = A at hD hX ⊢
  have hA : ∀ q : Nat, s.heap.size ≤ q → A q := fun q h => by rw [← hAe]; exact Or.inr h
  have hS : va_S A s.heap s.heap [] := va_S.rf
  refine W_entry (Nat.le_of_ble_eq_true rfl) (fun ls hl => ?_)
  have hl : lv_has ls 4 [(0, .ref (ad 0)), (1, .int x1), (2, .int x2)] := hl
  refine lv_aload_n hx hb dL_placeHat_0 rfl (lv_at hl 0 rfl) ?_
  refine lv_iload_n hx hb dL_placeHat_1 rfl (lv_at hl 1 rfl) ?_
  refine lv_iload_n hx hb dL_placeHat_2 rfl (lv_at hl 2 rfl) ?_
  refine hcTo (wr := []) (As := [.int x1, .int x2]) (rest := []) ⟨hx, hb, hml, hown, hts⟩ (kX5_placeHat l hfl D ca en ks vs ai ad bd _ u x1 x2 hoi ) (cwV 2 hts (good_more gL_placeHat_X5_placeHat) rfl rfl rfl (by decide +kernel) ⟨Nat.le_of_ble_eq_true rfl, Nat.le_of_ble_eq_true rfl⟩) hK hP hD hS hA hX (List.Perm.refl _) rfl hl.1 rfl (Nat.le_of_ble_eq_true rfl) ⟨Nat.le_of_ble_eq_true rfl, Nat.le_of_ble_eq_true rfl⟩ dL_placeHat_3 (fun i E9 ce q9 H locs hi hk9 hP hD hS h5 h6 h7 => ?_) (fun H locs hk9 hP hD hS => ?_)
  · have hlt : i < 3 := (List.getElem?_eq_some_iff.mp hi).1
    rcases (show i = 0 ∨ i = 1 ∨ i = 2 by omega) with rfl | rfl | rfl
    · cases hi
      refine vx_catch (name := "java/lang/IndexOutOfBoundsException") hown [] ⟨0, 6, 7, 21⟩ [⟨0, 6, 12, 15⟩, ⟨0, 6, 17, 26⟩] htab (fun z hz => by cases hz) rfl (by decide) (hts (.classLink RL 21 "java/lang/IndexOutOfBoundsException") (List.mem_append_right _ (by decide +kernel))) (va_Nw.use rfl (hX.2.2.2.1 "java/lang/IndexOutOfBoundsException" (by decide +kernel))) h5 h6 h7 ?_
      refine lv_astore_n (lv' := [(3, .ref q9), (0, .ref (ad 0)), (1, .int x1), (2, .int x2)]) hx hb dL_placeHat_7 rfl hl (by decide) rfl (fun ls hl => ?_)
      refine lv_sipush (v := (-1001)) hx hb dL_placeHat_8 (by decide) ?_
      exact vx_ret (W.iret (v := (-1001)) hx hb hr (fun t ht hW => ⟨⟨(-1001), _, rfl, wrp_1 hk9, by rw [ht]; exact hP, va_K.moved hW.alike hK, hD⟩, hS.F ht⟩) hS.2.2 dL_placeHat_11)
    · cases hi
      refine vx_catch (name := "java/lang/IllegalStateException") hown [⟨0, 6, 7, 21⟩] ⟨0, 6, 12, 15⟩ [⟨0, 6, 17, 26⟩] htab (fun z hz => Or.inr (by rcases (show z = (⟨0, 6, 7, 21⟩ : ExceptionTableEntry) from by simpa using hz) with rfl <;> first | exact ⟨by decide, "java/lang/IndexOutOfBoundsException", (hts (.classLink RL 21 "java/lang/IndexOutOfBoundsException") (List.mem_append_right _ (by decide +kernel))), hX.2.2.2.2.1 "java/lang/IllegalStateException" (by decide +kernel) "java/lang/IndexOutOfBoundsException" (by decide +kernel) (by decide)⟩)) rfl (by decide) (hts (.classLink RL 15 "java/lang/IllegalStateException") (List.mem_append_right _ (by decide +kernel))) (va_Nw.use rfl (hX.2.2.2.1 "java/lang/IllegalStateException" (by decide +kernel))) h5 h6 h7 ?_
      refine lv_astore_n (lv' := [(3, .ref q9), (0, .ref (ad 0)), (1, .int x1), (2, .int x2)]) hx hb dL_placeHat_12 rfl hl (by decide) rfl (fun ls hl => ?_)
      refine lv_sipush (v := (-1002)) hx hb dL_placeHat_13 (by decide) ?_
      exact vx_ret (W.iret (v := (-1002)) hx hb hr (fun t ht hW => ⟨⟨(-1002), _, rfl, wrp_2 hk9, by rw [ht]; exact hP, va_K.moved hW.alike hK, hD⟩, hS.F ht⟩) hS.2.2 dL_placeHat_16)
    · cases hi
      refine vx_catch (name := "java/lang/UnsupportedOperationException") hown [⟨0, 6, 7, 21⟩, ⟨0, 6, 12, 15⟩] ⟨0, 6, 17, 26⟩ [] htab (fun z hz => Or.inr (by rcases (show z = (⟨0, 6, 7, 21⟩ : ExceptionTableEntry) ∨ z = (⟨0, 6, 12, 15⟩ : ExceptionTableEntry) from by simpa using hz) with rfl | rfl <;> first | exact ⟨by decide, "java/lang/IndexOutOfBoundsException", (hts (.classLink RL 21 "java/lang/IndexOutOfBoundsException") (List.mem_append_right _ (by decide +kernel))), hX.2.2.2.2.1 "java/lang/UnsupportedOperationException" (by decide +kernel) "java/lang/IndexOutOfBoundsException" (by decide +kernel) (by decide)⟩ | exact ⟨by decide, "java/lang/IllegalStateException", (hts (.classLink RL 15 "java/lang/IllegalStateException") (List.mem_append_right _ (by decide +kernel))), hX.2.2.2.2.1 "java/lang/UnsupportedOperationException" (by decide +kernel) "java/lang/IllegalStateException" (by decide +kernel) (by decide)⟩)) rfl (by decide) (hts (.classLink RL 26 "java/lang/UnsupportedOperationException") (List.mem_append_right _ (by decide +kernel))) (va_Nw.use rfl (hX.2.2.2.1 "java/lang/UnsupportedOperationException" (by decide +kernel))) h5 h6 h7 ?_
      refine lv_astore_n (lv' := [(3, .ref q9), (0, .ref (ad 0)), (1, .int x1), (2, .int x2)]) hx hb dL_placeHat_17 rfl hl (by decide) rfl (fun ls hl => ?_)
      refine lv_sipush (v := (-1003)) hx hb dL_placeHat_18 (by decide) ?_
      exact vx_ret (W.iret (v := (-1003)) hx hb hr (fun t ht hW => ⟨⟨(-1003), _, rfl, wrp_3 hk9, by rw [ht]; exact hP, va_K.moved hW.alike hK, hD⟩, hS.F ht⟩) hS.2.2 dL_placeHat_21)
  · exact vx_ret (W.iret hx hb hr (fun t ht hW => ⟨⟨_, _, rfl, wrp_0 hk9, by rw [ht]; exact hP, va_K.moved hW.alike hK, hD⟩, hS.F ht⟩) hS.2.2 dL_placeHat_6)
def wmL_removeHat : List Cond := wsL_removeHat ++ lx
set_option maxHeartbeats 4000000 in
set_option maxRecDepth 100000 in
theorem kL_removeHat (l : Launch) (hfl : l.stackTraces = false) (D : va_G) (ca : Nat → ClassId) (en ks vs : Nat → Nat) (ai : Nat → Nat → Nat) (ad bd : Nat → Nat) (sz : Nat) (u : OS) (x1 : Int32) (hoi : OI u) : LMet l yL_removeHat wmL_removeHat ({ frames := 8, cells := 2, slots := 12, locals := 145 }) D ca en ks vs ai ad bd sz u [.ref (ad 0), .int x1] (wrp (fX5_removeHat u x1)) := by
  unfold LMet
  refine vx_only (vx_ofWH (cc := cL_removeHat) (maxL := 3) (ret := (some .int)) (hh := [(0, 5, 6, 21), (0, 5, 11, 31)]) (by decide) rfl ?_)
  intro p e s m args below meth c s₁ B hml hv
  obtain ⟨rfl, hsz, hP, hK, hD0, hX⟩ := hv
  have hx := B.exec
  have hb := B.bytes
  have hr := B.returns
  have hts := atoms_spec (ws := wmL_removeHat) B.pre
  have hown : s.vm.findClass RL = some m.cls := findClass_of_methodNamed B.named
  have htab : c.exceptionTable.toList = tableOf [(0, 5, 6, 21), (0, 5, 11, 31)] := vx_table (x := yL_removeHat) B (hts (.codeWith yL_removeHat cL_removeHat 3 (some .int) [(0, 5, 6, 21), (0, 5, 11, 31)]) List.mem_cons_self)
  subst hsz
  have hD := hD0.self (sz := s.heap.size)
  generalize hAe : va_A (OW ca en ai ad bd u) s.heap.size = A at hD hX ⊢
  have hA : ∀ q : Nat, s.heap.size ≤ q → A q := fun q h => by rw [← hAe]; exact Or.inr h
  have hS : va_S A s.heap s.heap [] := va_S.rf
  refine W_entry (Nat.le_of_ble_eq_true rfl) (fun ls hl => ?_)
  have hl : lv_has ls 3 [(0, .ref (ad 0)), (1, .int x1)] := hl
  refine lv_aload_n hx hb dL_removeHat_0 rfl (lv_at hl 0 rfl) ?_
  refine lv_iload_n hx hb dL_removeHat_1 rfl (lv_at hl 1 rfl) ?_
  refine hcTo (wr := []) (As := [.int x1]) (rest := []) ⟨hx, hb, hml, hown, hts⟩ (kX5_removeHat l hfl D ca en ks vs ai ad bd _ u x1 hoi ) (cwV 1 hts (good_more gL_removeHat_X5_removeHat) rfl rfl rfl (by decide +kernel) ⟨Nat.le_of_ble_eq_true rfl, Nat.le_of_ble_eq_true rfl⟩) hK hP hD hS hA hX (List.Perm.refl _) rfl hl.1 rfl (Nat.le_of_ble_eq_true rfl) ⟨Nat.le_of_ble_eq_true rfl, Nat.le_of_ble_eq_true rfl⟩ dL_removeHat_2 (fun i E9 ce q9 H locs hi hk9 hP hD hS h5 h6 h7 => ?_) (fun H locs hk9 hP hD hS => ?_)
  · have hlt : i < 2 := (List.getElem?_eq_some_iff.mp hi).1
    rcases (show i = 0 ∨ i = 1 by omega) with rfl | rfl
    · cases hi
      refine vx_catch (name := "java/lang/IndexOutOfBoundsException") hown [] ⟨0, 5, 6, 21⟩ [⟨0, 5, 11, 31⟩] htab (fun z hz => by cases hz) rfl (by decide) (hts (.classLink RL 21 "java/lang/IndexOutOfBoundsException") (List.mem_append_right _ (by decide +kernel))) (va_Nw.use rfl (hX.2.2.2.1 "java/lang/IndexOutOfBoundsException" (by decide +kernel))) h5 h6 h7 ?_
      refine lv_astore_n (lv' := [(2, .ref q9), (0, .ref (ad 0)), (1, .int x1)]) hx hb dL_removeHat_6 rfl hl (by decide) rfl (fun ls hl => ?_)
      refine lv_sipush (v := (-1001)) hx hb dL_removeHat_7 (by decide) ?_
      exact vx_ret (W.iret (v := (-1001)) hx hb hr (fun t ht hW => ⟨⟨(-1001), _, rfl, wrp_1 hk9, by rw [ht]; exact hP, va_K.moved hW.alike hK, hD⟩, hS.F ht⟩) hS.2.2 dL_removeHat_10)
    · cases hi
      refine vx_catch (name := "java/util/NoSuchElementException") hown [⟨0, 5, 6, 21⟩] ⟨0, 5, 11, 31⟩ [] htab (fun z hz => Or.inr (by rcases (show z = (⟨0, 5, 6, 21⟩ : ExceptionTableEntry) from by simpa using hz) with rfl <;> first | exact ⟨by decide, "java/lang/IndexOutOfBoundsException", (hts (.classLink RL 21 "java/lang/IndexOutOfBoundsException") (List.mem_append_right _ (by decide +kernel))), hX.2.2.2.2.1 "java/util/NoSuchElementException" (by decide +kernel) "java/lang/IndexOutOfBoundsException" (by decide +kernel) (by decide)⟩)) rfl (by decide) (hts (.classLink RL 31 "java/util/NoSuchElementException") (List.mem_append_right _ (by decide +kernel))) (va_Nw.use rfl (hX.2.2.2.1 "java/util/NoSuchElementException" (by decide +kernel))) h5 h6 h7 ?_
      refine lv_astore_n (lv' := [(2, .ref q9), (0, .ref (ad 0)), (1, .int x1)]) hx hb dL_removeHat_11 rfl hl (by decide) rfl (fun ls hl => ?_)
      refine lv_sipush (v := (-1002)) hx hb dL_removeHat_12 (by decide) ?_
      exact vx_ret (W.iret (v := (-1002)) hx hb hr (fun t ht hW => ⟨⟨(-1002), _, rfl, wrp_2 hk9, by rw [ht]; exact hP, va_K.moved hW.alike hK, hD⟩, hS.F ht⟩) hS.2.2 dL_removeHat_15)
  · exact vx_ret (W.iret hx hb hr (fun t ht hW => ⟨⟨_, _, rfl, wrp_0 hk9, by rw [ht]; exact hP, va_K.moved hW.alike hK, hD⟩, hS.F ht⟩) hS.2.2 dL_removeHat_5)
def wmL_restore : List Cond := wsL_restore ++ lx
set_option maxHeartbeats 4000000 in
set_option maxRecDepth 100000 in
theorem kL_restore (l : Launch) (hfl : l.stackTraces = false) (D : va_G) (ca : Nat → ClassId) (en ks vs : Nat → Nat) (ai : Nat → Nat → Nat) (ad bd : Nat → Nat) (sz : Nat) (u : OS) (hoi : OI u) : LMet l yL_restore wmL_restore ({ frames := 7, cells := 2, slots := 12, locals := 102 }) D ca en ks vs ai ad bd sz u [.ref (ad 0)] (wrp (fX5_restore u)) := by
  unfold LMet
  refine vx_only (vx_ofWH (cc := cL_restore) (maxL := 2) (ret := (some .int)) (hh := [(0, 4, 5, 15)]) (by decide) rfl ?_)
  intro p e s m args below meth c s₁ B hml hv
  obtain ⟨rfl, hsz, hP, hK, hD0, hX⟩ := hv
  have hx := B.exec
  have hb := B.bytes
  have hr := B.returns
  have hts := atoms_spec (ws := wmL_restore) B.pre
  have hown : s.vm.findClass RL = some m.cls := findClass_of_methodNamed B.named
  have htab : c.exceptionTable.toList = tableOf [(0, 4, 5, 15)] := vx_table (x := yL_restore) B (hts (.codeWith yL_restore cL_restore 2 (some .int) [(0, 4, 5, 15)]) List.mem_cons_self)
  subst hsz
  have hD := hD0.self (sz := s.heap.size)
  generalize hAe : va_A (OW ca en ai ad bd u) s.heap.size = A at hD hX ⊢
  have hA : ∀ q : Nat, s.heap.size ≤ q → A q := fun q h => by rw [← hAe]; exact Or.inr h
  have hS : va_S A s.heap s.heap [] := va_S.rf
  refine W_entry (Nat.le_of_ble_eq_true rfl) (fun ls hl => ?_)
  have hl : lv_has ls 2 [(0, .ref (ad 0))] := hl
  refine lv_aload_n hx hb dL_restore_0 rfl (lv_at hl 0 rfl) ?_
  refine hcTo (wr := []) (As := []) (rest := []) ⟨hx, hb, hml, hown, hts⟩ (kX5_restore l hfl D ca en ks vs ai ad bd _ u  hoi ) (cwV 0 hts (good_more gL_restore_X5_restore) rfl rfl rfl (by decide +kernel) ⟨Nat.le_of_ble_eq_true rfl, Nat.le_of_ble_eq_true rfl⟩) hK hP hD hS hA hX (List.Perm.refl _) rfl hl.1 rfl (Nat.le_of_ble_eq_true rfl) ⟨Nat.le_of_ble_eq_true rfl, Nat.le_of_ble_eq_true rfl⟩ dL_restore_1 (fun i E9 ce q9 H locs hi hk9 hP hD hS h5 h6 h7 => ?_) (fun H locs hk9 hP hD hS => ?_)
  · have hlt : i < 1 := (List.getElem?_eq_some_iff.mp hi).1
    rcases (show i = 0 by omega) with rfl
    · cases hi
      refine vx_catch (name := "java/lang/IllegalStateException") hown [] ⟨0, 4, 5, 15⟩ [] htab (fun z hz => by cases hz) rfl (by decide) (hts (.classLink RL 15 "java/lang/IllegalStateException") (List.mem_append_right _ (by decide +kernel))) (va_Nw.use rfl (hX.2.2.2.1 "java/lang/IllegalStateException" (by decide +kernel))) h5 h6 h7 ?_
      refine lv_astore_n (lv' := [(1, .ref q9), (0, .ref (ad 0))]) hx hb dL_restore_5 rfl hl (by decide) rfl (fun ls hl => ?_)
      refine lv_sipush (v := (-1001)) hx hb dL_restore_6 (by decide) ?_
      exact vx_ret (W.iret (v := (-1001)) hx hb hr (fun t ht hW => ⟨⟨(-1001), _, rfl, wrp_1 hk9, by rw [ht]; exact hP, va_K.moved hW.alike hK, hD⟩, hS.F ht⟩) hS.2.2 dL_restore_9)
  · exact vx_ret (W.iret hx hb hr (fun t ht hW => ⟨⟨_, _, rfl, wrp_0 hk9, by rw [ht]; exact hP, va_K.moved hW.alike hK, hD⟩, hS.F ht⟩) hS.2.2 dL_restore_4)
def wmL_run : List Cond := wsL_run ++ lx
set_option maxHeartbeats 4000000 in
set_option maxRecDepth 100000 in
theorem kL_run (l : Launch) (hfl : l.stackTraces = false) (D : va_G) (ca : Nat → ClassId) (en ks vs : Nat → Nat) (ai : Nat → Nat → Nat) (ad bd : Nat → Nat) (sz : Nat) (u : OS) (hoi : OI u) : LMet l yL_run wmL_run ({ frames := 9, cells := 2, slots := 12, locals := 205 }) D ca en ks vs ai ad bd sz u [.ref (ad 0)] (wrp (fX5_run u)) := by
  unfold LMet
  refine vx_only (vx_ofWH (cc := cL_run) (maxL := 2) (ret := (some .int)) (hh := [(0, 4, 5, 13), (0, 4, 10, 15)]) (by decide) rfl ?_)
  intro p e s m args below meth c s₁ B hml hv
  obtain ⟨rfl, hsz, hP, hK, hD0, hX⟩ := hv
  have hx := B.exec
  have hb := B.bytes
  have hr := B.returns
  have hts := atoms_spec (ws := wmL_run) B.pre
  have hown : s.vm.findClass RL = some m.cls := findClass_of_methodNamed B.named
  have htab : c.exceptionTable.toList = tableOf [(0, 4, 5, 13), (0, 4, 10, 15)] := vx_table (x := yL_run) B (hts (.codeWith yL_run cL_run 2 (some .int) [(0, 4, 5, 13), (0, 4, 10, 15)]) List.mem_cons_self)
  subst hsz
  have hD := hD0.self (sz := s.heap.size)
  generalize hAe : va_A (OW ca en ai ad bd u) s.heap.size = A at hD hX ⊢
  have hA : ∀ q : Nat, s.heap.size ≤ q → A q := fun q h => by rw [← hAe]; exact Or.inr h
  have hS : va_S A s.heap s.heap [] := va_S.rf
  refine W_entry (Nat.le_of_ble_eq_true rfl) (fun ls hl => ?_)
  have hl : lv_has ls 2 [(0, .ref (ad 0))] := hl
  refine lv_aload_n hx hb dL_run_0 rfl (lv_at hl 0 rfl) ?_
  refine hcTo (wr := []) (As := []) (rest := []) ⟨hx, hb, hml, hown, hts⟩ (kX5_run l hfl D ca en ks vs ai ad bd _ u  hoi ) (cwV 0 hts (good_more gL_run_X5_run) rfl rfl rfl (by decide +kernel) ⟨Nat.le_of_ble_eq_true rfl, Nat.le_of_ble_eq_true rfl⟩) hK hP hD hS hA hX (List.Perm.refl _) rfl hl.1 rfl (Nat.le_of_ble_eq_true rfl) ⟨Nat.le_of_ble_eq_true rfl, Nat.le_of_ble_eq_true rfl⟩ dL_run_1 (fun i E9 ce q9 H locs hi hk9 hP hD hS h5 h6 h7 => ?_) (fun H locs hk9 hP hD hS => ?_)
  · have hlt : i < 2 := (List.getElem?_eq_some_iff.mp hi).1
    rcases (show i = 0 ∨ i = 1 by omega) with rfl | rfl
    · cases hi
      refine vx_catch (name := "java/lang/IllegalArgumentException") hown [] ⟨0, 4, 5, 13⟩ [⟨0, 4, 10, 15⟩] htab (fun z hz => by cases hz) rfl (by decide) (hts (.classLink RL 13 "java/lang/IllegalArgumentException") (List.mem_append_right _ (by decide +kernel))) (va_Nw.use rfl (hX.2.2.2.1 "java/lang/IllegalArgumentException" (by decide +kernel))) h5 h6 h7 ?_
      refine lv_astore_n (lv' := [(1, .ref q9), (0, .ref (ad 0))]) hx hb dL_run_5 rfl hl (by decide) rfl (fun ls hl => ?_)
      refine lv_sipush (v := (-1001)) hx hb dL_run_6 (by decide) ?_
      exact vx_ret (W.iret (v := (-1001)) hx hb hr (fun t ht hW => ⟨⟨(-1001), _, rfl, wrp_1 hk9, by rw [ht]; exact hP, va_K.moved hW.alike hK, hD⟩, hS.F ht⟩) hS.2.2 dL_run_9)
    · cases hi
      refine vx_catch (name := "java/lang/IllegalStateException") hown [⟨0, 4, 5, 13⟩] ⟨0, 4, 10, 15⟩ [] htab (fun z hz => Or.inr (by rcases (show z = (⟨0, 4, 5, 13⟩ : ExceptionTableEntry) from by simpa using hz) with rfl <;> first | exact ⟨by decide, "java/lang/IllegalArgumentException", (hts (.classLink RL 13 "java/lang/IllegalArgumentException") (List.mem_append_right _ (by decide +kernel))), hX.2.2.2.2.1 "java/lang/IllegalStateException" (by decide +kernel) "java/lang/IllegalArgumentException" (by decide +kernel) (by decide)⟩)) rfl (by decide) (hts (.classLink RL 15 "java/lang/IllegalStateException") (List.mem_append_right _ (by decide +kernel))) (va_Nw.use rfl (hX.2.2.2.1 "java/lang/IllegalStateException" (by decide +kernel))) h5 h6 h7 ?_
      refine lv_astore_n (lv' := [(1, .ref q9), (0, .ref (ad 0))]) hx hb dL_run_10 rfl hl (by decide) rfl (fun ls hl => ?_)
      refine lv_sipush (v := (-1002)) hx hb dL_run_11 (by decide) ?_
      exact vx_ret (W.iret (v := (-1002)) hx hb hr (fun t ht hW => ⟨⟨(-1002), _, rfl, wrp_2 hk9, by rw [ht]; exact hP, va_K.moved hW.alike hK, hD⟩, hS.F ht⟩) hS.2.2 dL_run_14)
  · exact vx_ret (W.iret hx hb hr (fun t ht hW => ⟨⟨_, _, rfl, wrp_0 hk9, by rw [ht]; exact hP, va_K.moved hW.alike hK, hD⟩, hS.F ht⟩) hS.2.2 dL_run_4)
def wmL_sweep : List Cond := wsL_sweep ++ lx
set_option maxHeartbeats 4000000 in
set_option maxRecDepth 100000 in
theorem kL_sweep (l : Launch) (hfl : l.stackTraces = false) (D : va_G) (ca : Nat → ClassId) (en ks vs : Nat → Nat) (ai : Nat → Nat → Nat) (ad bd : Nat → Nat) (sz : Nat) (u : OS) (x1 : Int32) (hoi : OI u) : LMet l yL_sweep wmL_sweep ({ frames := 7, cells := 2, slots := 12, locals := 147 }) D ca en ks vs ai ad bd sz u [.ref (ad 0), .int x1] (wrp (fX5_sweep u x1)) := by
  unfold LMet
  refine vx_only (vx_ofWH (cc := cL_sweep) (maxL := 3) (ret := (some .int)) (hh := [(0, 5, 6, 13)]) (by decide) rfl ?_)
  intro p e s m args below meth c s₁ B hml hv
  obtain ⟨rfl, hsz, hP, hK, hD0, hX⟩ := hv
  have hx := B.exec
  have hb := B.bytes
  have hr := B.returns
  have hts := atoms_spec (ws := wmL_sweep) B.pre
  have hown : s.vm.findClass RL = some m.cls := findClass_of_methodNamed B.named
  have htab : c.exceptionTable.toList = tableOf [(0, 5, 6, 13)] := vx_table (x := yL_sweep) B (hts (.codeWith yL_sweep cL_sweep 3 (some .int) [(0, 5, 6, 13)]) List.mem_cons_self)
  subst hsz
  have hD := hD0.self (sz := s.heap.size)
  generalize hAe : va_A (OW ca en ai ad bd u) s.heap.size = A at hD hX ⊢
  have hA : ∀ q : Nat, s.heap.size ≤ q → A q := fun q h => by rw [← hAe]; exact Or.inr h
  have hS : va_S A s.heap s.heap [] := va_S.rf
  refine W_entry (Nat.le_of_ble_eq_true rfl) (fun ls hl => ?_)
  have hl : lv_has ls 3 [(0, .ref (ad 0)), (1, .int x1)] := hl
  refine lv_aload_n hx hb dL_sweep_0 rfl (lv_at hl 0 rfl) ?_
  refine lv_iload_n hx hb dL_sweep_1 rfl (lv_at hl 1 rfl) ?_
  refine hcTo (wr := []) (As := [.int x1]) (rest := []) ⟨hx, hb, hml, hown, hts⟩ (kX5_sweep l hfl D ca en ks vs ai ad bd _ u x1 hoi ) (cwV 1 hts (good_more gL_sweep_X5_sweep) rfl rfl rfl (by decide +kernel) ⟨Nat.le_of_ble_eq_true rfl, Nat.le_of_ble_eq_true rfl⟩) hK hP hD hS hA hX (List.Perm.refl _) rfl hl.1 rfl (Nat.le_of_ble_eq_true rfl) ⟨Nat.le_of_ble_eq_true rfl, Nat.le_of_ble_eq_true rfl⟩ dL_sweep_2 (fun i E9 ce q9 H locs hi hk9 hP hD hS h5 h6 h7 => ?_) (fun H locs hk9 hP hD hS => ?_)
  · have hlt : i < 1 := (List.getElem?_eq_some_iff.mp hi).1
    rcases (show i = 0 by omega) with rfl
    · cases hi
      refine vx_catch (name := "java/lang/IllegalArgumentException") hown [] ⟨0, 5, 6, 13⟩ [] htab (fun z hz => by cases hz) rfl (by decide) (hts (.classLink RL 13 "java/lang/IllegalArgumentException") (List.mem_append_right _ (by decide +kernel))) (va_Nw.use rfl (hX.2.2.2.1 "java/lang/IllegalArgumentException" (by decide +kernel))) h5 h6 h7 ?_
      refine lv_astore_n (lv' := [(2, .ref q9), (0, .ref (ad 0)), (1, .int x1)]) hx hb dL_sweep_6 rfl hl (by decide) rfl (fun ls hl => ?_)
      refine lv_sipush (v := (-1001)) hx hb dL_sweep_7 (by decide) ?_
      exact vx_ret (W.iret (v := (-1001)) hx hb hr (fun t ht hW => ⟨⟨(-1001), _, rfl, wrp_1 hk9, by rw [ht]; exact hP, va_K.moved hW.alike hK, hD⟩, hS.F ht⟩) hS.2.2 dL_sweep_10)
  · exact vx_ret (W.iret hx hb hr (fun t ht hW => ⟨⟨_, _, rfl, wrp_0 hk9, by rw [ht]; exact hP, va_K.moved hW.alike hK, hD⟩, hS.F ht⟩) hS.2.2 dL_sweep_5)
def wmL_takeCoat : List Cond := wsL_takeCoat ++ lx
set_option maxHeartbeats 4000000 in
set_option maxRecDepth 100000 in
theorem kL_takeCoat (l : Launch) (hfl : l.stackTraces = false) (D : va_G) (ca : Nat → ClassId) (en ks vs : Nat → Nat) (ai : Nat → Nat → Nat) (ad bd : Nat → Nat) (sz : Nat) (u : OS) (x1 : Int32) (hoi : OI u) : LMet l yL_takeCoat wmL_takeCoat ({ frames := 8, cells := 2, slots := 12, locals := 125 }) D ca en ks vs ai ad bd sz u [.ref (ad 0), .int x1] (wrp (fX5_takeCoat u x1)) := by
  unfold LMet
  refine vx_only (vx_ofWH (cc := cL_takeCoat) (maxL := 3) (ret := (some .int)) (hh := [(0, 5, 6, 21), (0, 5, 11, 31)]) (by decide) rfl ?_)
  intro p e s m args below meth c s₁ B hml hv
  obtain ⟨rfl, hsz, hP, hK, hD0, hX⟩ := hv
  have hx := B.exec
  have hb := B.bytes
  have hr := B.returns
  have hts := atoms_spec (ws := wmL_takeCoat) B.pre
  have hown : s.vm.findClass RL = some m.cls := findClass_of_methodNamed B.named
  have htab : c.exceptionTable.toList = tableOf [(0, 5, 6, 21), (0, 5, 11, 31)] := vx_table (x := yL_takeCoat) B (hts (.codeWith yL_takeCoat cL_takeCoat 3 (some .int) [(0, 5, 6, 21), (0, 5, 11, 31)]) List.mem_cons_self)
  subst hsz
  have hD := hD0.self (sz := s.heap.size)
  generalize hAe : va_A (OW ca en ai ad bd u) s.heap.size = A at hD hX ⊢
  have hA : ∀ q : Nat, s.heap.size ≤ q → A q := fun q h => by rw [← hAe]; exact Or.inr h
  have hS : va_S A s.heap s.heap [] := va_S.rf
  refine W_entry (Nat.le_of_ble_eq_true rfl) (fun ls hl => ?_)
  have hl : lv_has ls 3 [(0, .ref (ad 0)), (1, .int x1)] := hl
  refine lv_aload_n hx hb dL_takeCoat_0 rfl (lv_at hl 0 rfl) ?_
  refine lv_iload_n hx hb dL_takeCoat_1 rfl (lv_at hl 1 rfl) ?_
  refine hcTo (wr := []) (As := [.int x1]) (rest := []) ⟨hx, hb, hml, hown, hts⟩ (kX5_takeCoat l hfl D ca en ks vs ai ad bd _ u x1 hoi ) (cwV 1 hts (good_more gL_takeCoat_X5_takeCoat) rfl rfl rfl (by decide +kernel) ⟨Nat.le_of_ble_eq_true rfl, Nat.le_of_ble_eq_true rfl⟩) hK hP hD hS hA hX (List.Perm.refl _) rfl hl.1 rfl (Nat.le_of_ble_eq_true rfl) ⟨Nat.le_of_ble_eq_true rfl, Nat.le_of_ble_eq_true rfl⟩ dL_takeCoat_2 (fun i E9 ce q9 H locs hi hk9 hP hD hS h5 h6 h7 => ?_) (fun H locs hk9 hP hD hS => ?_)
  · have hlt : i < 2 := (List.getElem?_eq_some_iff.mp hi).1
    rcases (show i = 0 ∨ i = 1 by omega) with rfl | rfl
    · cases hi
      refine vx_catch (name := "java/lang/IndexOutOfBoundsException") hown [] ⟨0, 5, 6, 21⟩ [⟨0, 5, 11, 31⟩] htab (fun z hz => by cases hz) rfl (by decide) (hts (.classLink RL 21 "java/lang/IndexOutOfBoundsException") (List.mem_append_right _ (by decide +kernel))) (va_Nw.use rfl (hX.2.2.2.1 "java/lang/IndexOutOfBoundsException" (by decide +kernel))) h5 h6 h7 ?_
      refine lv_astore_n (lv' := [(2, .ref q9), (0, .ref (ad 0)), (1, .int x1)]) hx hb dL_takeCoat_6 rfl hl (by decide) rfl (fun ls hl => ?_)
      refine lv_sipush (v := (-1001)) hx hb dL_takeCoat_7 (by decide) ?_
      exact vx_ret (W.iret (v := (-1001)) hx hb hr (fun t ht hW => ⟨⟨(-1001), _, rfl, wrp_1 hk9, by rw [ht]; exact hP, va_K.moved hW.alike hK, hD⟩, hS.F ht⟩) hS.2.2 dL_takeCoat_10)
    · cases hi
      refine vx_catch (name := "java/util/NoSuchElementException") hown [⟨0, 5, 6, 21⟩] ⟨0, 5, 11, 31⟩ [] htab (fun z hz => Or.inr (by rcases (show z = (⟨0, 5, 6, 21⟩ : ExceptionTableEntry) from by simpa using hz) with rfl <;> first | exact ⟨by decide, "java/lang/IndexOutOfBoundsException", (hts (.classLink RL 21 "java/lang/IndexOutOfBoundsException") (List.mem_append_right _ (by decide +kernel))), hX.2.2.2.2.1 "java/util/NoSuchElementException" (by decide +kernel) "java/lang/IndexOutOfBoundsException" (by decide +kernel) (by decide)⟩)) rfl (by decide) (hts (.classLink RL 31 "java/util/NoSuchElementException") (List.mem_append_right _ (by decide +kernel))) (va_Nw.use rfl (hX.2.2.2.1 "java/util/NoSuchElementException" (by decide +kernel))) h5 h6 h7 ?_
      refine lv_astore_n (lv' := [(2, .ref q9), (0, .ref (ad 0)), (1, .int x1)]) hx hb dL_takeCoat_11 rfl hl (by decide) rfl (fun ls hl => ?_)
      refine lv_sipush (v := (-1002)) hx hb dL_takeCoat_12 (by decide) ?_
      exact vx_ret (W.iret (v := (-1002)) hx hb hr (fun t ht hW => ⟨⟨(-1002), _, rfl, wrp_2 hk9, by rw [ht]; exact hP, va_K.moved hW.alike hK, hD⟩, hS.F ht⟩) hS.2.2 dL_takeCoat_15)
  · exact vx_ret (W.iret hx hb hr (fun t ht hW => ⟨⟨_, _, rfl, wrp_0 hk9, by rw [ht]; exact hP, va_K.moved hW.alike hK, hD⟩, hS.F ht⟩) hS.2.2 dL_takeCoat_5)
def wmL_touchHat : List Cond := wsL_touchHat ++ lx
set_option maxHeartbeats 4000000 in
set_option maxRecDepth 100000 in
theorem kL_touchHat (l : Launch) (hfl : l.stackTraces = false) (D : va_G) (ca : Nat → ClassId) (en ks vs : Nat → Nat) (ai : Nat → Nat → Nat) (ad bd : Nat → Nat) (sz : Nat) (u : OS) (x1 : Int32) (hoi : OI u) : LMet l yL_touchHat wmL_touchHat ({ frames := 8, cells := 2, slots := 12, locals := 125 }) D ca en ks vs ai ad bd sz u [.ref (ad 0), .int x1] (wrp (fX5_touchHat u x1)) := by
  unfold LMet
  refine vx_only (vx_ofWH (cc := cL_touchHat) (maxL := 3) (ret := (some .int)) (hh := [(0, 5, 6, 21), (0, 5, 11, 31)]) (by decide) rfl ?_)
  intro p e s m args below meth c s₁ B hml hv
  obtain ⟨rfl, hsz, hP, hK, hD0, hX⟩ := hv
  have hx := B.exec
  have hb := B.bytes
  have hr := B.returns
  have hts := atoms_spec (ws := wmL_touchHat) B.pre
  have hown : s.vm.findClass RL = some m.cls := findClass_of_methodNamed B.named
  have htab : c.exceptionTable.toList = tableOf [(0, 5, 6, 21), (0, 5, 11, 31)] := vx_table (x := yL_touchHat) B (hts (.codeWith yL_touchHat cL_touchHat 3 (some .int) [(0, 5, 6, 21), (0, 5, 11, 31)]) List.mem_cons_self)
  subst hsz
  have hD := hD0.self (sz := s.heap.size)
  generalize hAe : va_A (OW ca en ai ad bd u) s.heap.size = A at hD hX ⊢
  have hA : ∀ q : Nat, s.heap.size ≤ q → A q := fun q h => by rw [← hAe]; exact Or.inr h
  have hS : va_S A s.heap s.heap [] := va_S.rf
  refine W_entry (Nat.le_of_ble_eq_true rfl) (fun ls hl => ?_)
  have hl : lv_has ls 3 [(0, .ref (ad 0)), (1, .int x1)] := hl
  refine lv_aload_n hx hb dL_touchHat_0 rfl (lv_at hl 0 rfl) ?_
  refine lv_iload_n hx hb dL_touchHat_1 rfl (lv_at hl 1 rfl) ?_
  refine hcTo (wr := []) (As := [.int x1]) (rest := []) ⟨hx, hb, hml, hown, hts⟩ (kX5_touchHat l hfl D ca en ks vs ai ad bd _ u x1 hoi ) (cwV 1 hts (good_more gL_touchHat_X5_touchHat) rfl rfl rfl (by decide +kernel) ⟨Nat.le_of_ble_eq_true rfl, Nat.le_of_ble_eq_true rfl⟩) hK hP hD hS hA hX (List.Perm.refl _) rfl hl.1 rfl (Nat.le_of_ble_eq_true rfl) ⟨Nat.le_of_ble_eq_true rfl, Nat.le_of_ble_eq_true rfl⟩ dL_touchHat_2 (fun i E9 ce q9 H locs hi hk9 hP hD hS h5 h6 h7 => ?_) (fun H locs hk9 hP hD hS => ?_)
  · have hlt : i < 2 := (List.getElem?_eq_some_iff.mp hi).1
    rcases (show i = 0 ∨ i = 1 by omega) with rfl | rfl
    · cases hi
      refine vx_catch (name := "java/lang/IndexOutOfBoundsException") hown [] ⟨0, 5, 6, 21⟩ [⟨0, 5, 11, 31⟩] htab (fun z hz => by cases hz) rfl (by decide) (hts (.classLink RL 21 "java/lang/IndexOutOfBoundsException") (List.mem_append_right _ (by decide +kernel))) (va_Nw.use rfl (hX.2.2.2.1 "java/lang/IndexOutOfBoundsException" (by decide +kernel))) h5 h6 h7 ?_
      refine lv_astore_n (lv' := [(2, .ref q9), (0, .ref (ad 0)), (1, .int x1)]) hx hb dL_touchHat_6 rfl hl (by decide) rfl (fun ls hl => ?_)
      refine lv_sipush (v := (-1001)) hx hb dL_touchHat_7 (by decide) ?_
      exact vx_ret (W.iret (v := (-1001)) hx hb hr (fun t ht hW => ⟨⟨(-1001), _, rfl, wrp_1 hk9, by rw [ht]; exact hP, va_K.moved hW.alike hK, hD⟩, hS.F ht⟩) hS.2.2 dL_touchHat_10)
    · cases hi
      refine vx_catch (name := "java/util/NoSuchElementException") hown [⟨0, 5, 6, 21⟩] ⟨0, 5, 11, 31⟩ [] htab (fun z hz => Or.inr (by rcases (show z = (⟨0, 5, 6, 21⟩ : ExceptionTableEntry) from by simpa using hz) with rfl <;> first | exact ⟨by decide, "java/lang/IndexOutOfBoundsException", (hts (.classLink RL 21 "java/lang/IndexOutOfBoundsException") (List.mem_append_right _ (by decide +kernel))), hX.2.2.2.2.1 "java/util/NoSuchElementException" (by decide +kernel) "java/lang/IndexOutOfBoundsException" (by decide +kernel) (by decide)⟩)) rfl (by decide) (hts (.classLink RL 31 "java/util/NoSuchElementException") (List.mem_append_right _ (by decide +kernel))) (va_Nw.use rfl (hX.2.2.2.1 "java/util/NoSuchElementException" (by decide +kernel))) h5 h6 h7 ?_
      refine lv_astore_n (lv' := [(2, .ref q9), (0, .ref (ad 0)), (1, .int x1)]) hx hb dL_touchHat_11 rfl hl (by decide) rfl (fun ls hl => ?_)
      refine lv_sipush (v := (-1002)) hx hb dL_touchHat_12 (by decide) ?_
      exact vx_ret (W.iret (v := (-1002)) hx hb hr (fun t ht hW => ⟨⟨(-1002), _, rfl, wrp_2 hk9, by rw [ht]; exact hP, va_K.moved hW.alike hK, hD⟩, hS.F ht⟩) hS.2.2 dL_touchHat_15)
  · exact vx_ret (W.iret hx hb hr (fun t ht hW => ⟨⟨_, _, rfl, wrp_0 hk9, by rw [ht]; exact hP, va_K.moved hW.alike hK, hD⟩, hS.F ht⟩) hS.2.2 dL_touchHat_5)
def wmL_undo : List Cond := wsL_undo ++ lx
set_option maxHeartbeats 4000000 in
set_option maxRecDepth 100000 in
theorem kL_undo (l : Launch) (hfl : l.stackTraces = false) (D : va_G) (ca : Nat → ClassId) (en ks vs : Nat → Nat) (ai : Nat → Nat → Nat) (ad bd : Nat → Nat) (sz : Nat) (u : OS) (hoi : OI u) : LMet l yL_undo wmL_undo ({ frames := 7, cells := 2, slots := 12, locals := 102 }) D ca en ks vs ai ad bd sz u [.ref (ad 0)] (wrp (fX5_undo u)) := by
  unfold LMet
  refine vx_only (vx_ofWH (cc := cL_undo) (maxL := 2) (ret := (some .int)) (hh := [(0, 4, 5, 15)]) (by decide) rfl ?_)
  intro p e s m args below meth c s₁ B hml hv
  obtain ⟨rfl, hsz, hP, hK, hD0, hX⟩ := hv
  have hx := B.exec
  have hb := B.bytes
  have hr := B.returns
  have hts := atoms_spec (ws := wmL_undo) B.pre
  have hown : s.vm.findClass RL = some m.cls := findClass_of_methodNamed B.named
  have htab : c.exceptionTable.toList = tableOf [(0, 4, 5, 15)] := vx_table (x := yL_undo) B (hts (.codeWith yL_undo cL_undo 2 (some .int) [(0, 4, 5, 15)]) List.mem_cons_self)
  subst hsz
  have hD := hD0.self (sz := s.heap.size)
  generalize hAe : va_A (OW ca en ai ad bd u) s.heap.size = A at hD hX ⊢
  have hA : ∀ q : Nat, s.heap.size ≤ q → A q := fun q h => by rw [← hAe]; exact Or.inr h
  have hS : va_S A s.heap s.heap [] := va_S.rf
  refine W_entry (Nat.le_of_ble_eq_true rfl) (fun ls hl => ?_)
  have hl : lv_has ls 2 [(0, .ref (ad 0))] := hl
  refine lv_aload_n hx hb dL_undo_0 rfl (lv_at hl 0 rfl) ?_
  refine hcTo (wr := []) (As := []) (rest := []) ⟨hx, hb, hml, hown, hts⟩ (kX5_undo l hfl D ca en ks vs ai ad bd _ u  hoi ) (cwV 0 hts (good_more gL_undo_X5_undo) rfl rfl rfl (by decide +kernel) ⟨Nat.le_of_ble_eq_true rfl, Nat.le_of_ble_eq_true rfl⟩) hK hP hD hS hA hX (List.Perm.refl _) rfl hl.1 rfl (Nat.le_of_ble_eq_true rfl) ⟨Nat.le_of_ble_eq_true rfl, Nat.le_of_ble_eq_true rfl⟩ dL_undo_1 (fun i E9 ce q9 H locs hi hk9 hP hD hS h5 h6 h7 => ?_) (fun H locs hk9 hP hD hS => ?_)
  · have hlt : i < 1 := (List.getElem?_eq_some_iff.mp hi).1
    rcases (show i = 0 by omega) with rfl
    · cases hi
      refine vx_catch (name := "java/lang/IllegalStateException") hown [] ⟨0, 4, 5, 15⟩ [] htab (fun z hz => by cases hz) rfl (by decide) (hts (.classLink RL 15 "java/lang/IllegalStateException") (List.mem_append_right _ (by decide +kernel))) (va_Nw.use rfl (hX.2.2.2.1 "java/lang/IllegalStateException" (by decide +kernel))) h5 h6 h7 ?_
      refine lv_astore_n (lv' := [(1, .ref q9), (0, .ref (ad 0))]) hx hb dL_undo_5 rfl hl (by decide) rfl (fun ls hl => ?_)
      refine lv_sipush (v := (-1001)) hx hb dL_undo_6 (by decide) ?_
      exact vx_ret (W.iret (v := (-1001)) hx hb hr (fun t ht hW => ⟨⟨(-1001), _, rfl, wrp_1 hk9, by rw [ht]; exact hP, va_K.moved hW.alike hK, hD⟩, hS.F ht⟩) hS.2.2 dL_undo_9)
  · exact vx_ret (W.iret hx hb hr (fun t ht hW => ⟨⟨_, _, rfl, wrp_0 hk9, by rw [ht]; exact hP, va_K.moved hW.alike hK, hD⟩, hS.F ht⟩) hS.2.2 dL_undo_4)
def wmL_wouldWin : List Cond := wsL_wouldWin ++ lx
set_option maxHeartbeats 4000000 in
set_option maxRecDepth 100000 in
theorem kL_wouldWin (l : Launch) (hfl : l.stackTraces = false) (D : va_G) (ca : Nat → ClassId) (en ks vs : Nat → Nat) (ai : Nat → Nat → Nat) (ad bd : Nat → Nat) (sz : Nat) (u : OS) (x1 : Int32) (x2 : Int32) (hoi : OI u) (hdead : fX3_refusalOfContest (og0 u) x1 x2 = 1) : LMet l yL_wouldWin wmL_wouldWin ({ frames := 7, cells := 2, slots := 12, locals := 105 }) D ca en ks vs ai ad bd sz u [.ref (ad 0), .int x1, .int x2] (wrb (fX5_wouldWin u x1 x2)) := by
  unfold LMet
  refine vx_only (vx_ofWH (cc := cL_wouldWin) (maxL := 4) (ret := (some .int)) (hh := [(0, 14, 15, 21)]) (by decide) rfl ?_)
  intro p e s m args below meth c s₁ B hml hv
  obtain ⟨rfl, hsz, hP, hK, hD0, hX⟩ := hv
  have hx := B.exec
  have hb := B.bytes
  have hr := B.returns
  have hts := atoms_spec (ws := wmL_wouldWin) B.pre
  have hown : s.vm.findClass RL = some m.cls := findClass_of_methodNamed B.named
  have htab : c.exceptionTable.toList = tableOf [(0, 14, 15, 21)] := vx_table (x := yL_wouldWin) B (hts (.codeWith yL_wouldWin cL_wouldWin 4 (some .int) [(0, 14, 15, 21)]) List.mem_cons_self)
  subst hsz
  have hD := hD0.self (sz := s.heap.size)
  generalize hAe : va_A (OW ca en ai ad bd u) s.heap.size = A at hD hX ⊢
  have hA : ∀ q : Nat, s.heap.size ≤ q → A q := fun q h => by rw [← hAe]; exact Or.inr h
  have hS : va_S A s.heap s.heap [] := va_S.rf
  refine W_entry (Nat.le_of_ble_eq_true rfl) (fun ls hl => ?_)
  have hl : lv_has ls 4 [(0, .ref (ad 0)), (1, .int x1), (2, .int x2)] := hl
  refine lv_aload_n hx hb dL_wouldWin_0 rfl (lv_at hl 0 rfl) ?_
  refine lv_iload_n hx hb dL_wouldWin_1 rfl (lv_at hl 1 rfl) ?_
  refine lv_iload_n hx hb dL_wouldWin_2 rfl (lv_at hl 2 rfl) ?_
  refine hcTo (wr := []) (As := [.int x1, .int x2]) (rest := []) ⟨hx, hb, hml, hown, hts⟩ (kX5_wouldWin l hfl D ca en ks vs ai ad bd _ u x1 x2 hoi hdead) (cwV 2 hts (good_more gL_wouldWin_X5_wouldWin) rfl rfl rfl (by decide +kernel) ⟨Nat.le_of_ble_eq_true rfl, Nat.le_of_ble_eq_true rfl⟩) hK hP hD hS hA hX (List.Perm.refl _) rfl hl.1 rfl (Nat.le_of_ble_eq_true rfl) ⟨Nat.le_of_ble_eq_true rfl, Nat.le_of_ble_eq_true rfl⟩ dL_wouldWin_3 (fun i E9 ce q9 H locs hi hk9 hP hD hS h5 h6 h7 => ?_) (fun H locs hk9 hP hD hS => ?_)
  · have hlt : i < 1 := (List.getElem?_eq_some_iff.mp hi).1
    rcases (show i = 0 by omega) with rfl
    · cases hi
      refine vx_catch (name := "java/lang/IndexOutOfBoundsException") hown [] ⟨0, 14, 15, 21⟩ [] htab (fun z hz => by cases hz) rfl (by decide) (hts (.classLink RL 21 "java/lang/IndexOutOfBoundsException") (List.mem_append_right _ (by decide +kernel))) (va_Nw.use rfl (hX.2.2.2.1 "java/lang/IndexOutOfBoundsException" (by decide +kernel))) h5 h6 h7 ?_
      refine lv_astore_n (lv' := [(3, .ref q9), (0, .ref (ad 0)), (1, .int x1), (2, .int x2)]) hx hb dL_wouldWin_15 rfl hl (by decide) rfl (fun ls hl => ?_)
      refine lv_sipush (v := (-1001)) hx hb dL_wouldWin_16 (by decide) ?_
      exact vx_ret (W.iret (v := (-1001)) hx hb hr (fun t ht hW => ⟨⟨(-1001), _, rfl, wrb_1 hk9, by rw [ht]; exact hP, va_K.moved hW.alike hK, hD⟩, hS.F ht⟩) hS.2.2 dL_wouldWin_19)
  · refine lv_if_eq (tgt := 13) hx hb dL_wouldWin_6 (by decide) (fun c0 => ?_) (fun c0 => ?_)
    · refine lv_iconst (v := 0) hx hb dL_wouldWin_13 (by decide) ?_
      exact vx_ret (W.iret (v := 0) hx hb hr (fun t ht hW => ⟨⟨0, _, rfl, wrb_0 hk9 c0, by rw [ht]; exact hP, va_K.moved hW.alike hK, hD⟩, hS.F ht⟩) hS.2.2 dL_wouldWin_14)
    · refine lv_iconst (v := 1) hx hb dL_wouldWin_9 (by decide) ?_
      refine lv_goto (tgt := 14) hx hb dL_wouldWin_10 (by decide) ?_
      exact vx_ret (W.iret (v := 1) hx hb hr (fun t ht hW => ⟨⟨1, _, rfl, wrb_9 hk9 c0, by rw [ht]; exact hP, va_K.moved hW.alike hK, hD⟩, hS.F ht⟩) hS.2.2 dL_wouldWin_14)
