/-! what stands at the start -/
def FLT : List Cond := flatC (Jvm.Cond.and given_1 narrow_1)
theorem arr_prim {s : State} {args : Array Value} {ty : FieldType} (h : (Cond.arrayClass ty).before args s = true) : ∃ cA, ArrOfT s cA ty ∧ s.vm.findClass ("[" ++ ty.toString) = some cA := by
  obtain ⟨c, k, comp, h1, h2, h3⟩ := Cond.arrayClass_spec h
  exact ⟨c, fun n z => ⟨fun k h => (by cases h), k, h2, comp, h3⟩, h1⟩
theorem arr_obj {s : State} {args : Array Value} {C : String} (h : (Cond.arrayOver (.object C)).before args s = true) : ∃ cA, ArrOfT s cA (.object C) ∧ va_RA s cA (.object C) := by
  obtain ⟨comp, c, k, h1, -, h2, h3, h4⟩ := Cond.arrayOver_spec h
  exact ⟨c, fun n z => ⟨fun k h => (by cases h), k, h2, comp, h3⟩, k, comp, h2, h3, h1, h4⟩
/-- the conjuncts that tell of a text -/
def strB (t : Term) (bs : List Int32) : List Cond := [.exactly t "java/lang/String", .eq (.field t "java/lang/String" "coder" "B") (.int 0), .arrayOf (.field t "java/lang/String" "value" "[B") .byte, .eq (.length (.field t "java/lang/String" "value" "[B")) (.int (Int32.ofNat bs.length))] ++ (List.range bs.length).map (fun j => .eq (.elem (.field t "java/lang/String" "value" "[B") (.int (Int32.ofNat j))) (.int (bs.getD j 0)))
theorem txt_of {s : State} {args : Array Value} {A : Nat → Prop} (hL : ∀ c ∈ FLT, c.before args s = true) (hA : ∀ a : Nat, a < s.heap.size → ¬ A a) (t : Term) (bs : List Int32) (p : Nat) (hn : bs.length < 2 ^ 31) (hp : strB t bs = (FLT.drop p).take (4 + bs.length)) : ∃ a v : Nat, t.eval args s none [] s = some (.ref a) ∧ TX a v bs.length (fun j => bs.getD j 0) A s s.heap := by
  have hm : ∀ c ∈ strB t bs, c.before args s = true := fun c hc => hL c (List.mem_of_mem_drop (List.mem_of_mem_take (by rw [← hp]; exact hc)))
  have h0 : ∀ i, i < 1 → i = 0 := fun i hi => by omega
  obtain ⟨adK, adV, hS, he⟩ := vk_Sof (N := 1) (tm := fun _ => t) (len := [bs.length]) (byt := [bs]) (A := A) (s := s) (args := args) (fun i hi => by rw [h0 i hi]; exact hn) (fun i hi => hm _ (List.mem_append_left _ List.mem_cons_self)) (fun i hi => hm _ (List.mem_append_left _ (List.mem_cons_of_mem _ List.mem_cons_self))) (fun i hi => hm _ (List.mem_append_left _ (List.mem_cons_of_mem _ (List.mem_cons_of_mem _ List.mem_cons_self)))) (fun i hi => by rw [h0 i hi]; exact hm _ (List.mem_append_left _ (List.mem_cons_of_mem _ (List.mem_cons_of_mem _ (List.mem_cons_of_mem _ List.mem_cons_self))))) (fun i hi j hj => by
      rw [h0 i hi] at hj ⊢
      exact hm _ (List.mem_append_right _ (List.mem_map.mpr ⟨j, List.mem_range.mpr hj, rfl⟩))) (fun i j hi hj n => absurd ((h0 i hi).trans (h0 j hj).symm) n) hA
  obtain ⟨h1, h2, h3, h4⟩ := hS.1 0 (by decide)
  exact ⟨adK 0, adV 0, he 0 (by decide), h1, h2, h3, h4⟩
def kSI : List Nat := [141, 147, 150, 153, 156, 159, 162, 165, 168, 171]
def kSO : List Nat := [1409, 1419, 1427, 1436, 1446, 1455, 1465, 1477, 1486, 1496]
def lwO : List Nat := [1273, 1296, 1313, 1336, 1341, 1390]
theorem kw_at : ∀ i, i < 10 → (kWD.getD i []).length < 2 ^ 31 ∧ strB (.string "HatReservations$Command" (kSI.getD i 0)) (kWD.getD i []) = (FLT.drop (kSO.getD i 0)).take (4 + (kWD.getD i []).length) := by decide +kernel
theorem lw_at : ∀ i, i < 6 → (lawB.getD i []).length < 2 ^ 31 ∧ strB (.string RL (lawI.getD i 0)) (lawB.getD i []) = (FLT.drop (lwO.getD i 0)).take (4 + (lawB.getD i []).length) := by decide +kernel
theorem en_1 : ∀ i, i < 10 → (Cond.laysStatic "HatReservations$Command" (kNM.getD i "") "LHatReservations$Command;") ∈ lw_T := by decide +kernel
theorem en_2 : ∀ i, i < 10 → (Cond.exactly (.static "HatReservations$Command" (kNM.getD i "") "LHatReservations$Command;") "HatReservations$Command") ∈ FLT := by decide +kernel
theorem en_3 : ∀ q ∈ kFL, ∀ i, i < 10 → (Cond.eq (.field (.static "HatReservations$Command" (kNM.getD i "") "LHatReservations$Command;") q.1 q.2.1 q.2.2.1) (.int (q.2.2.2.getD i 0))) ∈ FLT := by decide +kernel
theorem en_4 : ∀ i, i < 10 → ∀ j, j < 10 → i ≠ j → (Cond.not (.eq (.static "HatReservations$Command" (kNM.getD i "") "LHatReservations$Command;") (.static "HatReservations$Command" (kNM.getD j "") "LHatReservations$Command;"))) ∈ FLT ∨ (Cond.not (.eq (.static "HatReservations$Command" (kNM.getD j "") "LHatReservations$Command;") (.static "HatReservations$Command" (kNM.getD i "") "LHatReservations$Command;"))) ∈ FLT := by decide +kernel
theorem en_5 : ∀ i, i < 10 → (Cond.eq (.field (.static "HatReservations$Command" (kNM.getD i "") "LHatReservations$Command;") "HatReservations$Command" "keyword" "Ljava/lang/String;") (.string "HatReservations$Command" (kSI.getD i 0))) ∈ FLT := by decide +kernel
theorem en_6 : ∀ j, j < 10 → (Cond.eq (.elem (.static "HatReservations" "COMMANDS" "[LHatReservations$Command;") (.int (Int32.ofNat j))) (.static "HatReservations$Command" (kNM.getD j "") "LHatReservations$Command;")) ∈ FLT := by decide +kernel
theorem en_7 : ∀ j, j < 10 → (Cond.eq (.elem (.static "HatReservations$1" "$SwitchMap$HatReservations$Command" "[I") (.int (Int32.ofNat j))) (.int (kSM.getD j 0))) ∈ FLT := by decide +kernel
theorem en_8 : ∀ j, j < 100 → (Cond.eq (.elem (.static "java/lang/Integer" "DigitOnes" "[B") (.int (Int32.ofNat j))) (.int (digF j))) ∈ FLT := by decide +kernel
theorem hs_1 : ∀ q ∈ hxS, (Cond.stringRef "HatReservations" q.1 q.2) ∈ lw_T ∧ (Cond.exactly (.string "HatReservations" q.1) "java/lang/String") ∈ FLT := by decide +kernel
theorem hs_2 : ∀ E ∈ hxE, (Cond.castable E E) ∈ lw_T := by decide +kernel
theorem hs_3 : ∀ E ∈ hxE, ∀ F ∈ hxE, E ≠ F → (Cond.not (.castable E F)) ∈ FLT := by decide +kernel
theorem lws_1 : ∀ i, i < 6 → (Cond.stringRef RL (lawI.getD i 0) (lawT.getD i "")) ∈ lw_T := by decide +kernel
theorem st_iC : (Cond.initialized "HatReservations$Command") ∈ lw_T := in_1 28 (by decide +kernel)
theorem st_iS : (Cond.initialized "java/lang/String") ∈ lw_T := in_1 36 (by decide +kernel)
theorem st_iP : (Cond.initialized "jdk/internal/util/Preconditions") ∈ lw_T := in_1 38 (by decide +kernel)
theorem st_iH : (Cond.initialized "HatReservations") ∈ lw_T := in_1 23 (by decide +kernel)
theorem st_iM : (Cond.initialized "HatReservations$1") ∈ lw_T := in_1 40 (by decide +kernel)
theorem st_iT : (Cond.initialized "java/lang/Throwable") ∈ lw_T := in_1 29 (by decide +kernel)
theorem st_iD : (Cond.initialized "java/lang/Integer") ∈ lw_T := in_1 54 (by decide +kernel)
theorem st_lS : (Cond.laysStatic "java/lang/String" "COMPACT_STRINGS" "Z") ∈ lw_T := in_1 626 (by decide +kernel)
theorem st_lP : (Cond.laysStatic "jdk/internal/util/Preconditions" "SIOOBE_FORMATTER" "Ljava/util/function/BiFunction;") ∈ lw_T := in_1 642 (by decide +kernel)
theorem st_lC : (Cond.laysStatic "HatReservations" "COMMANDS" "[LHatReservations$Command;") ∈ lw_T := in_1 612 (by decide +kernel)
theorem st_lM : (Cond.laysStatic "HatReservations$1" "$SwitchMap$HatReservations$Command" "[I") ∈ lw_T := in_1 689 (by decide +kernel)
theorem st_lU : (Cond.laysStatic "java/lang/Throwable" "UNASSIGNED_STACK" "[Ljava/lang/StackTraceElement;") ∈ lw_T := in_1 302 (by decide +kernel)
theorem st_lN : (Cond.laysStatic "java/lang/Throwable" "SUPPRESSED_SENTINEL" "Ljava/util/List;") ∈ lw_T := in_1 304 (by decide +kernel)
theorem st_lD : (Cond.laysStatic "java/lang/Integer" "DigitOnes" "[B") ∈ lw_T := in_1 1211 (by decide +kernel)
theorem st_nest : (Cond.fieldLinkNest "HatReservations$CommandText" 68 "HatReservations" "COMMANDS" "[LHatReservations$Command;" "HatReservations") ∈ lw_T := in_1 611 (by decide +kernel)
theorem st_oC : (Cond.arrayOver (.object "HatReservations$Command")) ∈ lw_T := in_1 154 (by decide +kernel)
theorem st_oH : (Cond.arrayOver (.object "HatReservations$Hall")) ∈ lw_T := in_1 134 (by decide +kernel)
theorem st_e1 : (Cond.declares ⟨"java/lang/RuntimeException", "<init>", "(Ljava/lang/String;)V"⟩) ∈ lw_T := in_1 279 (by decide +kernel)
theorem st_e2 : (Cond.declares ⟨"java/lang/Exception", "<init>", "(Ljava/lang/String;)V"⟩) ∈ lw_T := in_1 281 (by decide +kernel)
theorem st_e3 : (Cond.declares ⟨"java/lang/Throwable", "<init>", "(Ljava/lang/String;)V"⟩) ∈ lw_T := in_1 283 (by decide +kernel)
theorem st_cl : (Cond.castable "[B" "java/lang/Cloneable") ∈ lw_T := in_1 1138 (by decide +kernel)
theorem st_n0 : (Cond.instantiable "java/lang/String" 4) ∈ lw_T := in_1 405 (by decide +kernel)
theorem st_n1 : (Cond.instantiable "java/lang/StringBuilder" 4) ∈ lw_T := in_1 1072 (by decide +kernel)
theorem st_n2 : (Cond.instantiable "java/lang/ArrayIndexOutOfBoundsException" 6) ∈ lw_T := in_1 387 (by decide +kernel)
theorem st_n3 : (Cond.instantiable "HatReservations$CommandText" 7) ∈ lw_T := in_1 148 (by decide +kernel)
theorem st_n4 : (Cond.instantiable "HatReservations$Hall" 15) ∈ lw_T := in_1 64 (by decide +kernel)
theorem st_n5 : (Cond.instantiable "HatReservations$History" 3) ∈ lw_T := in_1 128 (by decide +kernel)
theorem st_n6 : (Cond.instantiable "HatReservations" 10) ∈ lw_T := in_1 56 (by decide +kernel)
theorem st_a0 : (Cond.arrayClass .int) ∈ lw_T := in_1 125 (by decide +kernel)
theorem st_a1 : (Cond.arrayClass .long) ∈ lw_T := in_1 126 (by decide +kernel)
theorem st_a2 : (Cond.arrayClass .char) ∈ lw_T := in_1 184 (by decide +kernel)
theorem st_a5 : (Cond.arrayClass .byte) ∈ lw_T := in_1 346 (by decide +kernel)
theorem st_c1 : (Cond.arrayOf (.static "HatReservations" "COMMANDS" "[LHatReservations$Command;") (.object "HatReservations$Command")) ∈ FLT := in_1 14 (by decide +kernel)
theorem st_c2 : (Cond.eq (.length (.static "HatReservations" "COMMANDS" "[LHatReservations$Command;")) (.int 10)) ∈ FLT := in_1 15 (by decide +kernel)
theorem st_m1 : (Cond.arrayOf (.static "HatReservations$1" "$SwitchMap$HatReservations$Command" "[I") .int) ∈ FLT := in_1 33 (by decide +kernel)
theorem st_m2 : (Cond.eq (.length (.static "HatReservations$1" "$SwitchMap$HatReservations$Command" "[I")) (.int 10)) ∈ FLT := in_1 34 (by decide +kernel)
theorem st_d1 : (Cond.arrayOf (.static "java/lang/Integer" "DigitOnes" "[B") .byte) ∈ FLT := in_1 46 (by decide +kernel)
theorem st_d2 : (Cond.eq (.length (.static "java/lang/Integer" "DigitOnes" "[B")) (.int 100)) ∈ FLT := in_1 47 (by decide +kernel)
theorem st_cs : (Cond.eq (.static "java/lang/String" "COMPACT_STRINGS" "Z") (.int 1)) ∈ FLT := in_1 27 (by decide +kernel)
theorem st_ps : (Cond.isRef (.static "jdk/internal/util/Preconditions" "SIOOBE_FORMATTER" "Ljava/util/function/BiFunction;")) ∈ FLT := in_1 28 (by decide +kernel)
theorem st_u : (Cond.isRef (.static "java/lang/Throwable" "UNASSIGNED_STACK" "[Ljava/lang/StackTraceElement;")) ∈ FLT := in_1 10 (by decide +kernel)
theorem st_n : (Cond.isRef (.static "java/lang/Throwable" "SUPPRESSED_SENTINEL" "Ljava/util/List;")) ∈ FLT := in_1 11 (by decide +kernel)
/-- all of it -/
theorem start_of {s : State} {args : Array Value} (hts : ∀ w ∈ lw_T, w.before args s = true) (hL : ∀ c ∈ FLT, c.before args s = true) {A : Nat → Prop} (hA : ∀ a : Nat, a < s.heap.size → ¬ A a) : ∃ (D : va_G) (ca : Nat → ClassId) (en ks vs lk lv : Nat → Nat), va_K D vwCl (TYS ca) s ∧ YX en ks vs lk lv A s s.heap := by
  -- texts
  obtain ⟨kv, hkv⟩ := Classical.axiomOfChoice (show ∀ i : Nat, ∃ q : Nat × Nat, i < 10 → (Term.string "HatReservations$Command" (kSI.getD i 0)).eval args s none [] s = some (.ref q.1) ∧ TX q.1 q.2 (kwL i) (kwF i) A s s.heap from fun i => by
    by_cases hi : i < 10
    · obtain ⟨a, v, h1, h2⟩ := txt_of hL hA _ _ _ (kw_at i hi).1 (kw_at i hi).2
      exact ⟨(a, v), fun _ => ⟨h1, h2⟩⟩
    · exact ⟨(0, 0), fun h => absurd h hi⟩)
  obtain ⟨lkv, hlkv⟩ := Classical.axiomOfChoice (show ∀ i : Nat, ∃ q : Nat × Nat, i < 6 → (Term.string RL (lawI.getD i 0)).eval args s none [] s = some (.ref q.1) ∧ TX q.1 q.2 (lawN i) (lawF i) A s s.heap from fun i => by
    by_cases hi : i < 6
    · obtain ⟨a, v, h1, h2⟩ := txt_of hL hA _ _ _ (lw_at i hi).1 (lw_at i hi).2
      exact ⟨(a, v), fun _ => ⟨h1, h2⟩⟩
    · exact ⟨(0, 0), fun h => absurd h hi⟩)
  -- the constants
  obtain ⟨en, hen, hev⟩ := va_Enof2 (E := "HatReservations$Command") (d := "LHatReservations$Command;") (nm := kNM) (F := kFL) (A := A) (s := s) (args := args) (fun i hi => hts _ (en_1 i hi)) (hts _ st_iC) (fun i hi => hL _ (en_2 i hi)) (fun q hq i hi => hL _ (en_3 q hq i hi)) (fun i j hi hj n => (en_4 i hi j hj n).elim (fun h => Or.inl (hL _ h)) (fun h => Or.inr (hL _ h))) hA
  obtain ⟨tc, htc, htC⟩ := va_Tof (tm := .static "HatReservations" "COMMANDS" "[LHatReservations$Command;") (ty := .object "HatReservations$Command") (N := 10) (f := fun j => .ref (en j)) (A := A) (by decide) (hL _ st_c1) (va_eqt (hL _ st_c2)) (fun j hj => va_eqv (hL _ (en_6 j hj)) (hev j hj)) hA
  obtain ⟨tm, htm, htM⟩ := va_Tof (tm := .static "HatReservations$1" "$SwitchMap$HatReservations$Command" "[I") (ty := .int) (N := 10) (f := fun j => .int (kSM.getD j 0)) (A := A) (by decide) (hL _ st_m1) (va_eqt (hL _ st_m2)) (fun j hj => va_eqt (hL _ (en_7 j hj))) hA
  obtain ⟨td, htd, htD⟩ := va_Tof (tm := .static "java/lang/Integer" "DigitOnes" "[B") (ty := .byte) (N := 100) (f := fun j => .int (digF j)) (A := A) (by decide) (hL _ st_d1) (va_eqt (hL _ st_d2)) (fun j hj => va_eqt (hL _ (en_8 j hj))) hA
  have hXS : XS A s s.heap := ⟨va_Zof (hts _ st_lS) (hts _ st_iS) (va_eqi (hL _ st_cs)) hA, va_Zqof (hts _ st_lP) (hts _ st_iP) (hL _ st_ps) hA⟩
  have hKX : KX en (fun i => (kv i).1) (fun i => (kv i).2) A s s.heap := ⟨hXS, hen, fun i hi => ⟨vk_OFof (hev i hi) (va_eqv (hL _ (en_5 i hi)) (hkv i hi).1) hA, (hkv i hi).2⟩, ⟨tc, va_Zref (hts _ st_lC) (hts _ st_iH) htc hA, htC⟩, ⟨tm, va_Zref (hts _ st_lM) (hts _ st_iM) htm hA, htM⟩, va_Nw.of rfl (hts _ st_nest)⟩
  have hHX : HX en (fun i => (kv i).1) (fun i => (kv i).2) A s s.heap := ⟨hKX, ⟨va_AO.of (hts _ st_oC), va_AO.of (hts _ st_oH)⟩, fun q hq => by
      obtain ⟨a2, c, cA, kA, q1, -⟩ := Cond.exactly_spec (args := args) (first := s) (o := none) (s := s) (idx := []) (hL _ (hs_1 q hq).2)
      exact ⟨a2, vk_R.of (hts _ (hs_1 q hq).1) q1⟩, fun E hE => va_Nw.of rfl (hts _ (hs_2 E hE)), fun E hE F hF n => va_Nc.of (hL _ (hs_3 E hE F hF n)), vx_Zqof (hts _ st_lU) (hts _ st_iT) (hL _ st_u) hA, vx_Zqof (hts _ st_lN) (hts _ st_iT) (hL _ st_n) hA, va_Nw.of rfl (hts _ st_e1), va_Nw.of rfl (hts _ st_e2), va_Nw.of rfl (hts _ st_e3)⟩
  have hYX : YX en (fun i => (kv i).1) (fun i => (kv i).2) (fun i => (lkv i).1) (fun i => (lkv i).2) A s s.heap := ⟨hHX, fun i hi => ⟨vk_R.of (hts _ (lws_1 i hi)) (hlkv i hi).1, (hlkv i hi).2⟩, ⟨td, va_Zref (hts _ st_lD) (hts _ st_iD) htd hA, htD⟩, va_Nw.of rfl (hts _ st_cl)⟩
  -- the classes
  obtain ⟨c0, i0, k0⟩ := u_known (C := RJ0) (T := TJ0) (N := 4) (n := 4) hts inT_wsJ00 (hts _ st_n0)
  obtain ⟨c1, i1, k1⟩ := u_known (C := RJ4) (T := TJ4) (N := 4) (n := 4) hts inT_wsJ40 (hts _ st_n1)
  obtain ⟨c3, i3, k3⟩ := u_known (C := RX2) (T := TX2) (N := 7) (n := 7) hts inT_wsX20 (hts _ st_n3)
  obtain ⟨c4, i4, k4⟩ := u_known (C := RX3) (T := TX3) (N := 15) (n := 15) hts inT_wsX30 (hts _ st_n4)
  obtain ⟨c5, i5, k5⟩ := u_known (C := RX4) (T := TX4) (N := 3) (n := 3) hts inT_wsX40 (hts _ st_n5)
  obtain ⟨c6, i6, k6⟩ := u_known (C := RX5) (T := TX5) (N := 10) (n := 10) hts inT_wsX50 (hts _ st_n6)
  obtain ⟨c2, i2, k2⟩ := u_known (C := RJx00060) (T := TJx00060) (N := 6) (n := 6) hts inT_wsJx000600 (hts _ st_n2)
  obtain ⟨a0, A0, B0⟩ := arr_prim (hts _ st_a0)
  obtain ⟨a1, A1, B1⟩ := arr_prim (hts _ st_a1)
  obtain ⟨a2, A2, B2⟩ := arr_prim (hts _ st_a2)
  obtain ⟨a3, A3, B3⟩ := arr_obj (hts _ st_oH)
  obtain ⟨a4, A4, B4⟩ := arr_obj (hts _ st_oC)
  obtain ⟨a5, A5, B5⟩ := arr_prim (hts _ st_a5)
  refine ⟨(fun k => match k with | 0 => c0 | 1 => c1 | 2 => c2 | 3 => c3 | 4 => c4 | 5 => c5 | _ => c6, fun k => match k with | 0 => i0 | 1 => i1 | 2 => i2 | 3 => i3 | 4 => i4 | 5 => i5 | _ => i6), (fun k => match k with | 0 => a0 | 1 => a1 | 2 => a2 | 3 => a3 | 4 => a4 | _ => a5), en, _, _, _, _, ⟨fun k q hq => ?_, fun k q hq => ?_⟩, hYX⟩
  · match k, hq with
    | 0, hq => cases hq; exact k0
    | 1, hq => cases hq; exact k1
    | 2, hq => cases hq; exact k2
    | 3, hq => cases hq; exact k3
    | 4, hq => cases hq; exact k4
    | 5, hq => cases hq; exact k5
    | 6, hq => cases hq; exact k6
    | k + 7, hq => simp [vwCl] at hq
  · match k, hq with
    | 0, hq => cases hq; exact ⟨A0, B0⟩
    | 1, hq => cases hq; exact ⟨A1, B1⟩
    | 2, hq => cases hq; exact ⟨A2, B2⟩
    | 3, hq => cases hq; exact ⟨A3, B3⟩
    | 4, hq => cases hq; exact ⟨A4, B4⟩
    | 5, hq => cases hq; exact ⟨A5, B5⟩
    | k + 6, hq => simp [TYS] at hq
theorem whole_start {p : Program} {e : Env} {s : State} {m : MethodId} {below : List Frame} {meth : Method} {c : Code} (l : Launch) (hflags : l.flags = flags0) {b L : Nat} {xs : Nat → Int32} (hL : L ≤ 260) (C0 : lw_At p s m meth c b L xs) : W p l e room_1 s m #[Value.ref b] below meth c s.heap [] 0 0 (lw_Z below #[Value.ref b] s) (entryFrame m ([Value.ref b] : List Value).toArray 11) := by
  obtain ⟨hx, hb, hr, hml, hown, hts0, hXb, hbl, hlocks, hgv⟩ := C0
  have hts := hts_T hts0
  have hfl : l.stackTraces = false := by unfold Launch.stackTraces; rw [hflags]; decide +kernel
  have hA : ∀ a : Nat, a < s.heap.size → ¬ (fun q : Nat => s.heap.size ≤ q) a := fun a h => Nat.not_le.mpr h
  obtain ⟨D, ca, en, ks, vs, lk, lv, hK, hY⟩ := start_of (A := fun q : Nat => s.heap.size ≤ q) hts (flat_of_before _ hgv) hA
  exact law_main l hfl hL hx hb hr hml hown hts hlocks hK rfl hY.1 hY ⟨hXb, hA b hbl⟩
