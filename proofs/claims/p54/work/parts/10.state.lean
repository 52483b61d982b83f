/-! the state of a hall: eight rows, seven numbers -/
abbrev HS : Type := (Nat → Int32) × (Nat → Int32) × (Nat → Int32) × (Nat → Int32) × (Nat → Int64) × (Nat → Int32) × (Nat → Int32) × (Nat → Int32) × Int32 × Int32 × Int32 × Int32 × Int32 × Int32 × Int32
abbrev h0 (u : HS) : Nat → Int32 := u.1
abbrev h1 (u : HS) : Nat → Int32 := u.2.1
abbrev h2 (u : HS) : Nat → Int32 := u.2.2.1
abbrev h3 (u : HS) : Nat → Int32 := u.2.2.2.1
abbrev h4 (u : HS) : Nat → Int64 := u.2.2.2.2.1
abbrev h5 (u : HS) : Nat → Int32 := u.2.2.2.2.2.1
abbrev h6 (u : HS) : Nat → Int32 := u.2.2.2.2.2.2.1
abbrev h7 (u : HS) : Nat → Int32 := u.2.2.2.2.2.2.2.1
abbrev h8 (u : HS) : Int32 := u.2.2.2.2.2.2.2.2.1
abbrev h9 (u : HS) : Int32 := u.2.2.2.2.2.2.2.2.2.1
abbrev h10 (u : HS) : Int32 := u.2.2.2.2.2.2.2.2.2.2.1
abbrev h11 (u : HS) : Int32 := u.2.2.2.2.2.2.2.2.2.2.2.1
abbrev h12 (u : HS) : Int32 := u.2.2.2.2.2.2.2.2.2.2.2.2.1
abbrev h13 (u : HS) : Int32 := u.2.2.2.2.2.2.2.2.2.2.2.2.2.1
abbrev h14 (u : HS) : Int32 := u.2.2.2.2.2.2.2.2.2.2.2.2.2.2
abbrev s0 (x : Nat → Int32) (u : HS) : HS := (x, u.2)
abbrev s1 (x : Nat → Int32) (u : HS) : HS := (h0 u, x, u.2.2)
abbrev s2 (x : Nat → Int32) (u : HS) : HS := (h0 u, h1 u, x, u.2.2.2)
abbrev s3 (x : Nat → Int32) (u : HS) : HS := (h0 u, h1 u, h2 u, x, u.2.2.2.2)
abbrev s4 (x : Nat → Int64) (u : HS) : HS := (h0 u, h1 u, h2 u, h3 u, x, u.2.2.2.2.2)
abbrev s5 (x : Nat → Int32) (u : HS) : HS := (h0 u, h1 u, h2 u, h3 u, h4 u, x, u.2.2.2.2.2.2)
abbrev s6 (x : Nat → Int32) (u : HS) : HS := (h0 u, h1 u, h2 u, h3 u, h4 u, h5 u, x, u.2.2.2.2.2.2.2)
abbrev s7 (x : Nat → Int32) (u : HS) : HS := (h0 u, h1 u, h2 u, h3 u, h4 u, h5 u, h6 u, x, u.2.2.2.2.2.2.2.2)
abbrev s8 (x : Int32) (u : HS) : HS := (h0 u, h1 u, h2 u, h3 u, h4 u, h5 u, h6 u, h7 u, x, u.2.2.2.2.2.2.2.2.2)
abbrev s9 (x : Int32) (u : HS) : HS := (h0 u, h1 u, h2 u, h3 u, h4 u, h5 u, h6 u, h7 u, h8 u, x, u.2.2.2.2.2.2.2.2.2.2)
abbrev s10 (x : Int32) (u : HS) : HS := (h0 u, h1 u, h2 u, h3 u, h4 u, h5 u, h6 u, h7 u, h8 u, h9 u, x, u.2.2.2.2.2.2.2.2.2.2.2)
abbrev s11 (x : Int32) (u : HS) : HS := (h0 u, h1 u, h2 u, h3 u, h4 u, h5 u, h6 u, h7 u, h8 u, h9 u, h10 u, x, u.2.2.2.2.2.2.2.2.2.2.2.2)
abbrev s12 (x : Int32) (u : HS) : HS := (h0 u, h1 u, h2 u, h3 u, h4 u, h5 u, h6 u, h7 u, h8 u, h9 u, h10 u, h11 u, x, u.2.2.2.2.2.2.2.2.2.2.2.2.2)
abbrev s13 (x : Int32) (u : HS) : HS := (h0 u, h1 u, h2 u, h3 u, h4 u, h5 u, h6 u, h7 u, h8 u, h9 u, h10 u, h11 u, h12 u, x, u.2.2.2.2.2.2.2.2.2.2.2.2.2.2)
abbrev s14 (x : Int32) (u : HS) : HS := (h0 u, h1 u, h2 u, h3 u, h4 u, h5 u, h6 u, h7 u, h8 u, h9 u, h10 u, h11 u, h12 u, h13 u, x)
/-- the array classes -/
def TYS (ca : Nat → ClassId) : List (ClassId × FieldType) := [(ca 0, .int), (ca 1, .long), (ca 2, .char), (ca 3, .object "HatReservations$Hall"), (ca 4, .object "HatReservations$Command"), (ca 5, .byte)]
/-- the cells of a hall: the object at a 8, its rows at a 0 .. a 7 -/
def HW (ca : Nat → ClassId) (a : Nat → Nat) (u : HS) : va_W := [(a 8, .inr (4, [.ref (a 0), .ref (a 1), .ref (a 2), .ref (a 3), .ref (a 4), .ref (a 5), .ref (a 6), .ref (a 7), .int (h8 u), .int (h9 u), .int (h10 u), .int (h11 u), .int (h12 u), .int (h13 u), .int (h14 u)])), (a 0, .inl (ca 0, 8, .inl (h0 u))), (a 1, .inl (ca 0, 8, .inl (h1 u))), (a 2, .inl (ca 0, 8, .inl (h2 u))), (a 3, .inl (ca 0, 8, .inl (h3 u))), (a 4, .inl (ca 1, 8, .inr (.inl (h4 u)))), (a 5, .inl (ca 0, 8, .inl (h5 u))), (a 6, .inl (ca 0, 8, .inl (h6 u))), (a 7, .inl (ca 0, 8, .inl (h7 u)))]
/-! worlds as sets of cells -/
theorem P_iff {D : va_G} {cl : List vw_C} {ws : va_W} {H : Heap} : va_P D cl ws H ↔ ∀ q ∈ ws, va_at D cl q H :=
  ⟨fun h q hq => by obtain ⟨i, hi⟩ := List.getElem?_of_mem hq; exact h i q hi, fun h k q hk => h q (List.mem_of_getElem? hk)⟩
theorem D_iff {A : Nat → Prop} {ws : va_W} : va_D A ws ↔ (ws.map Prod.fst).Nodup ∧ ∀ q ∈ ws, A q.1 := by
  constructor
  · intro h
    refine ⟨?_, fun q hq => by obtain ⟨i, hi⟩ := List.getElem?_of_mem hq; exact h.2 i q hi⟩
    rw [List.Nodup, List.pairwise_iff_getElem]
    intro i j hi hj hij he
    rw [List.length_map] at hi hj
    rw [List.getElem_map, List.getElem_map] at he
    have := h.1 i j ws[i] ws[j] (List.getElem?_eq_getElem hi) (List.getElem?_eq_getElem hj) he
    omega
  · rintro ⟨h1, h2⟩
    refine ⟨fun i j p q hp hq he => ?_, fun k q hk => h2 q (List.mem_of_getElem? hk)⟩
    obtain ⟨hi, ei⟩ := List.getElem?_eq_some_iff.mp hp
    obtain ⟨hj, ej⟩ := List.getElem?_eq_some_iff.mp hq
    rw [List.Nodup, List.pairwise_iff_getElem] at h1
    rcases Nat.lt_trichotomy i j with h | h | h
    · exact absurd (by rw [List.getElem_map, List.getElem_map, ei, ej]; exact he) (h1 i j (by rw [List.length_map]; exact hi) (by rw [List.length_map]; exact hj) h)
    · exact h
    · exact absurd (by rw [List.getElem_map, List.getElem_map, ei, ej]; exact he.symm) (h1 j i (by rw [List.length_map]; exact hj) (by rw [List.length_map]; exact hi) h)
theorem P_perm {D : va_G} {cl : List vw_C} {w1 w2 : va_W} {H : Heap} (h : w1.Perm w2) (hP : va_P D cl w1 H) : va_P D cl w2 H :=
  P_iff.mpr fun q hq => P_iff.mp hP q (h.mem_iff.mpr hq)
theorem D_perm {A : Nat → Prop} {w1 w2 : va_W} (h : w1.Perm w2) (hD : va_D A w1) : va_D A w2 := by
  obtain ⟨h1, h2⟩ := D_iff.mp hD
  exact D_iff.mpr ⟨(h.map Prod.fst).nodup_iff.mp h1, fun q hq => h2 q (h.mem_iff.mpr hq)⟩
theorem P_left {D : va_G} {cl : List vw_C} {w1 w2 : va_W} {H : Heap} (h : va_P D cl (w1 ++ w2) H) : va_P D cl w1 H := P_iff.mpr fun q hq => P_iff.mp h q (List.mem_append_left _ hq)
theorem P_right {D : va_G} {cl : List vw_C} {w1 w2 : va_W} {H : Heap} (h : va_P D cl (w1 ++ w2) H) : va_P D cl w2 H := P_iff.mpr fun q hq => P_iff.mp h q (List.mem_append_right _ hq)
theorem D_left {A : Nat → Prop} {w1 w2 : va_W} (h : va_D A (w1 ++ w2)) : va_D A w1 := by
  obtain ⟨h1, h2⟩ := D_iff.mp h
  rw [List.map_append] at h1
  exact D_iff.mpr ⟨(List.nodup_append.mp h1).1, fun q hq => h2 q (List.mem_append_left _ hq)⟩
theorem D_right {A : Nat → Prop} {w1 w2 : va_W} (h : va_D A (w1 ++ w2)) : va_D A w2 := by
  obtain ⟨h1, h2⟩ := D_iff.mp h
  rw [List.map_append] at h1
  exact D_iff.mpr ⟨(List.nodup_append.mp h1).2.1, fun q hq => h2 q (List.mem_append_right _ hq)⟩
theorem A_iff {ws : va_W} {sz q : Nat} : va_A ws sz q ↔ (∃ c ∈ ws, c.1 = q) ∨ sz ≤ q := by
  constructor
  · rintro (⟨k, e, h⟩ | h)
    · exact Or.inl ⟨(q, e), List.mem_of_getElem? h, rfl⟩
    · exact Or.inr h
  · rintro (⟨c, h, rfl⟩ | h)
    · obtain ⟨i, hi⟩ := List.getElem?_of_mem h
      exact Or.inl ⟨i, c.2, hi⟩
    · exact Or.inr h
/-- behind a call: the rest beside what came back -/
theorem J_join {A0 : Nat → Prop} {D : va_G} {cl : List vw_C} {ws wc wr w1 : va_W} {H H1 : Heap} (hperm : ws.Perm (wr ++ wc)) (hP : va_P D cl ws H) (hD : va_D A0 ws)
    (hk : ∀ q : Nat, q < H.size → ¬ va_A wc H.size q → H1[q]? = H[q]?) (hF : ∀ q, va_A wc H.size q → A0 q) (hP1 : va_P D cl w1 H1) (hD1 : va_D (va_A wc H.size) w1) : va_P D cl (wr ++ w1) H1 ∧ va_D A0 (wr ++ w1) := by
  have hP' := P_perm hperm hP
  have hD' := D_perm hperm hD
  obtain ⟨n1, n2⟩ := D_iff.mp hD'
  rw [List.map_append] at n1
  have n3 := (List.nodup_append.mp n1).2.2
  have apart : ∀ q ∈ wr, q.1 < H.size ∧ ¬ va_A wc H.size q.1 := by
    intro q hq
    have hl := (P_iff.mp hP' q (List.mem_append_left _ hq)).lt
    refine ⟨hl, fun h => ?_⟩
    rcases A_iff.mp h with ⟨c, hc, e⟩ | h
    · exact n3 q.1 (List.mem_map.mpr ⟨q, hq, rfl⟩) c.1 (List.mem_map.mpr ⟨c, hc, rfl⟩) e.symm
    · omega
  obtain ⟨m1, m2⟩ := D_iff.mp hD1
  refine ⟨P_iff.mpr fun q hq => ?_, D_iff.mpr ⟨?_, fun q hq => ?_⟩⟩
  · rcases List.mem_append.mp hq with h | h
    · obtain ⟨g1, g2⟩ := apart q h
      exact (P_iff.mp hP' q (List.mem_append_left _ h)).kept (hk q.1 g1 g2)
    · exact P_iff.mp hP1 q h
  · rw [List.map_append]
    refine List.nodup_append.mpr ⟨(List.nodup_append.mp n1).1, m1, fun a ha b hb e => ?_⟩
    obtain ⟨q, hq, rfl⟩ := List.mem_map.mp ha
    obtain ⟨c, hc, rfl⟩ := List.mem_map.mp hb
    exact (apart q hq).2 (by rw [e]; exact m2 c hc)
  · rcases List.mem_append.mp hq with h | h
    · exact n2 q (List.mem_append_left _ h)
    · exact hF q.1 (m2 q h)
/-! contracts' starts and ends -/
def RPc (D : va_G) (ca : Nat → ClassId) (ws : va_W) (av : List Value) : Array Value → State → Prop := va_Pc av (fun U => va_P D vwCl ws U.heap ∧ va_K D vwCl (TYS ca) U)
def MPc (D : va_G) (ca : Nat → ClassId) (sz : Nat) (ws : va_W) (av : List Value) : Array Value → State → Prop := va_Pc av (fun U => U.heap.size = sz ∧ va_P D vwCl ws U.heap ∧ va_K D vwCl (TYS ca) U ∧ va_D (fun _ => True) ws)
def MB {S : Type} (D : va_G) (ca : Nat → ClassId) (A : Nat → Prop) (f : S → va_W) : S → State → Prop := fun u t => va_P D vwCl (f u) t.heap ∧ va_K D vwCl (TYS ca) t ∧ va_D A (f u)
theorem RPc_blind {D : va_G} {ca : Nat → ClassId} {ws : va_W} {av : List Value} : FrameBlind (RPc D ca ws av) := fun a U g mk q => by
  obtain ⟨q0, qP, qK⟩ := q
  exact ⟨q0, qP, va_K.moved (u := U) (U := U.calling g mk a) (Vm.Alike.refl U.vm) qK⟩
theorem MPc_blind {D : va_G} {ca : Nat → ClassId} {sz : Nat} {ws : va_W} {av : List Value} : FrameBlind (MPc D ca sz ws av) := fun a U g mk q => by
  obtain ⟨q0, q1, qP, qK, qD⟩ := q
  exact ⟨q0, q1, qP, va_K.moved (u := U) (U := U.calling g mk a) (Vm.Alike.refl U.vm) qK, qD⟩
section CALLS
variable {p : Program} {l : Launch} {e : Env} {R : Room} {s : State} {m : MethodId} {args : Array Value} {below : List Frame} {meth : Method} {c : Code} {H : Heap} {locs : List Loc} {cells slots : Nat} {Q : State → Prop}
variable {D : va_G} {ca : Nat → ClassId} {ws wc wr : va_W} {As rest st0 : List Value} {index n pc nL maxL mc ms b N : Nat} {y : MethodName} {bytes cc : ByteArray} {ret : Option FieldType} {wsy Ts : List Cond} {rm : Room} {own C : String} {T : u_T} {fs : List Value} {ls : Array Slot} {A0 : Nat → Prop} {H0 : Heap}
theorem P_recv (hK : va_K D vwCl (TYS ca) s) (hP : va_P D vwCl ws H) {ci : Nat} {q0 : Nat} (he : ws[q0]? = some (b, .inr (ci, fs))) (hc : vwCl[ci]? = some (C, T, N)) : ∃ cellB : Cell, H[b]? = some cellB ∧ cellB.vm.isStatics = false ∧ s.vm.findClass C = some cellB.cls := va_recv (q := (C, T, N)) hK hP hc he
/-- reading calls: the heap stays -/
theorem hcRi {v : Int32} (q0 ci : Nat) (S : CallFix p m c cc nL s args Ts own) (hM : Met l y wsy rm (RPc D ca wc (.ref b :: As)) (vp_Si (fun r => r = v)) 0 0 (fun _ => False)) (cw : CallW R s args own C index y bytes maxL ret wsy rm 0 0 n) (hK : va_K D vwCl (TYS ca) s) (hP : va_P D vwCl wc H) (he : wc[q0]? = some (b, .inr (ci, fs))) (hc : vwCl[ci]? = some (C, T, N)) (hn : As.length = n) (hsize : ls.size = nL) (hst : st0 = As.reverse ++ .ref b :: rest) (hW : (rest.map fun v => v.category).sum ≤ 8) (hf : cells ≤ R.cells ∧ slots ≤ R.slots) (hdg : decode cc pc = .ok (.invokevirtual index, 3))
    (kk : W p l e R s m args below meth c H locs cells slots Q (F0 m (pc + 3) ls (.int v :: rest))) : W p l e R s m args below meth c H locs cells slots Q (F0 m pc ls st0) :=
  vp_callSi (W.runV S hM cw ⟨RPc_blind, P_recv hK hP he hc, fun U hU hW => ⟨rfl, by rw [hU]; exact hP, va_K.moved hW.alike hK⟩⟩ rfl hn hsize hst (lv_room hW) hdg hf) (fun r h => by cases h; exact kk)
theorem hcRl {v : Int64} (q0 ci : Nat) (S : CallFix p m c cc nL s args Ts own) (hM : Met l y wsy rm (RPc D ca wc (.ref b :: As)) (vp_Sl (fun r => r = v)) 0 0 (fun _ => False)) (cw : CallW R s args own C index y bytes maxL ret wsy rm 0 0 n) (hK : va_K D vwCl (TYS ca) s) (hP : va_P D vwCl wc H) (he : wc[q0]? = some (b, .inr (ci, fs))) (hc : vwCl[ci]? = some (C, T, N)) (hn : As.length = n) (hsize : ls.size = nL) (hst : st0 = As.reverse ++ .ref b :: rest) (hW : (rest.map fun v => v.category).sum ≤ 8) (hf : cells ≤ R.cells ∧ slots ≤ R.slots) (hdg : decode cc pc = .ok (.invokevirtual index, 3))
    (kk : W p l e R s m args below meth c H locs cells slots Q (F0 m (pc + 3) ls (.long v :: rest))) : W p l e R s m args below meth c H locs cells slots Q (F0 m pc ls st0) :=
  vp_callSl (W.runV S hM cw ⟨RPc_blind, P_recv hK hP he hc, fun U hU hW => ⟨rfl, by rw [hU]; exact hP, va_K.moved hW.alike hK⟩⟩ rfl hn hsize hst (lv_room hW) hdg hf) (fun r h => by cases h; exact kk)
/-- static reading calls -/
theorem hcSi {v : Int32} (S : CallFix p m c cc nL s args Ts own) (hM : Met l y wsy rm (va_Pc As (fun _ => True)) (vp_Si (fun r => r = v)) 0 0 (fun _ => False)) (cw : CallB R s args own index y bytes maxL ret wsy rm 0 0 n ∧ (Cond.static y).before args s = true) (hn : As.length = n) (hsize : ls.size = nL) (hst : st0 = As.reverse ++ rest) (hW : (rest.map fun v => v.category).sum ≤ 8) (hf : cells ≤ R.cells ∧ slots ≤ R.slots) (hdg : decode cc pc = .ok (.invokestatic index, 3))
    (kk : W p l e R s m args below meth c H locs cells slots Q (F0 m (pc + 3) ls (.int v :: rest))) : W p l e R s m args below meth c H locs cells slots Q (F0 m pc ls st0) :=
  vp_callSi (W.runS S hM cw ⟨fun _ _ _ _ q => ⟨q.1, trivial⟩, fun U hU hW => ⟨rfl, trivial⟩⟩ rfl hn hsize hst (lv_room hW) hdg hf) (fun r h => by cases h; exact kk)
theorem hcSl {v : Int64} (S : CallFix p m c cc nL s args Ts own) (hM : Met l y wsy rm (va_Pc As (fun _ => True)) (vp_Sl (fun r => r = v)) 0 0 (fun _ => False)) (cw : CallB R s args own index y bytes maxL ret wsy rm 0 0 n ∧ (Cond.static y).before args s = true) (hn : As.length = n) (hsize : ls.size = nL) (hst : st0 = As.reverse ++ rest) (hW : (rest.map fun v => v.category).sum ≤ 8) (hf : cells ≤ R.cells ∧ slots ≤ R.slots) (hdg : decode cc pc = .ok (.invokestatic index, 3))
    (kk : W p l e R s m args below meth c H locs cells slots Q (F0 m (pc + 3) ls (.long v :: rest))) : W p l e R s m args below meth c H locs cells slots Q (F0 m pc ls st0) :=
  vp_callSl (W.runS S hM cw ⟨fun _ _ _ _ q => ⟨q.1, trivial⟩, fun U hU hW => ⟨rfl, trivial⟩⟩ rfl hn hsize hst (lv_room hW) hdg hf) (fun r h => by cases h; exact kk)
theorem J_free (hperm : ws.Perm (wr ++ wc)) (hD : va_D A0 ws) (hS : va_S A0 H0 H locs) (hA : ∀ q, H0.size ≤ q → A0 q) : ∀ q, va_A wc H.size q → A0 q := by
  intro q h
  rcases A_iff.mp h with ⟨k, hk, rfl⟩ | h
  · exact (D_iff.mp (D_perm hperm hD)).2 k (List.mem_append_right _ hk)
  · exact hA q (Nat.le_trans hS.1 h)
theorem hcMi {S0 : Type} {f : S0 → va_W} {F : Int32 × S0} (q0 ci : Nat) (S : CallFix p m c cc nL s args Ts own) (hM : Met l y wsy rm (MPc D ca H.size wc (.ref b :: As)) (va_Qi (fun r v => (r, v) = F) (MB D ca (va_A wc H.size) f) (va_A wc H.size)) mc ms (va_A wc H.size)) (cw : CallW R s args own C index y bytes maxL ret wsy rm mc ms n) (hK : va_K D vwCl (TYS ca) s) (hP : va_P D vwCl ws H) (hD : va_D A0 ws) (hS : va_S A0 H0 H locs) (hA : ∀ q, H0.size ≤ q → A0 q) (hperm : ws.Perm (wr ++ wc)) (he : wc[q0]? = some (b, .inr (ci, fs))) (hc : vwCl[ci]? = some (C, T, N)) (hn : As.length = n) (hsize : ls.size = nL) (hst : st0 = As.reverse ++ .ref b :: rest) (hW : (rest.map fun v => v.category).sum ≤ 8) (hf : cells + mc ≤ R.cells ∧ slots + ms ≤ R.slots) (hdg : decode cc pc = .ok (.invokevirtual index, 3))
    (kk : ∀ (H1 : Heap) (locs1 : List Loc), va_P D vwCl (wr ++ f F.2) H1 → va_D A0 (wr ++ f F.2) → va_S A0 H0 H1 locs1 → W p l e R s m args below meth c H1 locs1 (cells + mc) (slots + ms) Q (F0 m (pc + 3) ls (.int F.1 :: rest))) : W p l e R s m args below meth c H locs cells slots Q (F0 m pc ls st0) := by
  have hPc := P_right (P_perm hperm hP)
  have hDc := D_right (D_perm hperm hD)
  have hF := J_free hperm hD hS hA
  refine va_calli (va_runV S hM cw ⟨MPc_blind, P_recv hK hPc he hc, fun U hU hW => ⟨rfl, by rw [hU], by rw [hU]; exact hPc, va_K.moved hW.alike hK, hDc.weaken (fun _ _ _ _ => trivial)⟩⟩ rfl hn hsize hst (lv_room hW) hdg hf) hS (fun q _ h => hF q h) hF (fun r u t H1 locs1 ht hvm hw hB hz hk hS1 => ?_)
  obtain ⟨hP1, -, hD1⟩ := hB
  rw [ht] at hP1
  obtain ⟨g1, g2⟩ := J_join hperm hP hD hk hF hP1 hD1
  cases hw
  exact kk H1 locs1 g1 g2 hS1
theorem hcMl {S0 : Type} {f : S0 → va_W} {F : Int64 × S0} (q0 ci : Nat) (S : CallFix p m c cc nL s args Ts own) (hM : Met l y wsy rm (MPc D ca H.size wc (.ref b :: As)) (va_Ql (fun r v => (r, v) = F) (MB D ca (va_A wc H.size) f) (va_A wc H.size)) mc ms (va_A wc H.size)) (cw : CallW R s args own C index y bytes maxL ret wsy rm mc ms n) (hK : va_K D vwCl (TYS ca) s) (hP : va_P D vwCl ws H) (hD : va_D A0 ws) (hS : va_S A0 H0 H locs) (hA : ∀ q, H0.size ≤ q → A0 q) (hperm : ws.Perm (wr ++ wc)) (he : wc[q0]? = some (b, .inr (ci, fs))) (hc : vwCl[ci]? = some (C, T, N)) (hn : As.length = n) (hsize : ls.size = nL) (hst : st0 = As.reverse ++ .ref b :: rest) (hW : (rest.map fun v => v.category).sum ≤ 8) (hf : cells + mc ≤ R.cells ∧ slots + ms ≤ R.slots) (hdg : decode cc pc = .ok (.invokevirtual index, 3))
    (kk : ∀ (H1 : Heap) (locs1 : List Loc), va_P D vwCl (wr ++ f F.2) H1 → va_D A0 (wr ++ f F.2) → va_S A0 H0 H1 locs1 → W p l e R s m args below meth c H1 locs1 (cells + mc) (slots + ms) Q (F0 m (pc + 3) ls (.long F.1 :: rest))) : W p l e R s m args below meth c H locs cells slots Q (F0 m pc ls st0) := by
  have hPc := P_right (P_perm hperm hP)
  have hDc := D_right (D_perm hperm hD)
  have hF := J_free hperm hD hS hA
  refine va_calll (va_runV S hM cw ⟨MPc_blind, P_recv hK hPc he hc, fun U hU hW => ⟨rfl, by rw [hU], by rw [hU]; exact hPc, va_K.moved hW.alike hK, hDc.weaken (fun _ _ _ _ => trivial)⟩⟩ rfl hn hsize hst (lv_room hW) hdg hf) hS (fun q _ h => hF q h) hF (fun r u t H1 locs1 ht hvm hw hB hz hk hS1 => ?_)
  obtain ⟨hP1, -, hD1⟩ := hB
  rw [ht] at hP1
  obtain ⟨g1, g2⟩ := J_join hperm hP hD hk hF hP1 hD1
  cases hw
  exact kk H1 locs1 g1 g2 hS1
theorem hcMv {S0 : Type} {f : S0 → va_W} {F : S0} (q0 ci : Nat) (S : CallFix p m c cc nL s args Ts own) (hM : Met l y wsy rm (MPc D ca H.size wc (.ref b :: As)) (va_Qv (fun v => v = F) (MB D ca (va_A wc H.size) f) (va_A wc H.size)) mc ms (va_A wc H.size)) (cw : CallW R s args own C index y bytes maxL ret wsy rm mc ms n) (hK : va_K D vwCl (TYS ca) s) (hP : va_P D vwCl ws H) (hD : va_D A0 ws) (hS : va_S A0 H0 H locs) (hA : ∀ q, H0.size ≤ q → A0 q) (hperm : ws.Perm (wr ++ wc)) (he : wc[q0]? = some (b, .inr (ci, fs))) (hc : vwCl[ci]? = some (C, T, N)) (hn : As.length = n) (hsize : ls.size = nL) (hst : st0 = As.reverse ++ .ref b :: rest) (hW : (rest.map fun v => v.category).sum ≤ 8) (hf : cells + mc ≤ R.cells ∧ slots + ms ≤ R.slots) (hdg : decode cc pc = .ok (.invokevirtual index, 3))
    (kk : ∀ (H1 : Heap) (locs1 : List Loc), va_P D vwCl (wr ++ f F) H1 → va_D A0 (wr ++ f F) → va_S A0 H0 H1 locs1 → W p l e R s m args below meth c H1 locs1 (cells + mc) (slots + ms) Q (F0 m (pc + 3) ls (rest))) : W p l e R s m args below meth c H locs cells slots Q (F0 m pc ls st0) := by
  have hPc := P_right (P_perm hperm hP)
  have hDc := D_right (D_perm hperm hD)
  have hF := J_free hperm hD hS hA
  refine va_callv (va_runV S hM cw ⟨MPc_blind, P_recv hK hPc he hc, fun U hU hW => ⟨rfl, by rw [hU], by rw [hU]; exact hPc, va_K.moved hW.alike hK, hDc.weaken (fun _ _ _ _ => trivial)⟩⟩ rfl hn hsize hst (lv_room hW) hdg hf) hS (fun q _ h => hF q h) hF (fun u t H1 locs1 ht hvm hw hB hz hk hS1 => ?_)
  obtain ⟨hP1, -, hD1⟩ := hB
  rw [ht] at hP1
  obtain ⟨g1, g2⟩ := J_join hperm hP hD hk hF hP1 hD1
  cases hw
  exact kk H1 locs1 g1 g2 hS1
/-- reads at a counted place -/
theorem ialdN {cl : List vw_C} {tys : List (ClassId × FieldType)} {a : Nat} (hexec : p.tables.exec = Jvm.exec) (hb : c.code = cc) (hK : va_K D cl tys s) (hP : va_P D cl ws H) (q0 t0 : Nat) {cA : ClassId} {n k : Nat} {f : Nat → Int32} (ha : ws[q0]? = some (a, .inl (cA, n, .inl f))) (ht : tys[t0]? = some (cA, .int)) (hk : k < n) (hn : n < 2 ^ 31) (hdg : decode cc pc = .ok (.iaload, 1))
    (kk : W p l e R s m args below meth c H locs cells slots Q (F0 m (pc + 1) ls (.int (f k) :: rest))) : W p l e R s m args below meth c H locs cells slots Q (F0 m pc ls (.int (nI k) :: .ref a :: rest)) :=
  va_iald hexec hb hK hP q0 t0 ha ht (vp_in_nI hk hn) hdg (by rw [nI_clamp (Nat.lt_trans hk hn)]; exact kk)
theorem laldN {cl : List vw_C} {tys : List (ClassId × FieldType)} {a : Nat} (hexec : p.tables.exec = Jvm.exec) (hb : c.code = cc) (hK : va_K D cl tys s) (hP : va_P D cl ws H) (q0 t0 : Nat) {cA : ClassId} {n k : Nat} {f : Nat → Int64} (ha : ws[q0]? = some (a, .inl (cA, n, .inr (.inl f)))) (ht : tys[t0]? = some (cA, .long)) (hk : k < n) (hn : n < 2 ^ 31) (hdg : decode cc pc = .ok (.laload, 1))
    (kk : W p l e R s m args below meth c H locs cells slots Q (F0 m (pc + 1) ls (.long (f k) :: rest))) : W p l e R s m args below meth c H locs cells slots Q (F0 m pc ls (.int (nI k) :: .ref a :: rest)) :=
  va_lald hexec hb hK hP q0 t0 ha ht (vp_in_nI hk hn) hdg (by rw [nI_clamp (Nat.lt_trans hk hn)]; exact kk)
theorem iastN {cl : List vw_C} {tys : List (ClassId × FieldType)} {a : Nat} {A : Nat → Prop} (hexec : p.tables.exec = Jvm.exec) (hb : c.code = cc) (hK : va_K D cl tys s) (hP : va_P D cl ws H) (hD : va_D A ws) (hS : va_S A H0 H locs) (q0 t0 : Nat) {cA : ClassId} {n k : Nat} {f : Nat → Int32} {x : Int32} (ha : ws[q0]? = some (a, .inl (cA, n, .inl f))) (ht : tys[t0]? = some (cA, .int)) (hk : k < n) (hn : n < 2 ^ 31) (hdg : decode cc pc = .ok (.iastore, 1))
    (kk : ∀ (H1 : Heap) (locs1 : List Loc), va_P D cl (ws.set q0 (a, .inl (cA, n, .inl (upd f k x)))) H1 → va_D A (ws.set q0 (a, .inl (cA, n, .inl (upd f k x)))) → va_S A H0 H1 locs1 → W p l e R s m args below meth c H1 locs1 cells slots Q (F0 m (pc + 1) ls rest)) : W p l e R s m args below meth c H locs cells slots Q (F0 m pc ls (.int x :: .int (nI k) :: .ref a :: rest)) :=
  va_iast hexec hb hK hP hD hS q0 t0 ha ht (vp_in_nI hk hn) hdg (by rw [nI_clamp (Nat.lt_trans hk hn)]; exact kk)
/-- the entry of a method -/
theorem W_entry {vs : List Value} {nL : Nat} (h : (lg_sl vs).length ≤ nL) (k : ∀ ls : Array Slot, lv_has ls nL (lv_args 0 vs) → W p l e R s m args below meth c H locs cells slots Q (F0 m 0 ls [])) : W p l e R s m args below meth c H locs cells slots Q (entryFrame m vs.toArray nL) := by
  rw [lg_entry_eq]
  exact k _ (lv_entry vs h)
end CALLS
/-- shifts of longs by an int -/
def ush (x : Int64) (y : Int32) : Int64 := (x.toUInt64 >>> (y.toInt64.toUInt64 &&& Int64.toUInt64 63)).toInt64
def lsh (x : Int64) (y : Int32) : Int64 := x <<< (y.toInt64 &&& 63)
