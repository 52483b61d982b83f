/-! the builder of texts of at most 16 letters -/
abbrev BWo (sb vb cnt : Nat) : Nat × va_E := (sb, .inr (1, [.ref vb, .int 0, .int 0, .int (nI cnt)]))
abbrev BWa (ca : Nat → ClassId) (vb : Nat) (f : Nat → Int32) : Nat × va_E := (vb, .inl (ca 5, 16, .inl f))
/-- every number a byte -/
def FB (f : Nat → Int32) : Prop := ∀ j, fits .byte (.int (f j)) = true
theorem FB_0 : FB (fun _ => 0) := fun _ => rfl
theorem FB_cpy {f g : Nat → Int32} {a b n : Nat} (hf : FB f) (hg : FB g) : FB (va_cpy f g a b n) := fun j => by
  unfold va_cpy
  split
  · exact hf _
  · exact hg _
theorem FB_up {g : Nat → Int32} {k : Nat} {x : Int32} (hg : FB g) (hx : fits .byte (.int x) = true) : FB (upd g k x) := fun j => by
  by_cases e : j = k
  · subst e
    rw [show upd g j x j = x from if_pos rfl]
    exact hx
  · rw [show upd g k x j = g j from if_neg e]
    exact hg j
theorem FB_law : ∀ i, i < 6 → FB (lawF i) := by
  have h : ∀ i, i < 6 → ∀ b ∈ lawB.getD i [], fits .byte (.int b) = true := by decide +kernel
  intro i hi j
  unfold lawF
  rcases Nat.lt_or_ge j (lawB.getD i []).length with hj | hj
  · rw [List.getD_eq_getElem?_getD, List.getElem?_eq_getElem hj]
    exact h i hi _ (List.getElem_mem hj)
  · rw [List.getD_eq_getElem?_getD, List.getElem?_eq_none hj]
    rfl
section SBR
variable {p : Program} {l : Launch} {e : Env} {R : Room} {s : State} {m : MethodId} {args : Array Value} {below : List Frame} {meth : Method} {c : Code} {H : Heap} {locs : List Loc} {cells slots : Nat} {Q : State → Prop}
variable {D : va_G} {ca : Nat → ClassId} {X : (Nat → Prop) → State → Heap → Prop} {ws wr wc : va_W} {As rest st0 : List Value} {index n pc nL maxL mc ms b N q0 ci : Nat} {x y : MethodName} {bytes cc : ByteArray} {ret : Option FieldType} {wsy Ts : List Cond} {rm : Room} {own owner C : String} {T : u_T} {fs : List Value} {ls : Array Slot} {A0 : Nat → Prop} {H0 : Heap} {S0 : Type} {φ : S0 → Prop} {ψ : Int32 → S0 → Prop} {f : S0 → va_W} {BR : S0 → Nat → va_W}
theorem newb (N : Nat) (hexec : p.tables.exec = Jvm.exec) (hb : c.code = cc) (harr : (Cond.arrayClass (newarray.typeOf .byte)).before args s = true) (hK : va_K D vwCl (TYS ca) s) (hP : va_P D vwCl ws H) (hD : va_D A0 ws) (hS : va_S A0 H0 H locs) (hA : ∀ q, H0.size ≤ q → A0 q) {n : Int32} (hn : ¬ n < 0) (hN : n.toNatClampNeg = N) (hbytes : N * componentBytes .byte ≤ 536870912) (hcells : cells + 1 ≤ R.cells) (hslots : slots + N ≤ R.slots) (hdg : decode cc pc = .ok (.newarray .byte, 2))
    (kk : ∀ (q : Nat) (H1 : Heap), va_P D vwCl (ws ++ [(q, .inl (ca 5, N, .inl (fun _ => 0)))]) H1 → va_D A0 (ws ++ [(q, .inl (ca 5, N, .inl (fun _ => 0)))]) → va_S A0 H0 H1 locs → W p l e R s m args below meth c H1 locs (cells + 1) (slots + N) Q (F0 m (pc + 2) ls (.ref q :: rest))) : W p l e R s m args below meth c H locs cells slots Q (F0 m pc ls (.int n :: rest)) := by
  refine va_newa (atype := .byte) (ty := .byte) (a0 := (N, .inl (fun _ => 0))) hexec hb harr rfl hK hP hD hS hA (fun _ => rfl) hn hN hbytes hcells hslots hdg (fun q cA H1 hK1 hP1 hD1 hS1 => ?_)
  obtain rfl := tys_eq (k := 5) hK1 rfl (by decide) (fun _ h => by cases h)
  exact kk q H1 hP1 hD1 hS1
theorem MG_at {u U : State} {av : List Value} (ok : SXok X) (hK : va_K D vwCl (TYS ca) s) (hP : va_P D vwCl wc H) (hD : va_D A0 wc) (hX : X (va_A wc H.size) s H) (hU : U.heap = H) (hW : s.WarmedH U.vm) : MGPc D ca X H.size wc av av.toArray U :=
  ⟨rfl, by show U.heap.size = H.size; rw [hU], by rw [hU]; exact hP, va_K.moved hW.alike hK, hD.weaken (fun _ _ _ _ => trivial), by rw [hU]; exact ok.1 _ _ _ _ hW hX⟩
theorem rowV {av : Array Value} (hr : va_Run p l e R s m args below meth c H locs cells slots mc ms (F0 m pc ls st0) rest (va_Qv φ (MB D ca (va_A wc H.size) f) (va_A wc H.size) av) (va_A wc H.size)) (hP : va_P D vwCl ws H) (hD : va_D A0 ws) (hS : va_S A0 s.heap H locs) (hA : ∀ q, s.heap.size ≤ q → A0 q) (hperm : ws.Perm (wr ++ wc))
    (kk : ∀ (v : S0) (H1 : Heap) (locs1 : List Loc), φ v → va_P D vwCl (wr ++ f v) H1 → va_D A0 (wr ++ f v) → va_S A0 s.heap H1 locs1 → W p l e R s m args below meth c H1 locs1 (cells + mc) (slots + ms) Q (F0 m (pc + 3) ls rest)) : W p l e R s m args below meth c H locs cells slots Q (F0 m pc ls st0) := by
  have hF := J_free hperm hD hS hA
  refine va_callv hr hS (fun q _ h => hF q h) hF (fun u t H1 locs1 ht hvm hw hB hz hk hS1 => ?_)
  obtain ⟨hP1, -, hD1⟩ := hB
  rw [ht] at hP1
  obtain ⟨g1, g2⟩ := J_join hperm hP hD hk hF hP1 hD1
  exact kk u H1 locs1 hw g1 g2 hS1
theorem rowI {av : Array Value} (hr : va_Run p l e R s m args below meth c H locs cells slots mc ms (F0 m pc ls st0) rest (va_Qi ψ (MB D ca (va_A wc H.size) f) (va_A wc H.size) av) (va_A wc H.size)) (hP : va_P D vwCl ws H) (hD : va_D A0 ws) (hS : va_S A0 s.heap H locs) (hA : ∀ q, s.heap.size ≤ q → A0 q) (hperm : ws.Perm (wr ++ wc))
    (kk : ∀ (r : Int32) (v : S0) (H1 : Heap) (locs1 : List Loc), ψ r v → va_P D vwCl (wr ++ f v) H1 → va_D A0 (wr ++ f v) → va_S A0 s.heap H1 locs1 → W p l e R s m args below meth c H1 locs1 (cells + mc) (slots + ms) Q (F0 m (pc + 3) ls (.int r :: rest))) : W p l e R s m args below meth c H locs cells slots Q (F0 m pc ls st0) := by
  have hF := J_free hperm hD hS hA
  refine va_calli hr hS (fun q _ h => hF q h) hF (fun r u t H1 locs1 ht hvm hw hB hz hk hS1 => ?_)
  obtain ⟨hP1, -, hD1⟩ := hB
  rw [ht] at hP1
  obtain ⟨g1, g2⟩ := J_join hperm hP hD hk hF hP1 hD1
  exact kk r u H1 locs1 hw g1 g2 hS1
theorem rowR {av : Array Value} (hr : va_Run p l e R s m args below meth c H locs cells slots mc ms (F0 m pc ls st0) rest (va_Qr φ (fun u a t => MB D ca (va_A wc H.size) (fun w => BR w a) u t) (va_A wc H.size) av) (va_A wc H.size)) (hP : va_P D vwCl ws H) (hD : va_D A0 ws) (hS : va_S A0 s.heap H locs) (hA : ∀ q, s.heap.size ≤ q → A0 q) (hperm : ws.Perm (wr ++ wc))
    (kk : ∀ (v : S0) (a : Nat) (H1 : Heap) (locs1 : List Loc), φ v → va_P D vwCl (wr ++ BR v a) H1 → va_D A0 (wr ++ BR v a) → va_S A0 s.heap H1 locs1 → W p l e R s m args below meth c H1 locs1 (cells + mc) (slots + ms) Q (F0 m (pc + 3) ls (.ref a :: rest))) : W p l e R s m args below meth c H locs cells slots Q (F0 m pc ls st0) := by
  have hF := J_free hperm hD hS hA
  refine va_callr hr hS (fun q _ h => hF q h) hF (fun u a t H1 locs1 ht hvm hw hB hz hk hS1 => ?_)
  obtain ⟨hP1, -, hD1⟩ := hB
  rw [ht] at hP1
  obtain ⟨g1, g2⟩ := J_join hperm hP hD hk hF hP1 hD1
  exact kk u a H1 locs1 hw g1 g2 hS1
theorem MGp (ok : SXok X) (hK : va_K D vwCl (TYS ca) s) (hP : va_P D vwCl ws H) (hD : va_D A0 ws) (hS : va_S A0 s.heap H locs) (hA : ∀ q, s.heap.size ≤ q → A0 q) (hX : X A0 s s.heap) (hperm : ws.Perm (wr ++ wc)) : PreS s H (MGPc D ca X H.size wc As) As :=
  ⟨MGPc_blind ok, fun U hU hW => MG_at (u := U) ok hK (P_right (P_perm hperm hP)) (D_right (D_perm hperm hD)) (X_now ok hX hS (J_free hperm hD hS hA)) hU hW⟩
theorem MGv (ok : SXok X) (hK : va_K D vwCl (TYS ca) s) (hP : va_P D vwCl ws H) (hD : va_D A0 ws) (hS : va_S A0 s.heap H locs) (hA : ∀ q, s.heap.size ≤ q → A0 q) (hX : X A0 s s.heap) (hperm : ws.Perm (wr ++ wc)) (he : wc[q0]? = some (b, .inr (ci, fs))) (hc : vwCl[ci]? = some (C, T, N)) : PreV s H C b (MGPc D ca X H.size wc (.ref b :: As)) As :=
  ⟨MGPc_blind ok, P_recv hK (P_right (P_perm hperm hP)) he hc, fun U hU hW => MG_at (u := U) ok hK (P_right (P_perm hperm hP)) (D_right (D_perm hperm hD)) (X_now ok hX hS (J_free hperm hD hS hA)) hU hW⟩
theorem rowA {av : Array Value} {w9 : va_W} (hr : va_Run p l e R s m args below meth c H locs cells slots mc ms (F0 m pc ls st0) rest (va_Qr (fun a9 : Nat => a9 = b) (fun u a t => a = u ∧ MB D ca (va_A wc H.size) (fun _ : Nat => w9) u t) (va_A wc H.size) av) (va_A wc H.size)) (hP : va_P D vwCl ws H) (hD : va_D A0 ws) (hS : va_S A0 s.heap H locs) (hA : ∀ q, s.heap.size ≤ q → A0 q) (hperm : ws.Perm (wr ++ wc))
    (kk : ∀ (H1 : Heap) (locs1 : List Loc), va_P D vwCl (wr ++ w9) H1 → va_D A0 (wr ++ w9) → va_S A0 s.heap H1 locs1 → W p l e R s m args below meth c H1 locs1 (cells + mc) (slots + ms) Q (F0 m (pc + 3) ls (.ref b :: rest))) : W p l e R s m args below meth c H locs cells slots Q (F0 m pc ls st0) := by
  have hF := J_free hperm hD hS hA
  refine va_callr hr hS (fun q _ h => hF q h) hF (fun u a t H1 locs1 ht hvm hw hB hz hk hS1 => ?_)
  obtain ⟨ea, hP1, -, hD1⟩ := hB
  rw [ht] at hP1
  obtain ⟨g1, g2⟩ := J_join hperm hP hD hk hF hP1 hD1
  rw [ea, hw]
  exact kk H1 locs1 g1 g2 hS1
end SBR
set_option maxHeartbeats 4000000 in
set_option maxRecDepth 100000 in
theorem kJ5_init_d00df (l : Launch) (D : va_G) (ca : Nat → ClassId) (en ks vs lk lv : Nat → Nat) (sz : Nat) (sb : Nat) : Met l yJ5_init_d00df wsJ5_init_d00df ({ frames := 1, cells := 1, slots := 16, locals := 12 }) (MGPc D ca (YX en ks vs lk lv) sz [(sb, .inr (1, [.null, .int 0, .int 0, .int 0]))] [.ref sb, .int 16]) (va_Qv (fun _ : Nat => True) (MB D ca (va_A [(sb, .inr (1, [.null, .int 0, .int 0, .int 0]))] sz) (fun vb : Nat => [BWo sb vb 0, BWa ca vb (fun _ => 0)])) (va_A [(sb, .inr (1, [.null, .int 0, .int 0, .int 0]))] sz)) 1 16 (va_A [(sb, .inr (1, [.null, .int 0, .int 0, .int 0]))] sz) := by
  refine Met.ofW (cc := cJ5_init_d00df) (maxL := 2) (ret := none) (by decide) rfl ?_
  intro p e s m args below meth c s₁ B hml hv
  obtain ⟨rfl, hsz, hP, hK, hD0, hY⟩ := hv
  have hx := B.exec
  have hb := B.bytes
  have hr := B.returns
  have hts := atoms_spec (ws := wsJ5_init_d00df) B.pre
  have hown : s.vm.findClass RJ5 = some m.cls := findClass_of_methodNamed B.named
  have hlocks := B.notSynchronized
  subst hsz
  have hD := hD0.self (sz := s.heap.size)
  generalize hAe : va_A [(sb, .inr (1, [.null, .int 0, .int 0, .int 0]))] s.heap.size = A at hD hY ⊢
  have hA : ∀ q : Nat, s.heap.size ≤ q → A q := fun q h => by rw [← hAe]; exact Or.inr h
  have hS : va_S A s.heap s.heap [] := va_S.rf
  have hin4 : ∀ w ∈ wsJ40, w ∈ wsJ5_init_d00df := by decide +kernel
  refine W_entry (Nat.le_of_ble_eq_true rfl) (fun ls hl => ?_)
  have hl : lv_has ls 2 [(0, .ref sb), (1, .int 16)] := hl
  refine lv_aload_n hx hb dJ5_init_d00df_0 rfl (lv_at hl 0 rfl) ?_
  refine W.objInit hx hb hown (hts (.methodLink RJ5 3 objectInit) (by decide +kernel)) (hts (.instanceMethod objectInit) (by decide +kernel)) (hts (.code objectInit ⟨#[0xb1]⟩ 1 none) (by decide +kernel)) rfl (by rw [hml]; exact hl.1) rfl dJ5_init_d00df_1 (Nat.le_of_ble_eq_true rfl) (Nat.le_of_ble_eq_true rfl) ?_
  refine W.eq (g2 := F0 m 4 ls []) rfl ?_
  refine va_gets hx hb hY.1.1.1.1 hS hown (hts (.fieldLink RJ5 18 "java/lang/String" "COMPACT_STRINGS" "Z") (by decide +kernel)) (fun _ h9 => h9) dJ5_init_d00df_4 ?_
  refine lv_if_eq (tgt := 25) hx hb dJ5_init_d00df_7 (by decide) (fun q => absurd q (by decide)) (fun _ => ?_)
  refine lv_aload_n hx hb dJ5_init_d00df_10 rfl (lv_at hl 0 rfl) ?_
  refine lv_iload_n hx hb dJ5_init_d00df_11 rfl (lv_at hl 1 rfl) ?_
  refine newb 16 hx hb (hts (.arrayClass .byte) (by decide +kernel)) hK hP hD hS hA (by decide) (by decide) (by decide) (Nat.le_of_ble_eq_true rfl) (Nat.le_of_ble_eq_true rfl) dJ5_init_d00df_12 (fun vb H hP hD hS => ?_)
  refine W.widen (k := 1) (n := 16) (Nat.le_of_ble_eq_true rfl) (Nat.le_of_ble_eq_true rfl) ?_
  refine va_put (D := D) (ci := 1) (v := .ref vb) (ty := .array .byte) (C := RJ4) (T := TJ4) (N := 4) hx hb hts hin4 tyJ4 tyJ4_ok nmJ4 hown hK hP hD hS 0 rfl rfl 0 (by decide) (hts (.fieldLink RJ5 15 "java/lang/AbstractStringBuilder" "value" "[B") (by decide +kernel)) (fun _ h9 => h9) rfl (by decide +kernel) rfl rfl (Nat.le_of_ble_eq_true rfl) dJ5_init_d00df_14 (fun H locs hP hD hS => ?_)
  refine lv_aload_n hx hb dJ5_init_d00df_17 rfl (lv_at hl 0 rfl) ?_
  refine lv_iconst (v := 0) hx hb dJ5_init_d00df_18 (by decide) ?_
  refine va_put (D := D) (ci := 1) (v := .int 0) (ty := .byte) (C := RJ4) (T := TJ4) (N := 4) hx hb hts hin4 tyJ4 tyJ4_ok nmJ4 hown hK hP hD hS 0 rfl rfl 1 (by decide) (hts (.fieldLink RJ5 22 "java/lang/AbstractStringBuilder" "coder" "B") (by decide +kernel)) (fun _ h9 => h9) rfl (by decide +kernel) rfl rfl (Nat.le_of_ble_eq_true rfl) dJ5_init_d00df_19 (fun H locs hP hD hS => ?_)
  refine lv_goto (tgt := 38) hx hb dJ5_init_d00df_22 (by decide) ?_
  exact W.vret hx hb hr (fun t ht hW => ⟨⟨vb, rfl, trivial, by rw [ht]; exact hP, va_K.moved hW.alike hK, hD⟩, hS.F ht⟩) hS.2.2 dJ5_init_d00df_38
set_option maxHeartbeats 4000000 in
set_option maxRecDepth 100000 in
theorem kJ4_init_da8c8 (l : Launch) (D : va_G) (ca : Nat → ClassId) (en ks vs lk lv : Nat → Nat) (sz : Nat) (sb : Nat) : Met l yJ4_init_da8c8 wsJ4_init_da8c8 ({ frames := 2, cells := 1, slots := 16, locals := 33 }) (MGPc D ca (YX en ks vs lk lv) sz [(sb, .inr (1, [.null, .int 0, .int 0, .int 0]))] [.ref sb]) (va_Qv (fun _ : Nat => True) (MB D ca (va_A [(sb, .inr (1, [.null, .int 0, .int 0, .int 0]))] sz) (fun vb : Nat => [BWo sb vb 0, BWa ca vb (fun _ => 0)])) (va_A [(sb, .inr (1, [.null, .int 0, .int 0, .int 0]))] sz)) 1 16 (va_A [(sb, .inr (1, [.null, .int 0, .int 0, .int 0]))] sz) := by
  refine Met.ofW (cc := cJ4_init_da8c8) (maxL := 1) (ret := none) (by decide) rfl ?_
  intro p e s m args below meth c s₁ B hml hv
  obtain ⟨rfl, hsz, hP, hK, hD0, hY⟩ := hv
  have hx := B.exec
  have hb := B.bytes
  have hr := B.returns
  have hts := atoms_spec (ws := wsJ4_init_da8c8) B.pre
  have hown : s.vm.findClass RJ4 = some m.cls := findClass_of_methodNamed B.named
  have hlocks := B.notSynchronized
  subst hsz
  have hD := hD0.self (sz := s.heap.size)
  generalize hAe : va_A [(sb, .inr (1, [.null, .int 0, .int 0, .int 0]))] s.heap.size = A at hD hY ⊢
  have hA : ∀ q : Nat, s.heap.size ≤ q → A q := fun q h => by rw [← hAe]; exact Or.inr h
  have hS : va_S A s.heap s.heap [] := va_S.rf
  have hin4 : ∀ w ∈ wsJ40, w ∈ wsJ4_init_da8c8 := by decide +kernel
  refine W_entry (Nat.le_of_ble_eq_true rfl) (fun ls hl => ?_)
  have hl : lv_has ls 1 [(0, .ref sb)] := hl
  refine lv_aload_n hx hb dJ4_init_da8c8_0 rfl (lv_at hl 0 rfl) ?_
  refine lv_bipush (v := 16) hx hb dJ4_init_da8c8_1 (by decide) ?_
  refine rowV (wr := []) (wc := [(sb, .inr (1, [.null, .int 0, .int 0, .int 0]))]) (va_runI (As := [.int 16]) (rest := []) ⟨hx, hb, hml, hown, hts⟩ (kJ5_init_d00df l D ca en ks vs lk lv _ sb) (cwI 1 hts gJ4_init_da8c8_J5_init_d00df rfl rfl rfl (hts (.initialized RJ5) (by decide +kernel)) (hts (.methodLink RJ4 1 yJ5_init_d00df) (by decide +kernel)) (hts (.instanceMethod yJ5_init_d00df) (by decide +kernel)) rfl (by decide +kernel) ⟨Nat.le_of_ble_eq_true rfl, Nat.le_of_ble_eq_true rfl⟩) (MGp (wr := []) (YX_ok en ks vs lk lv) hK hP hD hS hA hY (List.Perm.refl _)) rfl rfl hl.1 rfl (lv_room (Nat.le_of_ble_eq_true rfl)) dJ4_init_da8c8_3 ⟨Nat.le_of_ble_eq_true rfl, Nat.le_of_ble_eq_true rfl⟩) hP hD hS hA (List.Perm.refl _) (fun vb H locs _ hP hD hS => ?_)
  refine W.widen (k := 1) (n := 16) (Nat.le_of_ble_eq_true rfl) (Nat.le_of_ble_eq_true rfl) ?_
  exact W.vret hx hb hr (fun t ht hW => ⟨⟨vb, rfl, trivial, by rw [ht]; exact hP, va_K.moved hW.alike hK, hD⟩, hS.F ht⟩) hS.2.2 dJ4_init_da8c8_6
set_option maxHeartbeats 4000000 in
set_option maxRecDepth 100000 in
theorem kJ5_ensureCapacityInternal_d00df (l : Launch) (D : va_G) (ca : Nat → ClassId) (en ks vs lk lv : Nat → Nat) (sz : Nat) (sb vb cnt q : Nat) (f : Nat → Int32) (hq : q ≤ 16) : Met l yJ5_ensureCapacityInternal_d00df wsJ5_ensureCapacityInternal_d00df ({ frames := 0, cells := 0, slots := 0, locals := 0 }) (MGPc D ca (YX en ks vs lk lv) sz [BWo sb vb cnt, BWa ca vb f] [.ref sb, .int (nI q)]) (va_Qv (fun _ : Unit => True) (MB D ca (va_A [BWo sb vb cnt, BWa ca vb f] sz) (fun _ : Unit => [BWo sb vb cnt, BWa ca vb f])) (va_A [BWo sb vb cnt, BWa ca vb f] sz)) 0 0 (va_A [BWo sb vb cnt, BWa ca vb f] sz) := by
  refine Met.ofW (cc := cJ5_ensureCapacityInternal_d00df) (maxL := 3) (ret := none) (by decide) rfl ?_
  intro p e s m args below meth c s₁ B hml hv
  obtain ⟨rfl, hsz, hP, hK, hD0, hY⟩ := hv
  have hx := B.exec
  have hb := B.bytes
  have hr := B.returns
  have hts := atoms_spec (ws := wsJ5_ensureCapacityInternal_d00df) B.pre
  have hown : s.vm.findClass RJ5 = some m.cls := findClass_of_methodNamed B.named
  have hlocks := B.notSynchronized
  subst hsz
  have hD := hD0.self (sz := s.heap.size)
  generalize hAe : va_A [BWo sb vb cnt, BWa ca vb f] s.heap.size = A at hD hY ⊢
  have hA : ∀ q : Nat, s.heap.size ≤ q → A q := fun q h => by rw [← hAe]; exact Or.inr h
  have hS : va_S A s.heap s.heap [] := va_S.rf
  have hin4 : ∀ w ∈ wsJ40, w ∈ wsJ5_ensureCapacityInternal_d00df := by decide +kernel
  refine W_entry (Nat.le_of_ble_eq_true rfl) (fun ls hl => ?_)
  have hl : lv_has ls 3 [(0, .ref sb), (1, .int (nI q))] := hl
  have hq9 : (nI q - 16).toInt ≤ (0 : Int32).toInt := by
    have h : ∀ q, q < 17 → (nI q - 16).toInt ≤ (0 : Int32).toInt := by decide +kernel
    exact h q (by omega)
  refine lv_aload_n hx hb dJ5_ensureCapacityInternal_d00df_0 rfl (lv_at hl 0 rfl) ?_
  refine va_get (D := D) (ci := 1) (v := .ref vb) (C := RJ4) (T := TJ4) (N := 4) hx hb hts hin4 hown hK hP 0 rfl rfl 0 (by decide) (hts (.fieldLink RJ5 15 "java/lang/AbstractStringBuilder" "value" "[B") (by decide +kernel)) (fun _ h9 => h9) rfl dJ5_ensureCapacityInternal_d00df_1 ?_
  refine va_alen (v := 16) hx hb hK hP 1 5 rfl rfl rfl dJ5_ensureCapacityInternal_d00df_4 ?_
  refine lv_aload_n hx hb dJ5_ensureCapacityInternal_d00df_5 rfl (lv_at hl 0 rfl) ?_
  refine va_get (D := D) (ci := 1) (v := .int 0) (C := RJ4) (T := TJ4) (N := 4) hx hb hts hin4 hown hK hP 0 rfl rfl 1 (by decide) (hts (.fieldLink RJ5 22 "java/lang/AbstractStringBuilder" "coder" "B") (by decide +kernel)) (fun _ h9 => h9) rfl dJ5_ensureCapacityInternal_d00df_6 ?_
  refine lv_ishr hx hb dJ5_ensureCapacityInternal_d00df_9 ?_
  refine lv_to (y := 16) (by decide) ?_
  refine lv_istore_n (lv' := [(2, .int 16), (0, .ref sb), (1, .int (nI q))]) hx hb dJ5_ensureCapacityInternal_d00df_10 rfl hl (by decide) rfl (fun ls hl => ?_)
  refine lv_iload_n hx hb dJ5_ensureCapacityInternal_d00df_11 rfl (lv_at hl 2 rfl) ?_
  refine lv_iload_n hx hb dJ5_ensureCapacityInternal_d00df_12 rfl (lv_at hl 0 rfl) ?_
  refine lv_isub hx hb dJ5_ensureCapacityInternal_d00df_13 ?_
  refine lv_if_le (tgt := 38) hx hb dJ5_ensureCapacityInternal_d00df_14 (by decide) (fun _ => ?_) (fun h => absurd (by have := hq9; rw [Int32.le_iff_toInt_le]; exact this) h)
  exact W.vret hx hb hr (fun t ht hW => ⟨⟨(), rfl, trivial, by rw [ht]; exact hP, va_K.moved hW.alike hK, hD⟩, hS.F ht⟩) hS.2.2 dJ5_ensureCapacityInternal_d00df_38
set_option maxHeartbeats 4000000 in
set_option maxRecDepth 100000 in
theorem kJ5_inflateIfNeededFor_a7421 (l : Launch) (D : va_G) (ca : Nat → ClassId) (en ks vs lk lv : Nat → Nat) (sz : Nat) (sb vb cnt : Nat) (f : Nat → Int32) (i : Nat) (hi : i < 6) : Met l yJ5_inflateIfNeededFor_a7421 wsJ5_inflateIfNeededFor_a7421 ({ frames := 1, cells := 0, slots := 0, locals := 20 }) (MGPc D ca (YX en ks vs lk lv) sz [BWo sb vb cnt, BWa ca vb f] [.ref sb, .ref (lk i)]) (va_Qv (fun _ : Unit => True) (MB D ca (va_A [BWo sb vb cnt, BWa ca vb f] sz) (fun _ : Unit => [BWo sb vb cnt, BWa ca vb f])) (va_A [BWo sb vb cnt, BWa ca vb f] sz)) 0 0 (va_A [BWo sb vb cnt, BWa ca vb f] sz) := by
  refine Met.ofW (cc := cJ5_inflateIfNeededFor_a7421) (maxL := 2) (ret := none) (by decide) rfl ?_
  intro p e s m args below meth c s₁ B hml hv
  obtain ⟨rfl, hsz, hP, hK, hD0, hY⟩ := hv
  have hx := B.exec
  have hb := B.bytes
  have hr := B.returns
  have hts := atoms_spec (ws := wsJ5_inflateIfNeededFor_a7421) B.pre
  have hown : s.vm.findClass RJ5 = some m.cls := findClass_of_methodNamed B.named
  have hlocks := B.notSynchronized
  subst hsz
  have hD := hD0.self (sz := s.heap.size)
  generalize hAe : va_A [BWo sb vb cnt, BWa ca vb f] s.heap.size = A at hD hY ⊢
  have hA : ∀ q : Nat, s.heap.size ≤ q → A q := fun q h => by rw [← hAe]; exact Or.inr h
  have hS : va_S A s.heap s.heap [] := va_S.rf
  have hin4 : ∀ w ∈ wsJ40, w ∈ wsJ5_inflateIfNeededFor_a7421 := by decide +kernel
  refine W_entry (Nat.le_of_ble_eq_true rfl) (fun ls hl => ?_)
  have hl : lv_has ls 2 [(0, .ref sb), (1, .ref (lk i))] := hl
  obtain ⟨hRr, hT⟩ := hY.2.1 i hi
  refine va_gets hx hb hY.1.1.1.1 hS hown (hts (.fieldLink RJ5 18 "java/lang/String" "COMPACT_STRINGS" "Z") (by decide +kernel)) (fun _ h9 => h9) dJ5_inflateIfNeededFor_a7421_0 ?_
  refine lv_if_eq (tgt := 21) hx hb dJ5_inflateIfNeededFor_a7421_3 (by decide) (fun q => absurd q (by decide)) (fun _ => ?_)
  refine lv_aload_n hx hb dJ5_inflateIfNeededFor_a7421_6 rfl (lv_at hl 0 rfl) ?_
  refine va_get (D := D) (ci := 1) (v := .int 0) (C := RJ4) (T := TJ4) (N := 4) hx hb hts hin4 hown hK hP 0 rfl rfl 1 (by decide) (hts (.fieldLink RJ5 22 "java/lang/AbstractStringBuilder" "coder" "B") (by decide +kernel)) (fun _ h9 => h9) rfl dJ5_inflateIfNeededFor_a7421_7 ?_
  refine lv_aload_n hx hb dJ5_inflateIfNeededFor_a7421_10 rfl (lv_at hl 1 rfl) ?_
  refine hcXi (v := 0) (As := []) (rest := [.int 0]) ⟨hx, hb, hml, hown, hts⟩ (kJ0_coder_7d493 l (lk i) (lv i) (lawN i) (lawF i)) (cwV 0 hts gJ5_inflateIfNeededFor_a7421_J0_coder_7d493 rfl rfl rfl (by decide +kernel) ⟨Nat.le_of_ble_eq_true rfl, Nat.le_of_ble_eq_true rfl⟩) hS hT hY.1.1.1 rfl hl.1 rfl (Nat.le_of_ble_eq_true rfl) ⟨Nat.zero_le _, Nat.zero_le _⟩ dJ5_inflateIfNeededFor_a7421_11 ?_
  refine lv_icmp_eq (tgt := 21) hx hb dJ5_inflateIfNeededFor_a7421_14 (by decide) (fun _ => ?_) (fun q => absurd rfl q)
  exact W.vret hx hb hr (fun t ht hW => ⟨⟨(), rfl, trivial, by rw [ht]; exact hP, va_K.moved hW.alike hK, hD⟩, hS.F ht⟩) hS.2.2 dJ5_inflateIfNeededFor_a7421_21
set_option maxHeartbeats 4000000 in
set_option maxRecDepth 100000 in
theorem kJ0_getBytes_840e7 (l : Launch) (D : va_G) (ca : Nat → ClassId) (en ks vs lk lv : Nat → Nat) (sz : Nat) (vb cnt : Nat) (f : Nat → Int32) (i : Nat) (hi : i < 6) (hc : cnt + lawN i ≤ 16) : Met l yJ0_getBytes_840e7 wsJ0_getBytes_840e7 ({ frames := 1, cells := 0, slots := 0, locals := 20 }) (MGPc D ca (YX en ks vs lk lv) sz [BWa ca vb f] [.ref (lk i), .ref vb, .int (nI cnt), .int 0]) (va_Qv (fun _ : Unit => True) (MB D ca (va_A [BWa ca vb f] sz) (fun _ : Unit => [BWa ca vb (va_cpy (lawF i) f 0 cnt (lawN i))])) (va_A [BWa ca vb f] sz)) 0 0 (va_A [BWa ca vb f] sz) := by
  refine Met.ofW (cc := cJ0_getBytes_840e7) (maxL := 4) (ret := none) (by decide) rfl ?_
  intro p e s m args below meth c s₁ B hml hv
  obtain ⟨rfl, hsz, hP, hK, hD0, hY⟩ := hv
  have hx := B.exec
  have hb := B.bytes
  have hr := B.returns
  have hts := atoms_spec (ws := wsJ0_getBytes_840e7) B.pre
  have hown : s.vm.findClass RJ0 = some m.cls := findClass_of_methodNamed B.named
  have hlocks := B.notSynchronized
  subst hsz
  have hD := hD0.self (sz := s.heap.size)
  generalize hAe : va_A [BWa ca vb f] s.heap.size = A at hD hY ⊢
  have hA : ∀ q : Nat, s.heap.size ≤ q → A q := fun q h => by rw [← hAe]; exact Or.inr h
  have hS : va_S A s.heap s.heap [] := va_S.rf
  refine W_entry (Nat.le_of_ble_eq_true rfl) (fun ls hl => ?_)
  have hl : lv_has ls 4 [(0, .ref (lk i)), (1, .ref vb), (2, .int (nI cnt)), (3, .int 0)] := hl
  obtain ⟨hRr, hT⟩ := hY.2.1 i hi
  refine lv_aload_n hx hb dJ0_getBytes_840e7_0 rfl (lv_at hl 0 rfl) ?_
  refine hcXi (v := 0) (As := []) (rest := []) ⟨hx, hb, hml, hown, hts⟩ (kJ0_coder_7d493 l (lk i) (lv i) (lawN i) (lawF i)) (cwV 0 hts gJ0_getBytes_840e7_J0_coder_7d493 rfl rfl rfl (by decide +kernel) ⟨Nat.le_of_ble_eq_true rfl, Nat.le_of_ble_eq_true rfl⟩) hS hT hY.1.1.1 rfl hl.1 rfl (Nat.le_of_ble_eq_true rfl) ⟨Nat.zero_le _, Nat.zero_le _⟩ dJ0_getBytes_840e7_1 ?_
  refine lv_iload_n hx hb dJ0_getBytes_840e7_4 rfl (lv_at hl 3 rfl) ?_
  refine lv_icmp_ne (tgt := 28) hx hb dJ0_getBytes_840e7_5 (by decide) (fun q => absurd rfl q) (fun _ => ?_)
  refine lv_aload_n hx hb dJ0_getBytes_840e7_8 rfl (lv_at hl 0 rfl) ?_
  refine vk_getf hx hb hT.2.2.1 hS hown (hts (.fieldLink RJ0 9 "java/lang/String" "value" "[B") (by decide +kernel)) (fun _ h9 => h9) dJ0_getBytes_840e7_9 ?_
  refine lv_iconst (v := 0) hx hb dJ0_getBytes_840e7_12 (by decide) ?_
  refine lv_aload_n hx hb dJ0_getBytes_840e7_13 rfl (lv_at hl 1 rfl) ?_
  refine lv_iload_n hx hb dJ0_getBytes_840e7_14 rfl (lv_at hl 2 rfl) ?_
  refine lv_iload_n hx hb dJ0_getBytes_840e7_15 rfl (lv_at hl 3 rfl) ?_
  refine lv_ishl hx hb dJ0_getBytes_840e7_16 ?_
  refine lv_to (y := nI cnt) (sb_shl0 _) ?_
  refine lv_aload_n hx hb dJ0_getBytes_840e7_17 rfl (lv_at hl 0 rfl) ?_
  refine vk_getf hx hb hT.2.2.1 hS hown (hts (.fieldLink RJ0 9 "java/lang/String" "value" "[B") (by decide +kernel)) (fun _ h9 => h9) dJ0_getBytes_840e7_18 ?_
  refine va_tlen hx hb hT.2.2.2 hS (v := nI (lawN i)) rfl dJ0_getBytes_840e7_21 ?_
  have e1 : (nI cnt).toNatClampNeg = cnt := nI_clamp (by omega)
  have e2 : (nI (lawN i)).toNatClampNeg = lawN i := nI_clamp (by omega)
  refine vk_copyt hx hb (hml.trans hl.1.symm) hown (hts (.methodLink RJ0 212 arraycopyName) (by decide +kernel)) (hts (.native arraycopyName) (by decide +kernel)) (hts (.static arraycopyName) (by decide +kernel)) (hts (.initialized "java/lang/System") (by decide +kernel)) hK hP hD hS hT.2.2.2 0 5 rfl rfl (by decide) (nI_pos (by omega)) (nI_pos (by omega)) (by rw [e2]; exact Nat.le_of_eq (Nat.zero_add _)) (by rw [e1, e2]; exact hc) (fun j hj => FB_law i hi _) (Nat.le_of_ble_eq_true rfl) (Nat.le_of_ble_eq_true rfl) dJ0_getBytes_840e7_22 (fun H locs hP hD hS => ?_)
  have hP : va_P D vwCl [BWa ca vb (va_cpy (lawF i) f 0 cnt (lawN i))] H := by
    have h := hP
    rw [e1, e2] at h
    exact h
  have hD : va_D A [BWa ca vb (va_cpy (lawF i) f 0 cnt (lawN i))] := by
    have h := hD
    rw [e1, e2] at h
    exact h
  refine lv_goto (tgt := 43) hx hb dJ0_getBytes_840e7_25 (by decide) ?_
  exact W.vret hx hb hr (fun t ht hW => ⟨⟨(), rfl, trivial, by rw [ht]; exact hP, va_K.moved hW.alike hK, hD⟩, hS.F ht⟩) hS.2.2 dJ0_getBytes_840e7_43
set_option maxHeartbeats 4000000 in
set_option maxRecDepth 100000 in
theorem kJ5_putStringAt_47b60 (l : Launch) (D : va_G) (ca : Nat → ClassId) (en ks vs lk lv : Nat → Nat) (sz : Nat) (sb vb cnt : Nat) (f : Nat → Int32) (i : Nat) (hi : i < 6) (hc : cnt + lawN i ≤ 16) : Met l yJ5_putStringAt_47b60 wsJ5_putStringAt_47b60 ({ frames := 2, cells := 0, slots := 0, locals := 53 }) (MGPc D ca (YX en ks vs lk lv) sz [BWo sb vb cnt, BWa ca vb f] [.ref sb, .int (nI cnt), .ref (lk i)]) (va_Qv (fun _ : Unit => True) (MB D ca (va_A [BWo sb vb cnt, BWa ca vb f] sz) (fun _ : Unit => [BWo sb vb cnt, BWa ca vb (va_cpy (lawF i) f 0 cnt (lawN i))])) (va_A [BWo sb vb cnt, BWa ca vb f] sz)) 0 0 (va_A [BWo sb vb cnt, BWa ca vb f] sz) := by
  refine Met.ofW (cc := cJ5_putStringAt_47b60) (maxL := 3) (ret := none) (by decide) rfl ?_
  intro p e s m args below meth c s₁ B hml hv
  obtain ⟨rfl, hsz, hP, hK, hD0, hY⟩ := hv
  have hx := B.exec
  have hb := B.bytes
  have hr := B.returns
  have hts := atoms_spec (ws := wsJ5_putStringAt_47b60) B.pre
  have hown : s.vm.findClass RJ5 = some m.cls := findClass_of_methodNamed B.named
  have hlocks := B.notSynchronized
  subst hsz
  have hD := hD0.self (sz := s.heap.size)
  generalize hAe : va_A [BWo sb vb cnt, BWa ca vb f] s.heap.size = A at hD hY ⊢
  have hA : ∀ q : Nat, s.heap.size ≤ q → A q := fun q h => by rw [← hAe]; exact Or.inr h
  have hS : va_S A s.heap s.heap [] := va_S.rf
  have hin4 : ∀ w ∈ wsJ40, w ∈ wsJ5_putStringAt_47b60 := by decide +kernel
  refine W_entry (Nat.le_of_ble_eq_true rfl) (fun ls hl => ?_)
  have hl : lv_has ls 3 [(0, .ref sb), (1, .int (nI cnt)), (2, .ref (lk i))] := hl
  refine lv_aload_n hx hb dJ5_putStringAt_47b60_0 rfl (lv_at hl 0 rfl) ?_
  refine lv_aload_n hx hb dJ5_putStringAt_47b60_1 rfl (lv_at hl 2 rfl) ?_
  refine rowV (wr := []) (wc := [BWo sb vb cnt, BWa ca vb f]) (f := fun _ : Unit => [BWo sb vb cnt, BWa ca vb f]) (va_runU (As := [.ref (lk i)]) (rest := []) ⟨hx, hb, hml, hown, hts⟩ (kJ5_inflateIfNeededFor_a7421 l D ca en ks vs lk lv _ sb vb cnt f i hi) (va_cwU 1 hts gJ5_putStringAt_47b60_J5_inflateIfNeededFor_a7421_u397J4 rfl rfl rfl rfl (by decide +kernel) ⟨Nat.le_of_ble_eq_true rfl, Nat.le_of_ble_eq_true rfl⟩) (MGv (wr := []) (q0 := 0) (ci := 1) (YX_ok en ks vs lk lv) hK hP hD hS hA hY (List.Perm.refl _) rfl rfl) rfl rfl hl.1 rfl (lv_room (Nat.le_of_ble_eq_true rfl)) dJ5_putStringAt_47b60_2 ⟨Nat.le_of_ble_eq_true rfl, Nat.le_of_ble_eq_true rfl⟩) hP hD hS hA (List.Perm.refl _) (fun _ H locs _ hP hD hS => ?_)
  refine lv_aload_n hx hb dJ5_putStringAt_47b60_5 rfl (lv_at hl 2 rfl) ?_
  refine lv_aload_n hx hb dJ5_putStringAt_47b60_6 rfl (lv_at hl 0 rfl) ?_
  refine va_get (D := D) (ci := 1) (v := .ref vb) (C := RJ4) (T := TJ4) (N := 4) hx hb hts hin4 hown hK hP 0 rfl rfl 0 (by decide) (hts (.fieldLink RJ5 15 "java/lang/AbstractStringBuilder" "value" "[B") (by decide +kernel)) (fun _ h9 => h9) rfl dJ5_putStringAt_47b60_7 ?_
  refine lv_iload_n hx hb dJ5_putStringAt_47b60_10 rfl (lv_at hl 1 rfl) ?_
  refine lv_aload_n hx hb dJ5_putStringAt_47b60_11 rfl (lv_at hl 0 rfl) ?_
  refine va_get (D := D) (ci := 1) (v := .int 0) (C := RJ4) (T := TJ4) (N := 4) hx hb hts hin4 hown hK hP 0 rfl rfl 1 (by decide) (hts (.fieldLink RJ5 22 "java/lang/AbstractStringBuilder" "coder" "B") (by decide +kernel)) (fun _ h9 => h9) rfl dJ5_putStringAt_47b60_12 ?_
  obtain ⟨hRr, hT⟩ := hY.2.1 i hi
  refine rowV (wr := [BWo sb vb cnt]) (wc := [BWa ca vb f]) (f := fun _ : Unit => [BWa ca vb (va_cpy (lawF i) f 0 cnt (lawN i))]) (va_runV (As := [.ref vb, .int (nI cnt), .int 0]) (rest := []) ⟨hx, hb, hml, hown, hts⟩ (kJ0_getBytes_840e7 l D ca en ks vs lk lv _ vb cnt f i hi hc) (cwV 3 hts gJ5_putStringAt_47b60_J0_getBytes_840e7 rfl rfl rfl (by decide +kernel) ⟨Nat.le_of_ble_eq_true rfl, Nat.le_of_ble_eq_true rfl⟩) ⟨MGPc_blind (YX_ok en ks vs lk lv), va_Orecv hT.1 hS, (MGp (wr := [BWo sb vb cnt]) (YX_ok en ks vs lk lv) hK hP hD hS hA hY (List.Perm.refl _)).2⟩ rfl rfl hl.1 rfl (lv_room (Nat.le_of_ble_eq_true rfl)) dJ5_putStringAt_47b60_15 ⟨Nat.le_of_ble_eq_true rfl, Nat.le_of_ble_eq_true rfl⟩) hP hD hS hA (List.Perm.refl _) (fun _ H locs _ hP hD hS => ?_)
  exact W.vret hx hb hr (fun t ht hW => ⟨⟨(), rfl, trivial, by rw [ht]; exact hP, va_K.moved hW.alike hK, hD⟩, hS.F ht⟩) hS.2.2 dJ5_putStringAt_47b60_18
set_option maxHeartbeats 4000000 in
set_option maxRecDepth 100000 in
theorem kJ5_append_cf1ce (l : Launch) (D : va_G) (ca : Nat → ClassId) (en ks vs lk lv : Nat → Nat) (sz : Nat) (sb vb cnt : Nat) (f : Nat → Int32) (i : Nat) (hi : i < 6) (hc : cnt + lawN i ≤ 16) : Met l yJ5_append_cf1ce wsJ5_append_cf1ce ({ frames := 3, cells := 0, slots := 0, locals := 75 }) (MGPc D ca (YX en ks vs lk lv) sz [BWo sb vb cnt, BWa ca vb f] [.ref sb, .ref (lk i)]) (va_Qr (fun a9 : Nat => a9 = sb) (fun u a t => a = u ∧ MB D ca (va_A [BWo sb vb cnt, BWa ca vb f] sz) (fun _ : Nat => [BWo sb vb (cnt + lawN i), BWa ca vb (va_cpy (lawF i) f 0 cnt (lawN i))]) u t) (va_A [BWo sb vb cnt, BWa ca vb f] sz)) 0 0 (va_A [BWo sb vb cnt, BWa ca vb f] sz) := by
  refine Met.ofW (cc := cJ5_append_cf1ce) (maxL := 3) (ret := (some (.object "java/lang/AbstractStringBuilder"))) (by decide) rfl ?_
  intro p e s m args below meth c s₁ B hml hv
  obtain ⟨rfl, hsz, hP, hK, hD0, hY⟩ := hv
  have hx := B.exec
  have hb := B.bytes
  have hr := B.returns
  have hts := atoms_spec (ws := wsJ5_append_cf1ce) B.pre
  have hown : s.vm.findClass RJ5 = some m.cls := findClass_of_methodNamed B.named
  have hlocks := B.notSynchronized
  subst hsz
  have hD := hD0.self (sz := s.heap.size)
  generalize hAe : va_A [BWo sb vb cnt, BWa ca vb f] s.heap.size = A at hD hY ⊢
  have hA : ∀ q : Nat, s.heap.size ≤ q → A q := fun q h => by rw [← hAe]; exact Or.inr h
  have hS : va_S A s.heap s.heap [] := va_S.rf
  have hin4 : ∀ w ∈ wsJ40, w ∈ wsJ5_append_cf1ce := by decide +kernel
  refine W_entry (Nat.le_of_ble_eq_true rfl) (fun ls hl => ?_)
  have hl : lv_has ls 3 [(0, .ref sb), (1, .ref (lk i))] := hl
  refine lv_aload_n hx hb dJ5_append_cf1ce_0 rfl (lv_at hl 1 rfl) ?_
  obtain ⟨hRr, hT⟩ := hY.2.1 i hi
  refine lv_ifnonnull (tgt := 9) hx hb dJ5_append_cf1ce_1 (by decide) ?_
  refine lv_aload_n hx hb dJ5_append_cf1ce_9 rfl (lv_at hl 1 rfl) ?_
  refine hcXi (v := nI (lawN i)) (As := []) (rest := []) ⟨hx, hb, hml, hown, hts⟩ (kJ0_length_8abf5 l (lk i) (lv i) (lawN i) (lawF i) (by omega)) (cwV 0 hts gJ5_append_cf1ce_J0_length_8abf5 rfl rfl rfl (by decide +kernel) ⟨Nat.le_of_ble_eq_true rfl, Nat.le_of_ble_eq_true rfl⟩) hS hT hY.1.1.1 rfl hl.1 rfl (Nat.le_of_ble_eq_true rfl) ⟨Nat.zero_le _, Nat.zero_le _⟩ dJ5_append_cf1ce_10 ?_
  refine lv_istore_n (lv' := [(2, .int (nI (lawN i))), (0, .ref sb), (1, .ref (lk i))]) hx hb dJ5_append_cf1ce_13 rfl hl (by decide) rfl (fun ls hl => ?_)
  refine lv_aload_n hx hb dJ5_append_cf1ce_14 rfl (lv_at hl 1 rfl) ?_
  refine lv_aload_n hx hb dJ5_append_cf1ce_15 rfl (lv_at hl 1 rfl) ?_
  refine va_get (D := D) (ci := 1) (v := .int (nI cnt)) (C := RJ4) (T := TJ4) (N := 4) hx hb hts hin4 hown hK hP 0 rfl rfl 3 (by decide) (hts (.fieldLink RJ5 79 "java/lang/AbstractStringBuilder" "count" "I") (by decide +kernel)) (fun _ h9 => h9) rfl dJ5_append_cf1ce_16 ?_
  refine lv_iload_n hx hb dJ5_append_cf1ce_19 rfl (lv_at hl 0 rfl) ?_
  refine iaddN hx hb dJ5_append_cf1ce_20 ?_
  refine rowV (wr := []) (wc := [BWo sb vb cnt, BWa ca vb f]) (f := fun _ : Unit => [BWo sb vb cnt, BWa ca vb f]) (va_runU (As := [.int (nI (cnt + lawN i))]) (rest := []) ⟨hx, hb, hml, hown, hts⟩ (kJ5_ensureCapacityInternal_d00df l D ca en ks vs lk lv _ sb vb cnt (cnt + lawN i) f hc) (va_cwU 1 hts gJ5_append_cf1ce_J5_ensureCapacityInternal_d00df_u100J4 rfl rfl rfl rfl (by decide +kernel) ⟨Nat.le_of_ble_eq_true rfl, Nat.le_of_ble_eq_true rfl⟩) (MGv (wr := []) (q0 := 0) (ci := 1) (YX_ok en ks vs lk lv) hK hP hD hS hA hY (List.Perm.refl _) rfl rfl) rfl rfl hl.1 rfl (lv_room (Nat.le_of_ble_eq_true rfl)) dJ5_append_cf1ce_21 ⟨Nat.le_of_ble_eq_true rfl, Nat.le_of_ble_eq_true rfl⟩) hP hD hS hA (List.Perm.refl _) (fun _ H locs _ hP hD hS => ?_)
  refine lv_aload_n hx hb dJ5_append_cf1ce_24 rfl (lv_at hl 1 rfl) ?_
  refine lv_aload_n hx hb dJ5_append_cf1ce_25 rfl (lv_at hl 1 rfl) ?_
  refine va_get (D := D) (ci := 1) (v := .int (nI cnt)) (C := RJ4) (T := TJ4) (N := 4) hx hb hts hin4 hown hK hP 0 rfl rfl 3 (by decide) (hts (.fieldLink RJ5 79 "java/lang/AbstractStringBuilder" "count" "I") (by decide +kernel)) (fun _ h9 => h9) rfl dJ5_append_cf1ce_26 ?_
  refine lv_aload_n hx hb dJ5_append_cf1ce_29 rfl (lv_at hl 2 rfl) ?_
  refine rowV (wr := []) (wc := [BWo sb vb cnt, BWa ca vb f]) (f := fun _ : Unit => [BWo sb vb cnt, BWa ca vb (va_cpy (lawF i) f 0 cnt (lawN i))]) (va_runU (As := [.int (nI cnt), .ref (lk i)]) (rest := []) ⟨hx, hb, hml, hown, hts⟩ (kJ5_putStringAt_47b60 l D ca en ks vs lk lv _ sb vb cnt f i hi hc) (va_cwU 2 hts gJ5_append_cf1ce_J5_putStringAt_47b60_u208J4 rfl rfl rfl rfl (by decide +kernel) ⟨Nat.le_of_ble_eq_true rfl, Nat.le_of_ble_eq_true rfl⟩) (MGv (wr := []) (q0 := 0) (ci := 1) (YX_ok en ks vs lk lv) hK hP hD hS hA hY (List.Perm.refl _) rfl rfl) rfl rfl hl.1 rfl (lv_room (Nat.le_of_ble_eq_true rfl)) dJ5_append_cf1ce_30 ⟨Nat.le_of_ble_eq_true rfl, Nat.le_of_ble_eq_true rfl⟩) hP hD hS hA (List.Perm.refl _) (fun _ H locs _ hP hD hS => ?_)
  refine lv_aload_n hx hb dJ5_append_cf1ce_33 rfl (lv_at hl 1 rfl) ?_
  refine lv_dup hx hb dJ5_append_cf1ce_34 rfl ?_
  refine va_get (D := D) (ci := 1) (v := .int (nI cnt)) (C := RJ4) (T := TJ4) (N := 4) hx hb hts hin4 hown hK hP 0 rfl rfl 3 (by decide) (hts (.fieldLink RJ5 79 "java/lang/AbstractStringBuilder" "count" "I") (by decide +kernel)) (fun _ h9 => h9) rfl dJ5_append_cf1ce_35 ?_
  refine lv_iload_n hx hb dJ5_append_cf1ce_38 rfl (lv_at hl 0 rfl) ?_
  refine iaddN hx hb dJ5_append_cf1ce_39 ?_
  refine va_put (D := D) (ci := 1) (v := .int (nI (cnt + lawN i))) (ty := .int) (C := RJ4) (T := TJ4) (N := 4) hx hb hts hin4 tyJ4 tyJ4_ok nmJ4 hown hK hP hD hS 0 rfl rfl 3 (by decide) (hts (.fieldLink RJ5 79 "java/lang/AbstractStringBuilder" "count" "I") (by decide +kernel)) (fun _ h9 => h9) rfl rfl rfl rfl (Nat.le_of_ble_eq_true rfl) dJ5_append_cf1ce_40 (fun H locs hP hD hS => ?_)
  refine lv_aload_n hx hb dJ5_append_cf1ce_43 rfl (lv_at hl 1 rfl) ?_
  exact W.aret (v := .ref sb) hx hb hr (Or.inl ⟨_, rfl⟩) (Or.inr ⟨_, rfl⟩) (fun t ht hW => ⟨⟨sb, sb, rfl, rfl, rfl, by rw [ht]; exact hP, va_K.moved hW.alike hK, hD⟩, hS.F ht⟩) hS.2.2 dJ5_append_cf1ce_44
set_option maxHeartbeats 4000000 in
set_option maxRecDepth 100000 in
theorem kJ4_append_15ec4 (l : Launch) (D : va_G) (ca : Nat → ClassId) (en ks vs lk lv : Nat → Nat) (sz : Nat) (sb vb cnt : Nat) (f : Nat → Int32) (i : Nat) (hi : i < 6) (hc : cnt + lawN i ≤ 16) : Met l yJ4_append_15ec4 wsJ4_append_15ec4 ({ frames := 4, cells := 0, slots := 0, locals := 97 }) (MGPc D ca (YX en ks vs lk lv) sz [BWo sb vb cnt, BWa ca vb f] [.ref sb, .ref (lk i)]) (va_Qr (fun a9 : Nat => a9 = sb) (fun u a t => a = u ∧ MB D ca (va_A [BWo sb vb cnt, BWa ca vb f] sz) (fun _ : Nat => [BWo sb vb (cnt + lawN i), BWa ca vb (va_cpy (lawF i) f 0 cnt (lawN i))]) u t) (va_A [BWo sb vb cnt, BWa ca vb f] sz)) 0 0 (va_A [BWo sb vb cnt, BWa ca vb f] sz) := by
  refine Met.ofW (cc := cJ4_append_15ec4) (maxL := 2) (ret := (some (.object "java/lang/StringBuilder"))) (by decide) rfl ?_
  intro p e s m args below meth c s₁ B hml hv
  obtain ⟨rfl, hsz, hP, hK, hD0, hY⟩ := hv
  have hx := B.exec
  have hb := B.bytes
  have hr := B.returns
  have hts := atoms_spec (ws := wsJ4_append_15ec4) B.pre
  have hown : s.vm.findClass RJ4 = some m.cls := findClass_of_methodNamed B.named
  have hlocks := B.notSynchronized
  subst hsz
  have hD := hD0.self (sz := s.heap.size)
  generalize hAe : va_A [BWo sb vb cnt, BWa ca vb f] s.heap.size = A at hD hY ⊢
  have hA : ∀ q : Nat, s.heap.size ≤ q → A q := fun q h => by rw [← hAe]; exact Or.inr h
  have hS : va_S A s.heap s.heap [] := va_S.rf
  have hin4 : ∀ w ∈ wsJ40, w ∈ wsJ4_append_15ec4 := by decide +kernel
  refine W_entry (Nat.le_of_ble_eq_true rfl) (fun ls hl => ?_)
  have hl : lv_has ls 2 [(0, .ref sb), (1, .ref (lk i))] := hl
  refine lv_aload_n hx hb dJ4_append_15ec4_0 rfl (lv_at hl 0 rfl) ?_
  refine lv_aload_n hx hb dJ4_append_15ec4_1 rfl (lv_at hl 1 rfl) ?_
  refine rowA (wr := []) (wc := [BWo sb vb cnt, BWa ca vb f]) (w9 := [BWo sb vb (cnt + lawN i), BWa ca vb (va_cpy (lawF i) f 0 cnt (lawN i))]) (va_runSU (hK.1 1 _ rfl).2 (As := [.ref (lk i)]) (rest := []) ⟨hx, hb, hml, hown, hts⟩ (kJ5_append_cf1ce l D ca en ks vs lk lv _ sb vb cnt f i hi hc) (va_cwSU 1 hts gJ4_append_15ec4_J5_append_cf1ce_s29 rfl rfl rfl (by decide +kernel) ⟨Nat.le_of_ble_eq_true rfl, Nat.le_of_ble_eq_true rfl⟩) (MGv (wr := []) (q0 := 0) (ci := 1) (YX_ok en ks vs lk lv) hK hP hD hS hA hY (List.Perm.refl _) rfl rfl) rfl rfl hl.1 rfl (lv_room (Nat.le_of_ble_eq_true rfl)) dJ4_append_15ec4_2 ⟨Nat.le_of_ble_eq_true rfl, Nat.le_of_ble_eq_true rfl⟩) hP hD hS hA (List.Perm.refl _) (fun H locs hP hD hS => ?_)
  refine lv_pop hx hb dJ4_append_15ec4_5 rfl ?_
  refine lv_aload_n hx hb dJ4_append_15ec4_6 rfl (lv_at hl 0 rfl) ?_
  exact W.aret (v := .ref sb) hx hb hr (Or.inl ⟨_, rfl⟩) (Or.inr ⟨_, rfl⟩) (fun t ht hW => ⟨⟨sb, sb, rfl, rfl, rfl, by rw [ht]; exact hP, va_K.moved hW.alike hK, hD⟩, hS.F ht⟩) hS.2.2 dJ4_append_15ec4_7
