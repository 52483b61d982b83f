/-! the law's calls -/
section ROWL
variable {p : Program} {l : Launch} {e : Env} {R : Room} {s : State} {m : MethodId} {args : Array Value} {below : List Frame} {meth : Method} {c : Code} {H : Heap} {locs : List Loc} {cells slots : Nat} {Q : State → Prop}
variable {D : va_G} {ca : Nat → ClassId} {en ks vs : Nat → Nat} {ai : Nat → Nat → Nat} {ad bd : Nat → Nat} {u : OS} {ws wr wc : va_W} {As rest st0 : List Value} {index n pc nL maxL : Nat} {y : MethodName} {bytes cc : ByteArray} {ret : Option FieldType} {hh : List (Nat × Nat × Nat × Nat)} {wsy Ts : List Cond} {rm : Room} {own : String} {ls : Array Slot} {A0 : Nat → Prop} {G : Int32 × OS}
/-- a call of a wrapper -/
theorem hcLi (S : CallFix p m c cc nL s args Ts own) (hM : LMet l y wsy rm D ca en ks vs ai ad bd H.size u As G) (cw : vx_CSW R s args own index y bytes maxL ret hh wsy rm 2 12 n) (hK : va_K D vwCl (TYS ca) s) (hP : va_P D vwCl ws H) (hD : va_D A0 ws) (hS : va_S A0 s.heap H locs) (hA : ∀ q, s.heap.size ≤ q → A0 q) (hX : HX en ks vs A0 s s.heap) (hperm : ws.Perm (wr ++ OW ca en ai ad bd u)) (hn : As.length = n) (hsize : ls.size = nL) (hst : st0 = As.reverse ++ rest) (hW : (rest.map fun v => v.category).sum ≤ 8) (hf : cells + 2 ≤ R.cells ∧ slots + 12 ≤ R.slots) (hdg : decode cc pc = .ok (.invokestatic index, 3))
    (kk : ∀ (H1 : Heap) (locs1 : List Loc), va_P D vwCl (wr ++ OW ca en ai ad bd G.2) H1 → va_D A0 (wr ++ OW ca en ai ad bd G.2) → va_S A0 s.heap H1 locs1 → W p l e R s m args below meth c H1 locs1 (cells + 2) (slots + 12) Q (F0 m (pc + 3) ls (.int G.1 :: rest))) : W p l e R s m args below meth c H locs cells slots Q (F0 m pc ls st0) := by
  have hPc := P_right (P_perm hperm hP)
  have hDc := D_right (D_perm hperm hD)
  have hF := J_free hperm hD hS hA
  unfold LMet at hM
  refine va_calli (vx_runSW S hM cw ⟨MGPc_blind (HX_ok en ks vs), fun U hU hW => ⟨rfl, by rw [hU], by rw [hU]; exact hPc, va_K.moved hW.alike hK, hDc.weaken (fun _ _ _ _ => trivial), X_at (HX_ok en ks vs) hX hS hF hU hW⟩⟩ rfl hn hsize hst (lv_room hW) hdg hf) hS (fun q _ h => hF q h) hF (fun r z t H1 locs1 ht hvm hw hB hz hk hS1 => ?_)
  obtain ⟨hP1, -, hD1⟩ := hB
  rw [ht] at hP1
  obtain ⟨g1, g2⟩ := J_join hperm hP hD hk hF hP1 hD1
  subst hw
  exact kk H1 locs1 g1 g2 hS1
/-- .. of meanCover's -/
theorem hcLd {v : UInt64} (S : CallFix p m c cc nL s args Ts own) (hM : Met l y wsy rm (MGPc D ca (HX en ks vs) H.size (OW ca en ai ad bd u) As) (va_Qd (fun r w => (r, w) = (v, u)) (MB D ca (va_A (OW ca en ai ad bd u) H.size) (fun v => OW ca en ai ad bd v)) (va_A (OW ca en ai ad bd u) H.size)) 2 12 (va_A (OW ca en ai ad bd u) H.size)) (cw : vx_CSW R s args own index y bytes maxL ret hh wsy rm 2 12 n) (hK : va_K D vwCl (TYS ca) s) (hP : va_P D vwCl ws H) (hD : va_D A0 ws) (hS : va_S A0 s.heap H locs) (hA : ∀ q, s.heap.size ≤ q → A0 q) (hX : HX en ks vs A0 s s.heap) (hperm : ws.Perm (wr ++ OW ca en ai ad bd u)) (hn : As.length = n) (hsize : ls.size = nL) (hst : st0 = As.reverse ++ rest) (hW : (rest.map fun v => v.category).sum ≤ 8) (hf : cells + 2 ≤ R.cells ∧ slots + 12 ≤ R.slots) (hdg : decode cc pc = .ok (.invokestatic index, 3))
    (kk : ∀ (H1 : Heap) (locs1 : List Loc), va_P D vwCl (wr ++ OW ca en ai ad bd u) H1 → va_D A0 (wr ++ OW ca en ai ad bd u) → va_S A0 s.heap H1 locs1 → W p l e R s m args below meth c H1 locs1 (cells + 2) (slots + 12) Q (F0 m (pc + 3) ls (.double v :: rest))) : W p l e R s m args below meth c H locs cells slots Q (F0 m pc ls st0) := by
  have hPc := P_right (P_perm hperm hP)
  have hDc := D_right (D_perm hperm hD)
  have hF := J_free hperm hD hS hA
  refine va_calld (vx_runSW S hM cw ⟨MGPc_blind (HX_ok en ks vs), fun U hU hW => ⟨rfl, by rw [hU], by rw [hU]; exact hPc, va_K.moved hW.alike hK, hDc.weaken (fun _ _ _ _ => trivial), X_at (HX_ok en ks vs) hX hS hF hU hW⟩⟩ rfl hn hsize hst (lv_room hW) hdg hf) hS (fun q _ h => hF q h) hF (fun r z t H1 locs1 ht hvm hw hB hz hk hS1 => ?_)
  obtain ⟨hP1, -, hD1⟩ := hB
  rw [ht] at hP1
  obtain ⟨g1, g2⟩ := J_join hperm hP hD hk hF hP1 hD1
  cases hw
  exact kk H1 locs1 g1 g2 hS1
/-- a static reading call on a part of the world -/
theorem hcSR {v : Int32} (S : CallFix p m c cc nL s args Ts own) (hM : Met l y wsy rm (RPc D ca wc As) (vp_Si (fun r => r = v)) 0 0 (fun _ => False)) (cw : CallB R s args own index y bytes maxL ret wsy rm 0 0 n ∧ (Cond.static y).before args s = true) (hK : va_K D vwCl (TYS ca) s) (hPc : va_P D vwCl wc H) (hn : As.length = n) (hsize : ls.size = nL) (hst : st0 = As.reverse ++ rest) (hW : (rest.map fun v => v.category).sum ≤ 8) (hf : cells ≤ R.cells ∧ slots ≤ R.slots) (hdg : decode cc pc = .ok (.invokestatic index, 3))
    (kk : W p l e R s m args below meth c H locs cells slots Q (F0 m (pc + 3) ls (.int v :: rest))) : W p l e R s m args below meth c H locs cells slots Q (F0 m pc ls st0) :=
  vp_callSi (W.runS S hM cw ⟨RPc_blind, fun U hU hW => ⟨rfl, by rw [hU]; exact hPc, va_K.moved hW.alike hK⟩⟩ rfl hn hsize hst (lv_room hW) hdg hf) (fun r h => by cases h; exact kk)
end ROWL
def fAt (n : Nat) (f : Nat → Int32) (j : Nat) : Int32 := if n ≤ j then 0 else f j
def fSome (v n : Int32) : Int32 := if v - v / n * n < 0 then v - v / n * n + n else v - v / n * n
set_option maxHeartbeats 4000000 in
set_option maxRecDepth 100000 in
theorem kL_at (l : Launch) (D : va_G) (ca : Nat → ClassId) (b n : Nat) (f : Nat → Int32) (j : Nat) (hn : n < 2 ^ 31) (hj : j < 2 ^ 31) : Met l yL_at wsL_at ({ frames := 0, cells := 0, slots := 0, locals := 0 }) (RPc D ca [(b, .inl (ca 0, n, .inl f))] [.ref b, .int (nI j)]) (vp_Si (fun r => r = fAt n f j)) 0 0 (fun _ => False) := by
  refine Met.ofW (cc := cL_at) (maxL := 2) (ret := some .int) (by decide) rfl ?_
  intro p e s m args below meth c s₁ B hml hv
  obtain ⟨rfl, hP, hK⟩ := hv
  have hx := B.exec
  have hb := B.bytes
  have hr := B.returns
  have hts := atoms_spec (ws := wsL_at) B.pre
  have hown : s.vm.findClass RL = some m.cls := findClass_of_methodNamed B.named
  have hlocks := B.notSynchronized
  have hf : fAt n f j = fAt n f j := rfl
  refine W_entry (Nat.le_of_ble_eq_true rfl) (fun ls hl => ?_)
  have hl : lv_has ls 2 [(0, .ref b), (1, .int (nI j))] := hl
  refine lv_iload_n hx hb dL_at_0 rfl (lv_at hl 1 rfl) ?_
  refine lv_aload_n hx hb dL_at_1 rfl (lv_at hl 0 rfl) ?_
  refine va_alen (v := nI n) hx hb hK hP 0 0 rfl rfl rfl dL_at_2 ?_
  refine icmpgeN (a := j) (b := n) (tgt := 12) hx hb dL_at_3 (by decide) hj hn (fun c3 => ?_) (fun c3 => ?_)
  · refine lv_iconst (v := 0) hx hb dL_at_12 (by decide) ?_
    exact W.iret hx hb hr (fun t ht hW => ⟨_, rfl, (if_pos c3).symm, ht⟩) (fun _ h => by cases h) dL_at_13
  · refine lv_aload_n hx hb dL_at_6 rfl (lv_at hl 0 rfl) ?_
    refine lv_iload_n hx hb dL_at_7 rfl (lv_at hl 1 rfl) ?_
    refine ialdN (f := f) (k := j) hx hb hK hP 0 0 rfl rfl (by omega) hn dL_at_8 ?_
    refine lv_goto (tgt := 13) hx hb dL_at_9 (by decide) ?_
    exact W.iret hx hb hr (fun t ht hW => ⟨_, rfl, (if_neg c3).symm, ht⟩) (fun _ h => by cases h) dL_at_13
set_option maxHeartbeats 4000000 in
set_option maxRecDepth 100000 in
theorem kL_some (l : Launch) (v n : Int32) (hn : ¬ n = 0) : Met l yL_some wsL_some ({ frames := 0, cells := 0, slots := 0, locals := 0 }) (va_Pc [.int v, .int n] (fun _ => True)) (vp_Si (fun r => r = fSome v n)) 0 0 (fun _ => False) := by
  refine Met.ofW (cc := cL_some) (maxL := 3) (ret := some .int) (by decide) rfl ?_
  intro p e s m args below meth c s₁ B hml hv
  obtain ⟨rfl, -⟩ := hv
  have hx := B.exec
  have hb := B.bytes
  have hr := B.returns
  have hts := atoms_spec (ws := wsL_some) B.pre
  have hown : s.vm.findClass RL = some m.cls := findClass_of_methodNamed B.named
  have hlocks := B.notSynchronized
  refine W_entry (Nat.le_of_ble_eq_true rfl) (fun ls hl => ?_)
  have hl : lv_has ls 3 [(0, .int v), (1, .int n)] := hl
  refine lv_iload_n hx hb dL_some_0 rfl (lv_at hl 0 rfl) ?_
  refine lv_iload_n hx hb dL_some_1 rfl (lv_at hl 1 rfl) ?_
  refine lv_irem hx hb dL_some_2 hn ?_
  refine lv_istore_n (lv' := [(2, .int (v - v / n * n)), (0, .int v), (1, .int n)]) hx hb dL_some_3 rfl hl (by decide) rfl (fun ls hl => ?_)
  refine lv_iload_n hx hb dL_some_4 rfl (lv_at hl 0 rfl) ?_
  refine lv_if_ge (tgt := 14) hx hb dL_some_5 (by decide) (fun c5 => ?_) (fun c5 => ?_)
  · refine lv_iload_n hx hb dL_some_14 rfl (lv_at hl 0 rfl) ?_
    exact W.iret hx hb hr (fun t ht hW => ⟨_, rfl, (if_neg (Int32.not_lt.mpr c5)).symm, ht⟩) (fun _ h => by cases h) dL_some_15
  · refine lv_iload_n hx hb dL_some_8 rfl (lv_at hl 0 rfl) ?_
    refine lv_iload_n hx hb dL_some_9 rfl (lv_at hl 2 rfl) ?_
    refine lv_iadd hx hb dL_some_10 ?_
    refine lv_goto (tgt := 15) hx hb dL_some_11 (by decide) ?_
    exact W.iret hx hb hr (fun t ht hW => ⟨_, rfl, (if_pos (Int32.not_le.mp c5)).symm, ht⟩) (fun _ h => by cases h) dL_some_15
