/-! the whole object: hall, snapshot, the history's halls, where the next goes, how many; the command text; line, its length, has-snapshot, error position, failed command, failed exception -/
abbrev OS : Type := HS × HS × (Nat → HS) × Nat × Nat × CS × (Nat → Int32) × Nat × Int32 × Int32 × Int32 × Int32
abbrev og0 (w : OS) : HS := w.1
abbrev og1 (w : OS) : HS := w.2.1
abbrev og2 (w : OS) : Nat → HS := w.2.2.1
abbrev og3 (w : OS) : Nat := w.2.2.2.1
abbrev og4 (w : OS) : Nat := w.2.2.2.2.1
abbrev og5 (w : OS) : CS := w.2.2.2.2.2.1
abbrev og6 (w : OS) : Nat → Int32 := w.2.2.2.2.2.2.1
abbrev og7 (w : OS) : Nat := w.2.2.2.2.2.2.2.1
abbrev og8 (w : OS) : Int32 := w.2.2.2.2.2.2.2.2.1
abbrev og9 (w : OS) : Int32 := w.2.2.2.2.2.2.2.2.2.1
abbrev og10 (w : OS) : Int32 := w.2.2.2.2.2.2.2.2.2.2.1
abbrev og11 (w : OS) : Int32 := w.2.2.2.2.2.2.2.2.2.2.2
abbrev os0 (x : HS) (w : OS) : OS := (x, w.2)
abbrev os1 (x : HS) (w : OS) : OS := (og0 w, x, w.2.2)
abbrev os2 (x : Nat → HS) (w : OS) : OS := (og0 w, og1 w, x, w.2.2.2)
abbrev os3 (x : Nat) (w : OS) : OS := (og0 w, og1 w, og2 w, x, w.2.2.2.2)
abbrev os4 (x : Nat) (w : OS) : OS := (og0 w, og1 w, og2 w, og3 w, x, w.2.2.2.2.2)
abbrev os5 (x : CS) (w : OS) : OS := (og0 w, og1 w, og2 w, og3 w, og4 w, x, w.2.2.2.2.2.2)
abbrev os6 (x : Nat → Int32) (w : OS) : OS := (og0 w, og1 w, og2 w, og3 w, og4 w, og5 w, x, w.2.2.2.2.2.2.2)
abbrev os7 (x : Nat) (w : OS) : OS := (og0 w, og1 w, og2 w, og3 w, og4 w, og5 w, og6 w, x, w.2.2.2.2.2.2.2.2)
abbrev os8 (x : Int32) (w : OS) : OS := (og0 w, og1 w, og2 w, og3 w, og4 w, og5 w, og6 w, og7 w, x, w.2.2.2.2.2.2.2.2.2)
abbrev os9 (x : Int32) (w : OS) : OS := (og0 w, og1 w, og2 w, og3 w, og4 w, og5 w, og6 w, og7 w, og8 w, x, w.2.2.2.2.2.2.2.2.2.2)
abbrev os10 (x : Int32) (w : OS) : OS := (og0 w, og1 w, og2 w, og3 w, og4 w, og5 w, og6 w, og7 w, og8 w, og9 w, x, w.2.2.2.2.2.2.2.2.2.2.2)
abbrev os11 (x : Int32) (w : OS) : OS := (og0 w, og1 w, og2 w, og3 w, og4 w, og5 w, og6 w, og7 w, og8 w, og9 w, og10 w, x)
abbrev oH (w : OS) : HHS := (og2 w, og3 w, og4 w, og0 w)
abbrev osH (z : HHS) (w : OS) : OS := (hv3 z, og1 w, hv0 z, hv1 z, hv2 z, og5 w, og6 w, og7 w, og8 w, og9 w, og10 w, og11 w)
def OC (ca : Nat → ClassId) (ai : Nat → Nat → Nat) (ad bd : Nat → Nat) (w : OS) : va_W := [(ad 0, .inr (6, [.ref (ai 9 8), .ref (ai 10 8), .ref (ad 1), .ref (bd 4), .ref (ad 3), .int (nI (og7 w)), .int (og8 w), .int (og9 w), .int (og10 w), .int (og11 w)])), (ad 3, .inl (ca 2, 10, .inl (og6 w)))]
def OW (ca : Nat → ClassId) (en : Nat → Nat) (ai : Nat → Nat → Nat) (ad bd : Nat → Nat) (w : OS) : va_W := (ad 0, .inr (6, [.ref (ai 9 8), .ref (ai 10 8), .ref (ad 1), .ref (bd 4), .ref (ad 3), .int (nI (og7 w)), .int (og8 w), .int (og9 w), .int (og10 w), .int (og11 w)])) :: (ad 3, .inl (ca 2, 10, .inl (og6 w))) :: (HW ca (ai 9) (og0 w) ++ (HW ca (ai 10) (og1 w) ++ (HIW ca ai ad (og2 w) (og3 w) (og4 w) ++ CW ca en bd (og5 w))))
section OWP
variable {ca : Nat → ClassId} {en : Nat → Nat} {ai : Nat → Nat → Nat} {ad bd : Nat → Nat} {w : OS}
def OR1 (ca : Nat → ClassId) (en : Nat → Nat) (ai : Nat → Nat → Nat) (ad bd : Nat → Nat) (w : OS) : va_W := OC ca ai ad bd w ++ (HW ca (ai 10) (og1 w) ++ (HIW ca ai ad (og2 w) (og3 w) (og4 w) ++ CW ca en bd (og5 w)))
theorem OP1 : (OW ca en ai ad bd w).Perm (OR1 ca en ai ad bd w ++ HW ca (ai 9) (og0 w)) := by
  refine List.Perm.cons _ (List.Perm.cons _ ?_)
  exact List.perm_append_comm
def OR2 (ca : Nat → ClassId) (ai : Nat → Nat → Nat) (ad bd : Nat → Nat) (w : OS) : va_W := OC ca ai ad bd w ++ (HW ca (ai 9) (og0 w) ++ (HW ca (ai 10) (og1 w) ++ HIW ca ai ad (og2 w) (og3 w) (og4 w)))
theorem OP2 : (OW ca en ai ad bd w).Perm (OR2 ca ai ad bd w ++ CW ca en bd (og5 w)) := by
  refine List.Perm.cons _ (List.Perm.cons _ ?_)
  show (HW ca (ai 9) (og0 w) ++ (HW ca (ai 10) (og1 w) ++ (HIW ca ai ad (og2 w) (og3 w) (og4 w) ++ CW ca en bd (og5 w)))).Perm ((HW ca (ai 9) (og0 w) ++ (HW ca (ai 10) (og1 w) ++ HIW ca ai ad (og2 w) (og3 w) (og4 w))) ++ CW ca en bd (og5 w))
  rw [List.append_assoc, List.append_assoc]
theorem OPg (h s i c : va_W) : (h ++ (s ++ (i ++ c))).Perm ((s ++ c) ++ (i ++ h)) := by
  have h1 : (h ++ (s ++ (i ++ c))).Perm ((s ++ (i ++ c)) ++ h) := List.perm_append_comm
  have h2 : (i ++ c).Perm (c ++ i) := List.perm_append_comm
  refine h1.trans (((h2.append_left s).append_right h).trans ?_)
  rw [← List.append_assoc, List.append_assoc]
def OR3 (ca : Nat → ClassId) (en : Nat → Nat) (ai : Nat → Nat → Nat) (ad bd : Nat → Nat) (w : OS) : va_W := OC ca ai ad bd w ++ (HW ca (ai 10) (og1 w) ++ CW ca en bd (og5 w))
theorem OP3 : (OW ca en ai ad bd w).Perm (OR3 ca en ai ad bd w ++ HHW ca ai ad (oH w)) := by
  refine List.Perm.cons _ (List.Perm.cons _ ?_)
  show (HW ca (ai 9) (og0 w) ++ (HW ca (ai 10) (og1 w) ++ (HIW ca ai ad (og2 w) (og3 w) (og4 w) ++ CW ca en bd (og5 w)))).Perm ((HW ca (ai 10) (og1 w) ++ CW ca en bd (og5 w)) ++ (HIW ca ai ad (og2 w) (og3 w) (og4 w) ++ HW ca (ai 9) (og0 w)))
  exact OPg _ _ _ _
def OR4 (ca : Nat → ClassId) (en : Nat → Nat) (ai : Nat → Nat → Nat) (ad bd : Nat → Nat) (w : OS) : va_W := OC ca ai ad bd w ++ (HIW ca ai ad (og2 w) (og3 w) (og4 w) ++ CW ca en bd (og5 w))
theorem OP4 : (OW ca en ai ad bd w).Perm (OR4 ca en ai ad bd w ++ (HW ca (ai 9) (og0 w) ++ HW ca (ai 10) (og1 w))) := by
  refine List.Perm.cons _ (List.Perm.cons _ ?_)
  show (HW ca (ai 9) (og0 w) ++ (HW ca (ai 10) (og1 w) ++ (HIW ca ai ad (og2 w) (og3 w) (og4 w) ++ CW ca en bd (og5 w)))).Perm ((HIW ca ai ad (og2 w) (og3 w) (og4 w) ++ CW ca en bd (og5 w)) ++ (HW ca (ai 9) (og0 w) ++ HW ca (ai 10) (og1 w)))
  rw [← List.append_assoc]
  exact List.perm_append_comm
theorem OP5 : (OW ca en ai ad bd w).Perm (OR4 ca en ai ad bd w ++ (HW ca (ai 10) (og1 w) ++ HW ca (ai 9) (og0 w))) := OP4.trans (List.Perm.append_left _ List.perm_append_comm)
variable {D : va_G} {H : Heap}
theorem OP_hall (h : va_P D vwCl (OW ca en ai ad bd w) H) : va_P D vwCl (HW ca (ai 9) (og0 w)) H := P_right (P_perm OP1 h)
theorem OP_cmd (h : va_P D vwCl (OW ca en ai ad bd w) H) : va_P D vwCl (CW ca en bd (og5 w)) H := P_right (P_perm OP2 h)
theorem OP_hist (h : va_P D vwCl (OW ca en ai ad bd w) H) : va_P D vwCl (HHW ca ai ad (oH w)) H := P_right (P_perm OP3 h)
end OWP
/-- what holds of every object between calls -/
abbrev OI (w : OS) : Prop := HI (og0 w) ∧ HI (og1 w) ∧ (∀ i, HI (og2 w i)) ∧ og3 w < 9 ∧ og4 w ≤ 8 ∧ WI (og5 w) ∧ og7 w ≤ 10
/-! calls that may throw -/
/-- what a throw says: which of the named exceptions, the code, the world -/
def XB (D : va_G) (names : List String) (F : Nat × Int32 × OS) (A : Nat → Prop) (f : OS → va_W) : String → Nat × OS → State → Prop := fun E z t => (∃ i : Nat, names[i]? = some E ∧ z.1 = i + 1) ∧ (z.1, (0 : Int32), z.2) = F ∧ va_P D vwCl (f z.2) t.heap ∧ va_D A (f z.2)
def XC0 (D : va_G) (names : List String) (k : Nat) (A : Nat → Prop) (ws : va_W) : String → Nat → State → Prop := fun E z t => (∃ i : Nat, names[i]? = some E ∧ z = i + 1) ∧ z = k ∧ va_P D vwCl ws t.heap ∧ va_D A ws
theorem pre_get {l m : List String} {i : Nat} {E : String} (h : l[i]? = some E) : (l ++ m)[i]? = some E := by
  rw [List.getElem?_append_left (List.getElem?_eq_some_iff.mp h).1]; exact h
theorem xF {A : Nat → Prop} {s t : State} {H : Heap} {locs : List Loc} (hS : va_S A s.heap H locs) (h1 : H.size ≤ t.heap.size) (h2 : ∀ q : Nat, q < H.size → t.heap[q]? = H[q]?) : va_F A s t := ⟨Nat.le_trans hS.1 h1, fun q a b => (h2 q (Nat.lt_of_lt_of_le a hS.1)).trans (hS.2.1 q a b)⟩
theorem xP {D : va_G} {ws : va_W} {t : State} {H : Heap} (hP : va_P D vwCl ws H) (h2 : ∀ q : Nat, q < H.size → t.heap[q]? = H[q]?) : va_P D vwCl ws t.heap := hP.kept (fun k q hk => h2 q.1 (hP k q hk).lt)
theorem xc_T {D : va_G} {names : List String} {F : Nat × Int32 × OS} {A : Nat → Prop} {f : OS → va_W} {E : String} {s t : State} {H : Heap} {locs : List Loc} {w : OS} {k : Nat} (i : Nat) (hi : names[i]? = some E) (hk : k = i + 1) (hF : F = (k, 0, w)) (hP : va_P D vwCl (f w) H) (hD : va_D A (f w)) (hS : va_S A s.heap H locs) (h1 : H.size ≤ t.heap.size) (h2 : ∀ q : Nat, q < H.size → t.heap[q]? = H[q]?) : vx_X (fun _ : Nat × OS => True) (XB D names F A f) A E s t := ⟨(k, w), trivial, ⟨⟨i, hi, hk⟩, hF.symm, xP hP h2, hD⟩, xF hS h1 h2⟩
theorem xc_C {D : va_G} {names : List String} {A : Nat → Prop} {ws : va_W} {E : String} {s t : State} {H : Heap} {locs : List Loc} {k : Nat} (i : Nat) (hi : names[i]? = some E) (hk : k = i + 1) (hP : va_P D vwCl ws H) (hD : va_D A ws) (hS : va_S A s.heap H locs) (h1 : H.size ≤ t.heap.size) (h2 : ∀ q : Nat, q < H.size → t.heap[q]? = H[q]?) : vx_X (fun _ : Nat => True) (XC0 D names k A ws) A E s t := ⟨i + 1, trivial, ⟨⟨i, hi, rfl⟩, hk.symm, xP hP h2, hD⟩, xF hS h1 h2⟩
theorem xc_o {D : va_G} {names : List String} {F : Nat × Int32 × OS} {A : Nat → Prop} {f : OS → va_W} {E : String} {s : State} {H : Heap} {locs : List Loc} {w : OS} {k : Nat} (i : Nat) (hi : names[i]? = some E) (hk : k = i + 1) (hF : F = (k, 0, w)) (hP : va_P D vwCl (f w) H) (hD : va_D A (f w)) (hS : va_S A s.heap H locs) : ∀ t : State, t.heap = H → s.vm.Alike t.vm → vx_X (fun _ : Nat × OS => True) (XB D names F A f) A E s t := fun t ht _ => ⟨(k, w), trivial, ⟨⟨i, hi, hk⟩, hF.symm, by rw [ht]; exact hP, hD⟩, hS.F ht⟩
section CALLX
variable {p : Program} {l : Launch} {e : Env} {R : Room} {s : State} {m : MethodId} {args : Array Value} {below : List Frame} {meth : Method} {c : Code} {H : Heap} {locs : List Loc} {cells slots : Nat} {Q : State → Prop}
variable {D : va_G} {ca : Nat → ClassId} {ws wc wr : va_W} {As rest st0 : List Value} {index n pc nL maxL mc ms b N : Nat} {y : MethodName} {bytes cc : ByteArray} {ret : Option FieldType} {wsy Ts : List Cond} {rm : Room} {own C : String} {T : u_T} {fs : List Value} {ls : Array Slot} {A0 : Nat → Prop} {X : (Nat → Prop) → State → Heap → Prop} {names : List String}
/-- a check that may throw: its code k says which -/
theorem hcCv {k : Nat} (q0 ci : Nat) (ok : SXok X) (S : CallFix p m c cc nL s args Ts own) (hM : vx_Met l y wsy rm (MGPc D ca X H.size wc (.ref b :: As)) (va_Qv (fun _ : Unit => k = 0) (MB D ca (va_A wc H.size) (fun _ => wc)) (va_A wc H.size)) (vx_X (fun _ : Nat => True) (XC0 D names k (va_A wc H.size) wc) (va_A wc H.size)) mc ms (va_A wc H.size)) (cw : CallW R s args own C index y bytes maxL ret wsy rm mc ms n) (hK : va_K D vwCl (TYS ca) s) (hP : va_P D vwCl ws H) (hD : va_D A0 ws) (hS : va_S A0 s.heap H locs) (hA : ∀ q, s.heap.size ≤ q → A0 q) (hX : X A0 s s.heap) (hperm : ws.Perm (wr ++ wc)) (he : wc[q0]? = some (b, .inr (ci, fs))) (hc : vwCl[ci]? = some (C, T, N)) (hn : As.length = n) (hsize : ls.size = nL) (hst : st0 = As.reverse ++ .ref b :: rest) (hW : (rest.map fun v => v.category).sum ≤ 8) (hf : cells + mc ≤ R.cells ∧ slots + ms ≤ R.slots) (hdg : decode cc pc = .ok (.invokevirtual index, 3))
    (kx : ∀ (i : Nat) (E : String) (ce : Cell) (q9 : Addr) (H1 : Heap) (locs1 : List Loc), names[i]? = some E → k = i + 1 → va_P D vwCl ws H1 → va_D A0 ws → va_S A0 s.heap H1 locs1 → H1[q9]? = some ce → ce.vm = .none → s.vm.findClass E = some ce.cls → vx_W p l e R s m args below meth c H1 locs1 (cells + mc) (slots + ms) Q (F0 m pc ls rest) q9)
    (kk : ∀ (H1 : Heap) (locs1 : List Loc), k = 0 → va_P D vwCl ws H1 → va_D A0 ws → va_S A0 s.heap H1 locs1 → W p l e R s m args below meth c H1 locs1 (cells + mc) (slots + ms) Q (F0 m (pc + 3) ls rest)) : W p l e R s m args below meth c H locs cells slots Q (F0 m pc ls st0) := by
  have hPc := P_right (P_perm hperm hP)
  have hDc := D_right (D_perm hperm hD)
  have hF := J_free hperm hD hS hA
  refine vx_callv (vx_runV S hM cw ⟨MGPc_blind ok, P_recv hK hPc he hc, fun U hU hW => ⟨rfl, by rw [hU], by rw [hU]; exact hPc, va_K.moved hW.alike hK, hDc.weaken (fun _ _ _ _ => trivial), X_at ok hX hS hF hU hW⟩⟩ rfl hn hsize hst (lv_room hW) hdg hf) hS (fun q _ h => hF q h) hF (fun q _ h => hF q h) (fun E ce q9 u t H1 locs1 ht hvm hpx hB hz hk hS1 h5 h6 h7 => ?_) (fun u t H1 locs1 ht hvm hw hB hz hk hS1 => ?_)
  · obtain ⟨⟨i, hi, hz9⟩, hzk, hP1, hD1⟩ := hB
    rw [ht] at hP1
    obtain ⟨g1, g2⟩ := J_join hperm hP hD hk hF hP1 hD1
    exact kx i E ce q9 H1 locs1 hi (hzk.symm.trans hz9) (P_perm hperm.symm g1) (D_perm hperm.symm g2) hS1 h5 h6 h7
  · obtain ⟨hP1, -, hD1⟩ := hB
    rw [ht] at hP1
    obtain ⟨g1, g2⟩ := J_join hperm hP hD hk hF hP1 hD1
    exact kk H1 locs1 hw (P_perm hperm.symm g1) (D_perm hperm.symm g2) hS1
/-- a static check -/
theorem hcCSv {k : Nat} (ok : SXok X) (S : CallFix p m c cc nL s args Ts own) (hM : vx_Met l y wsy rm (MGPc D ca X H.size [] As) (va_Qv (fun _ : Unit => k = 0) (MB D ca (va_A [] H.size) (fun _ => [])) (va_A [] H.size)) (vx_X (fun _ : Nat => True) (XC0 D names k (va_A [] H.size) []) (va_A [] H.size)) mc ms (va_A [] H.size)) (cw : CallB R s args own index y bytes maxL ret wsy rm mc ms n ∧ (Cond.static y).before args s = true) (hK : va_K D vwCl (TYS ca) s) (hP : va_P D vwCl ws H) (hD : va_D A0 ws) (hS : va_S A0 s.heap H locs) (hA : ∀ q, s.heap.size ≤ q → A0 q) (hX : X A0 s s.heap) (hn : As.length = n) (hsize : ls.size = nL) (hst : st0 = As.reverse ++ rest) (hW : (rest.map fun v => v.category).sum ≤ 8) (hf : cells + mc ≤ R.cells ∧ slots + ms ≤ R.slots) (hdg : decode cc pc = .ok (.invokestatic index, 3))
    (kx : ∀ (i : Nat) (E : String) (ce : Cell) (q9 : Addr) (H1 : Heap) (locs1 : List Loc), names[i]? = some E → k = i + 1 → va_P D vwCl ws H1 → va_D A0 ws → va_S A0 s.heap H1 locs1 → H1[q9]? = some ce → ce.vm = .none → s.vm.findClass E = some ce.cls → vx_W p l e R s m args below meth c H1 locs1 (cells + mc) (slots + ms) Q (F0 m pc ls rest) q9)
    (kk : ∀ (H1 : Heap) (locs1 : List Loc), k = 0 → va_P D vwCl ws H1 → va_D A0 ws → va_S A0 s.heap H1 locs1 → W p l e R s m args below meth c H1 locs1 (cells + mc) (slots + ms) Q (F0 m (pc + 3) ls rest)) : W p l e R s m args below meth c H locs cells slots Q (F0 m pc ls st0) := by
  have hperm : ws.Perm (ws ++ []) := by rw [List.append_nil]
  have hF := J_free (wc := []) hperm hD hS hA
  have hP0 : va_P D vwCl [] H := fun k q h => by cases h
  have hD0 : va_D (fun _ => True) [] := ⟨fun i j p q h => (by simp at h), fun k q h => (by simp at h)⟩
  refine vx_callv (vx_runS S hM cw ⟨MGPc_blind ok, fun U hU hW => ⟨rfl, by rw [hU], by rw [hU]; exact hP0, va_K.moved hW.alike hK, hD0, X_at ok hX hS hF hU hW⟩⟩ rfl hn hsize hst (lv_room hW) hdg hf) hS (fun q _ h => hF q h) hF (fun q _ h => hF q h) (fun E ce q9 u t H1 locs1 ht hvm hpx hB hz hk hS1 h5 h6 h7 => ?_) (fun u t H1 locs1 ht hvm hw hB hz hk hS1 => ?_)
  · obtain ⟨⟨i, hi, hz9⟩, hzk, hP1, hD1⟩ := hB
    rw [ht] at hP1
    obtain ⟨g1, g2⟩ := J_join hperm hP hD hk hF hP1 hD1
    exact kx i E ce q9 H1 locs1 hi (hzk.symm.trans hz9) (P_perm hperm.symm g1) (D_perm hperm.symm g2) hS1 h5 h6 h7
  · obtain ⟨hP1, -, hD1⟩ := hB
    rw [ht] at hP1
    obtain ⟨g1, g2⟩ := J_join hperm hP hD hk hF hP1 hD1
    exact kk H1 locs1 hw (P_perm hperm.symm g1) (D_perm hperm.symm g2) hS1
end CALLX
