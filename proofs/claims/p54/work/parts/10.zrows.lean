/-! more rows: arrays made of a known class, whole copies -/
theorem tys_eq {D : va_G} {ca : Nat → ClassId} {cA : ClassId} {s : State} {k : Nat} {ty : FieldType} (hK : va_K D vwCl (TYS ca ++ [(cA, ty)]) s) (hk : (TYS ca)[k]? = some (ca k, ty)) (hl : k < 6) (hp : ∀ C, ty ≠ .object C) : cA = ca k := by
  have h1 : (TYS ca ++ [(cA, ty)])[k]? = some (ca k, ty) := by rw [List.getElem?_append_left (by exact hl)]; exact hk
  have h2 : (TYS ca ++ [(cA, ty)])[6]? = some (cA, ty) := rfl
  have e1 := (hK.2 k _ h1).2
  have e2 := (hK.2 6 _ h2).2
  cases ty with
  | object C => exact absurd rfl (hp C)
  | _ => exact Option.some.inj (e2.symm.trans e1)
theorem tys_eqO {D : va_G} {ca : Nat → ClassId} {cA : ClassId} {s : State} {k : Nat} {C : String} (hK : va_K D vwCl (TYS ca ++ [(cA, .object C)]) s) (hk : (TYS ca)[k]? = some (ca k, .object C)) (hl : k < 6) : cA = ca k := by
  have h1 : (TYS ca ++ [(cA, .object C)])[k]? = some (ca k, .object C) := by rw [List.getElem?_append_left (by exact hl)]; exact hk
  have h2 : (TYS ca ++ [(cA, .object C)])[6]? = some (cA, .object C) := rfl
  obtain ⟨kA, comp, -, -, -, e1⟩ := (hK.2 k _ h1).2
  obtain ⟨kA', comp', -, -, -, e2⟩ := (hK.2 6 _ h2).2
  exact Option.some.inj (e2.symm.trans e1)
theorem K_cut {D : va_G} {ca : Nat → ClassId} {t : List (ClassId × FieldType)} {s : State} (hK : va_K D vwCl (TYS ca ++ t) s) : va_K D vwCl (TYS ca) s := ⟨hK.1, fun k q h => hK.2 k q (by rw [List.getElem?_append_left (List.getElem?_eq_some_iff.mp h).1]; exact h)⟩
section ROWS2
variable {p : Program} {l : Launch} {e : Env} {R : Room} {s : State} {m : MethodId} {args : Array Value} {below : List Frame} {meth : Method} {c : Code} {H : Heap} {locs : List Loc} {cells slots : Nat} {Q : State → Prop}
variable {D : va_G} {ca : Nat → ClassId} {ws : va_W} {rest : List Value} {pc : Nat} {cc : ByteArray} {ls : Array Slot} {A : Nat → Prop} {H0 : Heap}
theorem newi (N : Nat) (hexec : p.tables.exec = Jvm.exec) (hb : c.code = cc) (harr : (Cond.arrayClass (newarray.typeOf .int)).before args s = true) (hK : va_K D vwCl (TYS ca) s) (hP : va_P D vwCl ws H) (hD : va_D A ws) (hS : va_S A H0 H locs) (hA : ∀ q, H0.size ≤ q → A q) {n : Int32} (hn : ¬ n < 0) (hN : n.toNatClampNeg = N) (hbytes : N * componentBytes .int ≤ 536870912) (hcells : cells + 1 ≤ R.cells) (hslots : slots + N ≤ R.slots) (hdg : decode cc pc = .ok (.newarray .int, 2))
    (kk : ∀ (q : Nat) (H1 : Heap), va_P D vwCl (ws ++ [(q, .inl (ca 0, N, .inl (fun _ => 0)))]) H1 → va_D A (ws ++ [(q, .inl (ca 0, N, .inl (fun _ => 0)))]) → va_S A H0 H1 locs → W p l e R s m args below meth c H1 locs (cells + 1) (slots + N) Q (F0 m (pc + 2) ls (.ref q :: rest))) : W p l e R s m args below meth c H locs cells slots Q (F0 m pc ls (.int n :: rest)) := by
  refine va_newa (atype := .int) (ty := .int) (a0 := (N, .inl (fun _ => 0))) hexec hb harr rfl hK hP hD hS hA (fun _ => rfl) hn hN hbytes hcells hslots hdg (fun q cA H1 hK1 hP1 hD1 hS1 => ?_)
  obtain rfl := tys_eq (k := 0) hK1 rfl (by decide) (fun _ h => by cases h)
  exact kk q H1 hP1 hD1 hS1
theorem newl (N : Nat) (hexec : p.tables.exec = Jvm.exec) (hb : c.code = cc) (harr : (Cond.arrayClass (newarray.typeOf .long)).before args s = true) (hK : va_K D vwCl (TYS ca) s) (hP : va_P D vwCl ws H) (hD : va_D A ws) (hS : va_S A H0 H locs) (hA : ∀ q, H0.size ≤ q → A q) {n : Int32} (hn : ¬ n < 0) (hN : n.toNatClampNeg = N) (hbytes : N * componentBytes .long ≤ 536870912) (hcells : cells + 1 ≤ R.cells) (hslots : slots + N ≤ R.slots) (hdg : decode cc pc = .ok (.newarray .long, 2))
    (kk : ∀ (q : Nat) (H1 : Heap), va_P D vwCl (ws ++ [(q, .inl (ca 1, N, .inr (.inl (fun _ => 0))))]) H1 → va_D A (ws ++ [(q, .inl (ca 1, N, .inr (.inl (fun _ => 0))))]) → va_S A H0 H1 locs → W p l e R s m args below meth c H1 locs (cells + 1) (slots + N) Q (F0 m (pc + 2) ls (.ref q :: rest))) : W p l e R s m args below meth c H locs cells slots Q (F0 m pc ls (.int n :: rest)) := by
  refine va_newa (atype := .long) (ty := .long) (a0 := (N, .inr (.inl (fun _ => 0)))) hexec hb harr rfl hK hP hD hS hA (fun _ => rfl) hn hN hbytes hcells hslots hdg (fun q cA H1 hK1 hP1 hD1 hS1 => ?_)
  obtain rfl := tys_eq (k := 1) hK1 rfl (by decide) (fun _ h => by cases h)
  exact kk q H1 hP1 hD1 hS1
theorem newc (N : Nat) (hexec : p.tables.exec = Jvm.exec) (hb : c.code = cc) (harr : (Cond.arrayClass (newarray.typeOf .char)).before args s = true) (hK : va_K D vwCl (TYS ca) s) (hP : va_P D vwCl ws H) (hD : va_D A ws) (hS : va_S A H0 H locs) (hA : ∀ q, H0.size ≤ q → A q) {n : Int32} (hn : ¬ n < 0) (hN : n.toNatClampNeg = N) (hbytes : N * componentBytes .char ≤ 536870912) (hcells : cells + 1 ≤ R.cells) (hslots : slots + N ≤ R.slots) (hdg : decode cc pc = .ok (.newarray .char, 2))
    (kk : ∀ (q : Nat) (H1 : Heap), va_P D vwCl (ws ++ [(q, .inl (ca 2, N, .inl (fun _ => 0)))]) H1 → va_D A (ws ++ [(q, .inl (ca 2, N, .inl (fun _ => 0)))]) → va_S A H0 H1 locs → W p l e R s m args below meth c H1 locs (cells + 1) (slots + N) Q (F0 m (pc + 2) ls (.ref q :: rest))) : W p l e R s m args below meth c H locs cells slots Q (F0 m pc ls (.int n :: rest)) := by
  refine va_newa (atype := .char) (ty := .char) (a0 := (N, .inl (fun _ => 0))) hexec hb harr rfl hK hP hD hS hA (fun _ => rfl) hn hN hbytes hcells hslots hdg (fun q cA H1 hK1 hP1 hD1 hS1 => ?_)
  obtain rfl := tys_eq (k := 2) hK1 rfl (by decide) (fun _ h => by cases h)
  exact kk q H1 hP1 hD1 hS1
/-- references: class 3 the halls, class 4 the commands -/
theorem newq (k N : Nat) {own C : String} {index : Nat} (hexec : p.tables.exec = Jvm.exec) (hb : c.code = cc) (hown : s.vm.findClass own = some m.cls) (hclink : (Cond.classLink own index C).before args s = true) (hover : va_AO C s) (hk : ∀ ca, (TYS ca)[k]? = some (ca k, .object C)) (hl : k < 6) (hK : va_K D vwCl (TYS ca) s) (hP : va_P D vwCl ws H) (hD : va_D A ws) (hS : va_S A H0 H locs) (hA : ∀ q, H0.size ≤ q → A q) {n : Int32} (hn : ¬ n < 0) (hN : n.toNatClampNeg = N) (hbytes : N * 4 ≤ 536870912) (hcells : cells + 1 ≤ R.cells) (hslots : slots + N ≤ R.slots) (hdg : decode cc pc = .ok (.anewarray index, 3))
    (kk : ∀ (q : Nat) (H1 : Heap), va_P D vwCl (ws ++ [(q, .inl (ca k, N, .inr (.inr (.inr (.inr (fun _ => none))))))]) H1 → va_D A (ws ++ [(q, .inl (ca k, N, .inr (.inr (.inr (.inr (fun _ => none))))))]) → va_S A H0 H1 locs → W p l e R s m args below meth c H1 locs (cells + 1) (slots + N) Q (F0 m (pc + 3) ls (.ref q :: rest))) : W p l e R s m args below meth c H locs cells slots Q (F0 m pc ls (.int n :: rest)) := by
  refine va_newq hexec hb hown hclink hover hK hP hD hS hA hn hN hbytes hcells hslots hdg (fun q cA H1 hK1 hP1 hD1 hS1 => ?_)
  obtain rfl := tys_eqO (k := k) hK1 (hk ca) hl
  exact kk q H1 hP1 hD1 hS1
theorem arrV_congr {cA : ClassId} {n : Nat} {f g : Nat → Value} (h : ∀ j, j < n → f j = g j) : arrV cA n f = arrV cA n g := by
  unfold arrV
  congr 1
  apply Array.ext
  · simp
  · intro i h1 h2
    simp at h1 ⊢
    exact h i h1
/-- a whole row copied: the target holds the source's row -/
theorem copyiW {a0 a1 : Nat} (n : Nat) (hexec : p.tables.exec = Jvm.exec) (hb : c.code = cc) (hml : c.maxLocals = ls.size) {own : String} {index : Nat} (hown : s.vm.findClass own = some m.cls) (hlink : (Cond.methodLink own index arraycopyName).before args s = true) (hnat : (Cond.native arraycopyName).before args s = true) (hstat : (Cond.static arraycopyName).before args s = true) (hini : (Cond.initialized "java/lang/System").before args s = true)
    (hK : va_K D vwCl (TYS ca) s) (hP : va_P D vwCl ws H) (hD : va_D A ws) (hS : va_S A H0 H locs) (q0 q1 : Nat) {f g : Nat → Int32} (ha0 : ws[q0]? = some (a0, .inl (ca 0, n, .inl f))) (ha1 : ws[q1]? = some (a1, .inl (ca 0, n, .inl g))) {N : Int32} (hN : N.toNatClampNeg = n) (h3 : ¬ N < 0)
    (hframes : 1 ≤ R.frames) (hlocals : (rest.map fun v => v.category).sum + (nativeFrameWords "java/lang/System" "arraycopy" 5 + 11) ≤ R.locals) (hdg : decode cc pc = .ok (.invokestatic index, 3))
    (kk : ∀ (H1 : Heap) (locs1 : List Loc), va_P D vwCl (ws.set q1 (a1, .inl (ca 0, n, .inl f))) H1 → va_D A (ws.set q1 (a1, .inl (ca 0, n, .inl f))) → va_S A H0 H1 locs1 → W p l e R s m args below meth c H1 locs1 cells slots Q (F0 m (pc + 3) ls rest)) : W p l e R s m args below meth c H locs cells slots Q (F0 m pc ls (.int N :: .int 0 :: .ref a1 :: .int 0 :: .ref a0 :: rest)) := by
  refine va_copyi hexec hb hml hown hlink hnat hstat hini hK hP hD hS q0 q1 0 0 ha0 ha1 rfl rfl rfl (by decide) (by decide) h3 (by rw [hN]; exact Nat.le_of_eq (Nat.zero_add n)) (by rw [hN]; exact Nat.le_of_eq (Nat.zero_add n)) (fun _ _ => rfl) hframes hlocals hdg (fun H1 locs1 hP1 hD1 hS1 => ?_)
  have e : vp_cell (ca 0) (n, .inl (va_cpy f g (0 : Int32).toNatClampNeg (0 : Int32).toNatClampNeg N.toNatClampNeg)) = vp_cell (ca 0) (n, .inl f) := by
    rw [vp_cell_i, vp_cell_i]
    refine arrV_congr (fun j hj => ?_)
    rw [hN]
    show Value.int (va_cpy f g 0 0 n j) = Value.int (f j)
    unfold va_cpy
    rw [if_pos ⟨Nat.zero_le _, by omega⟩, Nat.zero_add, Nat.sub_zero]
  have hq1 := (List.getElem?_eq_some_iff.mp ha1).1
  refine kk H1 locs1 (fun k q hk => ?_) (va_D.set hD ha1) hS1
  by_cases h : k = q1
  · subst h
    rw [List.getElem?_set_self hq1] at hk
    cases hk
    have h9 := hP1 k (a1, .inl (ca 0, n, .inl (va_cpy f g (0 : Int32).toNatClampNeg (0 : Int32).toNatClampNeg N.toNatClampNeg))) (List.getElem?_set_self hq1)
    exact (show H1[a1]? = some (vp_cell (ca 0) (n, .inl (va_cpy f g (0 : Int32).toNatClampNeg (0 : Int32).toNatClampNeg N.toNatClampNeg))) from h9).trans (congrArg some e)
  · rw [List.getElem?_set_ne (Ne.symm h)] at hk
    exact hP1 k q (by rw [List.getElem?_set_ne (Ne.symm h)]; exact hk)
theorem copylW {a0 a1 : Nat} (n : Nat) (hexec : p.tables.exec = Jvm.exec) (hb : c.code = cc) (hml : c.maxLocals = ls.size) {own : String} {index : Nat} (hown : s.vm.findClass own = some m.cls) (hlink : (Cond.methodLink own index arraycopyName).before args s = true) (hnat : (Cond.native arraycopyName).before args s = true) (hstat : (Cond.static arraycopyName).before args s = true) (hini : (Cond.initialized "java/lang/System").before args s = true)
    (hK : va_K D vwCl (TYS ca) s) (hP : va_P D vwCl ws H) (hD : va_D A ws) (hS : va_S A H0 H locs) (q0 q1 : Nat) {f g : Nat → Int64} (ha0 : ws[q0]? = some (a0, .inl (ca 1, n, .inr (.inl f)))) (ha1 : ws[q1]? = some (a1, .inl (ca 1, n, .inr (.inl g)))) {N : Int32} (hN : N.toNatClampNeg = n) (h3 : ¬ N < 0)
    (hframes : 1 ≤ R.frames) (hlocals : (rest.map fun v => v.category).sum + (nativeFrameWords "java/lang/System" "arraycopy" 5 + 11) ≤ R.locals) (hdg : decode cc pc = .ok (.invokestatic index, 3))
    (kk : ∀ (H1 : Heap) (locs1 : List Loc), va_P D vwCl (ws.set q1 (a1, .inl (ca 1, n, .inr (.inl f)))) H1 → va_D A (ws.set q1 (a1, .inl (ca 1, n, .inr (.inl f)))) → va_S A H0 H1 locs1 → W p l e R s m args below meth c H1 locs1 cells slots Q (F0 m (pc + 3) ls rest)) : W p l e R s m args below meth c H locs cells slots Q (F0 m pc ls (.int N :: .int 0 :: .ref a1 :: .int 0 :: .ref a0 :: rest)) := by
  refine va_copyl hexec hb hml hown hlink hnat hstat hini hK hP hD hS q0 q1 1 1 ha0 ha1 rfl rfl rfl (by decide) (by decide) h3 (by rw [hN]; exact Nat.le_of_eq (Nat.zero_add n)) (by rw [hN]; exact Nat.le_of_eq (Nat.zero_add n)) (fun _ _ => rfl) hframes hlocals hdg (fun H1 locs1 hP1 hD1 hS1 => ?_)
  have e : vp_cell (ca 1) (n, .inr (.inl (va_cpy f g (0 : Int32).toNatClampNeg (0 : Int32).toNatClampNeg N.toNatClampNeg))) = vp_cell (ca 1) (n, .inr (.inl f)) := by
    rw [vp_cell_l, vp_cell_l]
    refine arrV_congr (fun j hj => ?_)
    rw [hN]
    show Value.long (va_cpy f g 0 0 n j) = Value.long (f j)
    unfold va_cpy
    rw [if_pos ⟨Nat.zero_le _, by omega⟩, Nat.zero_add, Nat.sub_zero]
  have hq1 := (List.getElem?_eq_some_iff.mp ha1).1
  refine kk H1 locs1 (fun k q hk => ?_) (va_D.set hD ha1) hS1
  by_cases h : k = q1
  · subst h
    rw [List.getElem?_set_self hq1] at hk
    cases hk
    have h9 := hP1 k (a1, .inl (ca 1, n, .inr (.inl (va_cpy f g (0 : Int32).toNatClampNeg (0 : Int32).toNatClampNeg N.toNatClampNeg)))) (List.getElem?_set_self hq1)
    exact (show H1[a1]? = some (vp_cell (ca 1) (n, .inr (.inl (va_cpy f g (0 : Int32).toNatClampNeg (0 : Int32).toNatClampNeg N.toNatClampNeg)))) from h9).trans (congrArg some e)
  · rw [List.getElem?_set_ne (Ne.symm h)] at hk
    exact hP1 k q (by rw [List.getElem?_set_ne (Ne.symm h)]; exact hk)
end ROWS2
