/-! the history: nine halls, where the next one goes, how many can be taken back; beside it the hall itself -/
abbrev HHS : Type := (Nat → HS) × Nat × Nat × HS
abbrev hv0 (u : HHS) : Nat → HS := u.1
abbrev hv1 (u : HHS) : Nat := u.2.1
abbrev hv2 (u : HHS) : Nat := u.2.2.1
abbrev hv3 (u : HHS) : HS := u.2.2.2
abbrev hy0 (x : Nat → HS) (u : HHS) : HHS := (x, u.2)
abbrev hy1 (x : Nat) (u : HHS) : HHS := (hv0 u, x, u.2.2)
abbrev hy2 (x : Nat) (u : HHS) : HHS := (hv0 u, hv1 u, x, u.2.2.2)
abbrev hy3 (x : HS) (u : HHS) : HHS := (hv0 u, hv1 u, hv2 u, x)
def HLS (ca : Nat → ClassId) (ai : Nat → Nat → Nat) (hs : Nat → HS) : va_W := (List.range 9).flatMap (fun i => HW ca (ai i) (hs i))
def HLR (ca : Nat → ClassId) (ai : Nat → Nat → Nat) (hs : Nat → HS) (k : Nat) : va_W := ((List.range 9).filter (fun j => decide (j ≠ k))).flatMap (fun i => HW ca (ai i) (hs i))
theorem flat_focus {α : Type} (g : Nat → List α) (k : Nat) : ∀ L : List Nat, L.Nodup → k ∈ L → (L.flatMap g).Perm ((L.filter (fun j => decide (j ≠ k))).flatMap g ++ g k) := by
  intro L
  induction L with
  | nil => intro _ h; cases h
  | cons a L ih =>
    intro hn hm
    obtain ⟨ha, hn⟩ := List.nodup_cons.mp hn
    rw [List.flatMap_cons]
    by_cases h : a = k
    · subst h
      have e : L.filter (fun j => decide (j ≠ a)) = L := List.filter_eq_self.mpr (fun j hj => decide_eq_true (fun z => ha (z ▸ hj)))
      rw [List.filter_cons_of_neg (by simp), e]
      exact List.perm_append_comm
    · rw [List.filter_cons_of_pos (by simpa using h), List.flatMap_cons, List.append_assoc]
      exact (ih hn ((List.mem_cons.mp hm).resolve_left (fun z => h z.symm))).append_left _
theorem HLS_focus {ca : Nat → ClassId} {ai : Nat → Nat → Nat} {hs : Nat → HS} {k : Nat} (hk : k < 9) : (HLS ca ai hs).Perm (HLR ca ai hs k ++ HW ca (ai k) (hs k)) := flat_focus (fun i => HW ca (ai i) (hs i)) k (List.range 9) List.nodup_range (List.mem_range.mpr hk)
theorem HLR_up {ca : Nat → ClassId} {ai : Nat → Nat → Nat} {hs : Nat → HS} {k : Nat} {x : HS} : HLR ca ai (va_up hs k x) k = HLR ca ai hs k := by
  unfold HLR
  rw [List.flatMap_def, List.flatMap_def]
  congr 1
  refine List.map_congr_left (fun j hj => ?_)
  have h := of_decide_eq_true (List.mem_filter.mp hj).2
  unfold va_up
  rw [if_neg h]
def HHO (ca : Nat → ClassId) (ai : Nat → Nat → Nat) (ad : Nat → Nat) (sp cn : Nat) : va_W := [(ad 1, .inr (5, [.ref (ad 2), .int (nI sp), .int (nI cn)])), (ad 2, .inl (ca 3, 9, .inr (.inr (.inr (.inr (fun i => some (ai i 8)))))))]
def HIW (ca : Nat → ClassId) (ai : Nat → Nat → Nat) (ad : Nat → Nat) (hs : Nat → HS) (sp cn : Nat) : va_W := (ad 1, .inr (5, [.ref (ad 2), .int (nI sp), .int (nI cn)])) :: (ad 2, .inl (ca 3, 9, .inr (.inr (.inr (.inr (fun i => some (ai i 8))))))) :: HLS ca ai hs
def HHW (ca : Nat → ClassId) (ai : Nat → Nat → Nat) (ad : Nat → Nat) (u : HHS) : va_W := (ad 1, .inr (5, [.ref (ad 2), .int (nI (hv1 u)), .int (nI (hv2 u))])) :: (ad 2, .inl (ca 3, 9, .inr (.inr (.inr (.inr (fun i => some (ai i 8))))))) :: (HLS ca ai (hv0 u) ++ HW ca (ai 9) (hv3 u))
def HHR (ca : Nat → ClassId) (ai : Nat → Nat → Nat) (ad : Nat → Nat) (u : HHS) (k : Nat) : va_W := (ad 1, .inr (5, [.ref (ad 2), .int (nI (hv1 u)), .int (nI (hv2 u))])) :: (ad 2, .inl (ca 3, 9, .inr (.inr (.inr (.inr (fun i => some (ai i 8))))))) :: HLR ca ai (hv0 u) k
theorem HH_f1 {ca : Nat → ClassId} {ai : Nat → Nat → Nat} {ad : Nat → Nat} {u : HHS} {k : Nat} (hk : k < 9) : (HHW ca ai ad u).Perm (HHR ca ai ad u k ++ (HW ca (ai 9) (hv3 u) ++ HW ca (ai k) (hv0 u k))) := by
  refine List.Perm.cons _ (List.Perm.cons _ ?_)
  refine ((HLS_focus hk).append_right _).trans ?_
  rw [List.append_assoc]
  exact List.Perm.append_left _ List.perm_append_comm
theorem HH_f2 {ca : Nat → ClassId} {ai : Nat → Nat → Nat} {ad : Nat → Nat} {u : HHS} {k : Nat} (hk : k < 9) : (HHW ca ai ad u).Perm (HHR ca ai ad u k ++ (HW ca (ai k) (hv0 u k) ++ HW ca (ai 9) (hv3 u))) := by
  refine List.Perm.cons _ (List.Perm.cons _ ?_)
  refine ((HLS_focus hk).append_right _).trans ?_
  rw [List.append_assoc]
  exact List.Perm.refl _
theorem HHR_up {ca : Nat → ClassId} {ai : Nat → Nat → Nat} {ad : Nat → Nat} {u : HHS} {k : Nat} {x : HS} : HHR ca ai ad (hy0 (va_up (hv0 u) k x) u) k = HHR ca ai ad u k := by
  show _ :: _ :: HLR ca ai (va_up (hv0 u) k x) k = _ :: _ :: HLR ca ai (hv0 u) k
  rw [HLR_up]
theorem up_self {α : Type} {f : Nat → α} {k : Nat} {x : α} : va_up f k x k = x := by unfold va_up; rw [if_pos rfl]
theorem HH_b1 {ca : Nat → ClassId} {ai : Nat → Nat → Nat} {ad : Nat → Nat} {u : HHS} {k : Nat} {x : HS} (hk : k < 9) : (HHR ca ai ad u k ++ (HW ca (ai 9) (hv3 u) ++ HW ca (ai k) x)).Perm (HHW ca ai ad (hy0 (va_up (hv0 u) k x) u)) := by
  have h := HH_f1 (ca := ca) (ai := ai) (ad := ad) (u := hy0 (va_up (hv0 u) k x) u) hk
  rw [HHR_up, show hv0 (hy0 (va_up (hv0 u) k x) u) k = x from up_self] at h
  exact h.symm
theorem HH_b2 {ca : Nat → ClassId} {ai : Nat → Nat → Nat} {ad : Nat → Nat} {u : HHS} {k : Nat} {x : HS} (hk : k < 9) : (HHR ca ai ad u k ++ (HW ca (ai k) (hv0 u k) ++ HW ca (ai 9) x)).Perm (HHW ca ai ad (hy3 x u)) := (HH_f2 (ca := ca) (ai := ai) (ad := ad) (u := hy3 x u) hk).symm
section ROWQ
variable {p : Program} {l : Launch} {e : Env} {R : Room} {s : State} {m : MethodId} {args : Array Value} {below : List Frame} {meth : Method} {c : Code} {H : Heap} {locs : List Loc} {cells slots : Nat} {Q : State → Prop} {D : va_G} {ca : Nat → ClassId} {ws : va_W} {rest : List Value} {pc : Nat} {cc : ByteArray} {ls : Array Slot}
theorem aaldN {a : Nat} {g : Nat → Nat} (q0 t0 : Nat) {C : String} {cA : ClassId} {n k : Nat} (hx : p.tables.exec = Jvm.exec) (hb : c.code = cc) (hK : va_K D vwCl (TYS ca) s) (hP : va_P D vwCl ws H) (ha : ws[q0]? = some (a, .inl (cA, n, .inr (.inr (.inr (.inr (fun i => some (g i)))))))) (ht : (TYS ca)[t0]? = some (cA, .object C)) (hk : k < n) (hn : n < 2 ^ 31) (hdg : decode cc pc = .ok (.aaload, 1))
    (kk : W p l e R s m args below meth c H locs cells slots Q (F0 m (pc + 1) ls (.ref (g k) :: rest))) : W p l e R s m args below meth c H locs cells slots Q (F0 m pc ls (.int (nI k) :: .ref a :: rest)) :=
  va_aldq hx hb hK hP q0 t0 ha ht (vp_in_nI hk hn) hdg (by rw [nI_clamp (Nat.lt_trans hk hn)]; exact kk)
end ROWQ
def fX4_keep (u : HHS) : HHS :=
  (if 9 ≤ ((hv1 u) + 1) then (hy2 (if 8 < ((hv2 u) + 1) then 8 else ((hv2 u) + 1)) (hy1 0 u)) else (hy2 (if 8 < ((hv2 u) + 1) then 8 else ((hv2 u) + 1)) (hy1 ((hv1 u) + 1) u)))
set_option maxHeartbeats 4000000 in
set_option maxRecDepth 100000 in
/-- keep -/
theorem kX4_keep (l : Launch) (D : va_G) (ca : Nat → ClassId) (ai : Nat → Nat → Nat) (ad : Nat → Nat) (sz : Nat) (u : HHS) (hsp : hv1 u < 9) (hcn : hv2 u ≤ 8) : Met l yX4_keep wsX4_keep ({ frames := 1, cells := 0, slots := 0, locals := 21 }) (MPc D ca sz (HHW ca ai ad u) [.ref (ad 1)]) (va_Qv (fun v => v = fX4_keep u) (MB D ca (va_A (HHW ca ai ad u) sz) (fun v => HHW ca ai ad v)) (va_A (HHW ca ai ad u) sz)) 0 0 (va_A (HHW ca ai ad u) sz) := by
  refine Met.ofW (cc := cX4_keep) (maxL := 1) (ret := none) (by decide) rfl ?_
  intro p e s m args below meth c s₁ B hml hv
  obtain ⟨rfl, hsz, hP, hK, hD0⟩ := hv
  have hx := B.exec
  have hb := B.bytes
  have hr := B.returns
  have hts := atoms_spec (ws := wsX4_keep) B.pre
  have hown : s.vm.findClass RX4 = some m.cls := findClass_of_methodNamed B.named
  have hlocks := B.notSynchronized
  have hin : ∀ w ∈ wsX40, w ∈ wsX4_keep := by decide +kernel
  subst hsz
  have hD := hD0.self (sz := s.heap.size)
  generalize hAe : va_A (HHW ca ai ad u) s.heap.size = A at hD ⊢
  have hA : ∀ q : Nat, s.heap.size ≤ q → A q := fun q h => by rw [← hAe]; exact Or.inr h
  have hS : va_S A s.heap s.heap [] := va_S.rf
  have hf : fX4_keep u = fX4_keep u := rfl
  refine W_entry (Nat.le_of_ble_eq_true rfl) (fun ls hl => ?_)
  have hl : lv_has ls 1 [(0, .ref (ad 1))] := hl
  refine lv_aload_n hx hb dX4_keep_0 rfl (lv_at hl 0 rfl) ?_
  refine lv_aload_n hx hb dX4_keep_1 rfl (lv_at hl 0 rfl) ?_
  refine va_get (D := D) (ci := 5) (v := .int (nI (hv1 u))) (C := RX4) (T := TX4) (N := 3) hx hb hts hin hown hK hP 0 rfl rfl 1 (by decide) (hts (.fieldLink RX4 17 "HatReservations$History" "spare" "I") (by decide +kernel)) (fun _ h9 => h9) rfl dX4_keep_2 ?_
  refine lv_iconst (v := 1) hx hb dX4_keep_5 (by decide) ?_
  refine iaddN (a := (hv1 u)) (b := 1) hx hb dX4_keep_6 ?_
  refine lv_bipush (v := 9) hx hb dX4_keep_7 (by decide) ?_
  refine icmpgeN (a := ((hv1 u) + 1)) (b := 9) (tgt := 21) hx hb dX4_keep_9 (by decide) (by omega) (by omega) (fun c_9 => ?_) (fun c_9 => ?_)
  · have hf := hf.trans (if_pos c_9)
    refine lv_iconst (v := 0) hx hb dX4_keep_21 (by decide) ?_
    refine va_put (D := D) (ci := 5) (v := .int (nI 0)) (ty := .int) (C := RX4) (T := TX4) (N := 3) hx hb hts hin tyX4 tyX4_ok nmX4 hown hK hP hD hS 0 rfl rfl 1 (by decide) (hts (.fieldLink RX4 17 "HatReservations$History" "spare" "I") (by decide +kernel)) (fun _ h9 => h9) rfl (by decide +kernel) rfl rfl (Nat.le_of_ble_eq_true rfl) dX4_keep_22 (fun H locs hP hD hS => ?_)
    have hP : va_P D vwCl (HHW ca ai ad (hy1 0 u)) H := hP
    have hD : va_D A (HHW ca ai ad (hy1 0 u)) := hD
    refine lv_aload_n hx hb dX4_keep_25 rfl (lv_at hl 0 rfl) ?_
    refine lv_aload_n hx hb dX4_keep_26 rfl (lv_at hl 0 rfl) ?_
    refine va_get (D := D) (ci := 5) (v := .int (nI (hv2 u))) (C := RX4) (T := TX4) (N := 3) hx hb hts hin hown hK hP 0 rfl rfl 2 (by decide) (hts (.fieldLink RX4 21 "HatReservations$History" "count" "I") (by decide +kernel)) (fun _ h9 => h9) rfl dX4_keep_27 ?_
    refine lv_iconst (v := 1) hx hb dX4_keep_30 (by decide) ?_
    refine iaddN (a := (hv2 u)) (b := 1) hx hb dX4_keep_31 ?_
    refine lv_bipush (v := 8) hx hb dX4_keep_32 (by decide) ?_
    refine minN (a := ((hv2 u) + 1)) (b := 8) hx hb (by rw [hml]; exact hl.1.symm) hown (hts (.methodLink RX4 35 Lib.Math.min.name) (by decide +kernel)) (hts (.static Lib.Math.min.name) (by decide +kernel)) (hts (.initialized "java/lang/Math") (by decide +kernel)) (hts (.code Lib.Math.min.name Lib.Math.min.code 2 (some .int)) (by decide +kernel)) (Nat.le_of_ble_eq_true rfl) (Nat.le_of_ble_eq_true rfl) (Nat.zero_le _) (Nat.zero_le _) (by omega) (by omega) dX4_keep_34 ?_
    refine va_put (D := D) (ci := 5) (v := .int (nI (if 8 < ((hv2 u) + 1) then 8 else ((hv2 u) + 1)))) (ty := .int) (C := RX4) (T := TX4) (N := 3) hx hb hts hin tyX4 tyX4_ok nmX4 hown hK hP hD hS 0 rfl rfl 2 (by decide) (hts (.fieldLink RX4 21 "HatReservations$History" "count" "I") (by decide +kernel)) (fun _ h9 => h9) rfl (by decide +kernel) rfl rfl (Nat.le_of_ble_eq_true rfl) dX4_keep_37 (fun H locs hP hD hS => ?_)
    have hP : va_P D vwCl (HHW ca ai ad (hy2 (if 8 < ((hv2 u) + 1) then 8 else ((hv2 u) + 1)) (hy1 0 u))) H := hP
    have hD : va_D A (HHW ca ai ad (hy2 (if 8 < ((hv2 u) + 1) then 8 else ((hv2 u) + 1)) (hy1 0 u))) := hD
    exact W.vret hx hb hr (fun t ht hW => ⟨⟨(hy2 (if 8 < ((hv2 u) + 1) then 8 else ((hv2 u) + 1)) (hy1 0 u)), rfl, hf.symm, by rw [ht]; exact hP, va_K.moved hW.alike hK, hD⟩, hS.F ht⟩) hS.2.2 dX4_keep_40
  · have hf := hf.trans (if_neg c_9)
    refine lv_aload_n hx hb dX4_keep_12 rfl (lv_at hl 0 rfl) ?_
    refine va_get (D := D) (ci := 5) (v := .int (nI (hv1 u))) (C := RX4) (T := TX4) (N := 3) hx hb hts hin hown hK hP 0 rfl rfl 1 (by decide) (hts (.fieldLink RX4 17 "HatReservations$History" "spare" "I") (by decide +kernel)) (fun _ h9 => h9) rfl dX4_keep_13 ?_
    refine lv_iconst (v := 1) hx hb dX4_keep_16 (by decide) ?_
    refine iaddN (a := (hv1 u)) (b := 1) hx hb dX4_keep_17 ?_
    refine lv_goto (tgt := 22) hx hb dX4_keep_18 (by decide) ?_
    refine va_put (D := D) (ci := 5) (v := .int (nI ((hv1 u) + 1))) (ty := .int) (C := RX4) (T := TX4) (N := 3) hx hb hts hin tyX4 tyX4_ok nmX4 hown hK hP hD hS 0 rfl rfl 1 (by decide) (hts (.fieldLink RX4 17 "HatReservations$History" "spare" "I") (by decide +kernel)) (fun _ h9 => h9) rfl (by decide +kernel) rfl rfl (Nat.le_of_ble_eq_true rfl) dX4_keep_22 (fun H locs hP hD hS => ?_)
    have hP : va_P D vwCl (HHW ca ai ad (hy1 ((hv1 u) + 1) u)) H := hP
    have hD : va_D A (HHW ca ai ad (hy1 ((hv1 u) + 1) u)) := hD
    refine lv_aload_n hx hb dX4_keep_25 rfl (lv_at hl 0 rfl) ?_
    refine lv_aload_n hx hb dX4_keep_26 rfl (lv_at hl 0 rfl) ?_
    refine va_get (D := D) (ci := 5) (v := .int (nI (hv2 u))) (C := RX4) (T := TX4) (N := 3) hx hb hts hin hown hK hP 0 rfl rfl 2 (by decide) (hts (.fieldLink RX4 21 "HatReservations$History" "count" "I") (by decide +kernel)) (fun _ h9 => h9) rfl dX4_keep_27 ?_
    refine lv_iconst (v := 1) hx hb dX4_keep_30 (by decide) ?_
    refine iaddN (a := (hv2 u)) (b := 1) hx hb dX4_keep_31 ?_
    refine lv_bipush (v := 8) hx hb dX4_keep_32 (by decide) ?_
    refine minN (a := ((hv2 u) + 1)) (b := 8) hx hb (by rw [hml]; exact hl.1.symm) hown (hts (.methodLink RX4 35 Lib.Math.min.name) (by decide +kernel)) (hts (.static Lib.Math.min.name) (by decide +kernel)) (hts (.initialized "java/lang/Math") (by decide +kernel)) (hts (.code Lib.Math.min.name Lib.Math.min.code 2 (some .int)) (by decide +kernel)) (Nat.le_of_ble_eq_true rfl) (Nat.le_of_ble_eq_true rfl) (Nat.zero_le _) (Nat.zero_le _) (by omega) (by omega) dX4_keep_34 ?_
    refine va_put (D := D) (ci := 5) (v := .int (nI (if 8 < ((hv2 u) + 1) then 8 else ((hv2 u) + 1)))) (ty := .int) (C := RX4) (T := TX4) (N := 3) hx hb hts hin tyX4 tyX4_ok nmX4 hown hK hP hD hS 0 rfl rfl 2 (by decide) (hts (.fieldLink RX4 21 "HatReservations$History" "count" "I") (by decide +kernel)) (fun _ h9 => h9) rfl (by decide +kernel) rfl rfl (Nat.le_of_ble_eq_true rfl) dX4_keep_37 (fun H locs hP hD hS => ?_)
    have hP : va_P D vwCl (HHW ca ai ad (hy2 (if 8 < ((hv2 u) + 1) then 8 else ((hv2 u) + 1)) (hy1 ((hv1 u) + 1) u))) H := hP
    have hD : va_D A (HHW ca ai ad (hy2 (if 8 < ((hv2 u) + 1) then 8 else ((hv2 u) + 1)) (hy1 ((hv1 u) + 1) u))) := hD
    exact W.vret hx hb hr (fun t ht hW => ⟨⟨(hy2 (if 8 < ((hv2 u) + 1) then 8 else ((hv2 u) + 1)) (hy1 ((hv1 u) + 1) u)), rfl, hf.symm, by rw [ht]; exact hP, va_K.moved hW.alike hK, hD⟩, hS.F ht⟩) hS.2.2 dX4_keep_40
def fX4_forget (u : HHS) : HHS :=
  (hy2 0 u)
set_option maxHeartbeats 4000000 in
set_option maxRecDepth 100000 in
/-- forget -/
theorem kX4_forget (l : Launch) (D : va_G) (ca : Nat → ClassId) (ai : Nat → Nat → Nat) (ad : Nat → Nat) (sz : Nat) (u : HHS) : Met l yX4_forget wsX4_forget ({ frames := 0, cells := 0, slots := 0, locals := 0 }) (MPc D ca sz (HHW ca ai ad u) [.ref (ad 1)]) (va_Qv (fun v => v = fX4_forget u) (MB D ca (va_A (HHW ca ai ad u) sz) (fun v => HHW ca ai ad v)) (va_A (HHW ca ai ad u) sz)) 0 0 (va_A (HHW ca ai ad u) sz) := by
  refine Met.ofW (cc := cX4_forget) (maxL := 1) (ret := none) (by decide) rfl ?_
  intro p e s m args below meth c s₁ B hml hv
  obtain ⟨rfl, hsz, hP, hK, hD0⟩ := hv
  have hx := B.exec
  have hb := B.bytes
  have hr := B.returns
  have hts := atoms_spec (ws := wsX4_forget) B.pre
  have hown : s.vm.findClass RX4 = some m.cls := findClass_of_methodNamed B.named
  have hlocks := B.notSynchronized
  have hin : ∀ w ∈ wsX40, w ∈ wsX4_forget := by decide +kernel
  subst hsz
  have hD := hD0.self (sz := s.heap.size)
  generalize hAe : va_A (HHW ca ai ad u) s.heap.size = A at hD ⊢
  have hA : ∀ q : Nat, s.heap.size ≤ q → A q := fun q h => by rw [← hAe]; exact Or.inr h
  have hS : va_S A s.heap s.heap [] := va_S.rf
  have hf : fX4_forget u = fX4_forget u := rfl
  refine W_entry (Nat.le_of_ble_eq_true rfl) (fun ls hl => ?_)
  have hl : lv_has ls 1 [(0, .ref (ad 1))] := hl
  refine lv_aload_n hx hb dX4_forget_0 rfl (lv_at hl 0 rfl) ?_
  refine lv_iconst (v := 0) hx hb dX4_forget_1 (by decide) ?_
  refine va_put (D := D) (ci := 5) (v := .int (nI 0)) (ty := .int) (C := RX4) (T := TX4) (N := 3) hx hb hts hin tyX4 tyX4_ok nmX4 hown hK hP hD hS 0 rfl rfl 2 (by decide) (hts (.fieldLink RX4 21 "HatReservations$History" "count" "I") (by decide +kernel)) (fun _ h9 => h9) rfl (by decide +kernel) rfl rfl (Nat.le_of_ble_eq_true rfl) dX4_forget_2 (fun H locs hP hD hS => ?_)
  have hP : va_P D vwCl (HHW ca ai ad (hy2 0 u)) H := hP
  have hD : va_D A (HHW ca ai ad (hy2 0 u)) := hD
  exact W.vret hx hb hr (fun t ht hW => ⟨⟨(hy2 0 u), rfl, hf.symm, by rw [ht]; exact hP, va_K.moved hW.alike hK, hD⟩, hS.F ht⟩) hS.2.2 dX4_forget_5
def fX4_prepare (u : HHS) : HHS :=
  (hy0 (va_up (hv0 u) (hv1 u) (hv3 u)) u)
set_option maxHeartbeats 4000000 in
set_option maxRecDepth 100000 in
/-- prepare -/
theorem kX4_prepare (l : Launch) (D : va_G) (ca : Nat → ClassId) (ai : Nat → Nat → Nat) (ad : Nat → Nat) (sz : Nat) (u : HHS) (hsp : hv1 u < 9) : Met l yX4_prepare wsX4_prepare ({ frames := 2, cells := 0, slots := 0, locals := 39 }) (MPc D ca sz (HHW ca ai ad u) [.ref (ad 1), .ref (ai 9 8)]) (va_Qv (fun v => v = fX4_prepare u) (MB D ca (va_A (HHW ca ai ad u) sz) (fun v => HHW ca ai ad v)) (va_A (HHW ca ai ad u) sz)) 0 0 (va_A (HHW ca ai ad u) sz) := by
  refine Met.ofW (cc := cX4_prepare) (maxL := 2) (ret := none) (by decide) rfl ?_
  intro p e s m args below meth c s₁ B hml hv
  obtain ⟨rfl, hsz, hP, hK, hD0⟩ := hv
  have hx := B.exec
  have hb := B.bytes
  have hr := B.returns
  have hts := atoms_spec (ws := wsX4_prepare) B.pre
  have hown : s.vm.findClass RX4 = some m.cls := findClass_of_methodNamed B.named
  have hlocks := B.notSynchronized
  have hin : ∀ w ∈ wsX40, w ∈ wsX4_prepare := by decide +kernel
  subst hsz
  have hD := hD0.self (sz := s.heap.size)
  generalize hAe : va_A (HHW ca ai ad u) s.heap.size = A at hD ⊢
  have hA : ∀ q : Nat, s.heap.size ≤ q → A q := fun q h => by rw [← hAe]; exact Or.inr h
  have hS : va_S A s.heap s.heap [] := va_S.rf
  have hf : fX4_prepare u = fX4_prepare u := rfl
  refine W_entry (Nat.le_of_ble_eq_true rfl) (fun ls hl => ?_)
  have hl : lv_has ls 2 [(0, .ref (ad 1)), (1, .ref (ai 9 8))] := hl
  refine lv_aload_n hx hb dX4_prepare_0 rfl (lv_at hl 0 rfl) ?_
  refine va_get (D := D) (ci := 5) (v := .ref (ad 2)) (C := RX4) (T := TX4) (N := 3) hx hb hts hin hown hK hP 0 rfl rfl 0 (by decide) (hts (.fieldLink RX4 13 "HatReservations$History" "halls" "[LHatReservations$Hall;") (by decide +kernel)) (fun _ h9 => h9) rfl dX4_prepare_1 ?_
  refine lv_aload_n hx hb dX4_prepare_4 rfl (lv_at hl 0 rfl) ?_
  refine va_get (D := D) (ci := 5) (v := .int (nI (hv1 u))) (C := RX4) (T := TX4) (N := 3) hx hb hts hin hown hK hP 0 rfl rfl 1 (by decide) (hts (.fieldLink RX4 17 "HatReservations$History" "spare" "I") (by decide +kernel)) (fun _ h9 => h9) rfl dX4_prepare_5 ?_
  refine aaldN (g := fun i => ai i 8) (k := (hv1 u)) 1 3 hx hb hK hP rfl rfl (by omega) (by decide) dX4_prepare_8 ?_
  refine lv_aload_n hx hb dX4_prepare_9 rfl (lv_at hl 1 rfl) ?_
  refine hcMv (As := [.ref (ai 9 8)]) (rest := []) (wr := HHR ca ai ad u (hv1 u)) (f := fun z => HW ca (ai 9) (hv3 u) ++ HW ca (ai (hv1 u)) z) (F := (hv3 u)) 9 4 ⟨hx, hb, hml, hown, hts⟩ (kX3_become l D ca (ai (hv1 u)) (ai 9) _ ((hv0 u) (hv1 u)) (hv3 u)) (cwV 1 hts gX4_prepare_X3_become rfl rfl rfl (by decide +kernel) ⟨Nat.le_of_ble_eq_true rfl, Nat.le_of_ble_eq_true rfl⟩) hK hP hD hS hA (HH_f1 (by omega)) rfl rfl rfl hl.1 rfl (Nat.le_of_ble_eq_true rfl) ⟨Nat.zero_le _, Nat.zero_le _⟩ dX4_prepare_10 (fun H locs hP hD hS => ?_)
  have hP := P_perm (HH_b1 (by omega)) hP
  have hD := D_perm (HH_b1 (by omega)) hD
  have hP : va_P D vwCl (HHW ca ai ad (hy0 (va_up (hv0 u) (hv1 u) (hv3 u)) u)) H := hP
  have hD : va_D A (HHW ca ai ad (hy0 (va_up (hv0 u) (hv1 u) (hv3 u)) u)) := hD
  exact W.vret hx hb hr (fun t ht hW => ⟨⟨(hy0 (va_up (hv0 u) (hv1 u) (hv3 u)) u), rfl, hf.symm, by rw [ht]; exact hP, va_K.moved hW.alike hK, hD⟩, hS.F ht⟩) hS.2.2 dX4_prepare_13
def fX4_takeBack (u : HHS) : HHS :=
  (hy3 ((hv0 u) (hv1 u)) u)
set_option maxHeartbeats 4000000 in
set_option maxRecDepth 100000 in
/-- takeBack -/
theorem kX4_takeBack (l : Launch) (D : va_G) (ca : Nat → ClassId) (ai : Nat → Nat → Nat) (ad : Nat → Nat) (sz : Nat) (u : HHS) (hsp : hv1 u < 9) : Met l yX4_takeBack wsX4_takeBack ({ frames := 2, cells := 0, slots := 0, locals := 39 }) (MPc D ca sz (HHW ca ai ad u) [.ref (ad 1), .ref (ai 9 8)]) (va_Qv (fun v => v = fX4_takeBack u) (MB D ca (va_A (HHW ca ai ad u) sz) (fun v => HHW ca ai ad v)) (va_A (HHW ca ai ad u) sz)) 0 0 (va_A (HHW ca ai ad u) sz) := by
  refine Met.ofW (cc := cX4_takeBack) (maxL := 2) (ret := none) (by decide) rfl ?_
  intro p e s m args below meth c s₁ B hml hv
  obtain ⟨rfl, hsz, hP, hK, hD0⟩ := hv
  have hx := B.exec
  have hb := B.bytes
  have hr := B.returns
  have hts := atoms_spec (ws := wsX4_takeBack) B.pre
  have hown : s.vm.findClass RX4 = some m.cls := findClass_of_methodNamed B.named
  have hlocks := B.notSynchronized
  have hin : ∀ w ∈ wsX40, w ∈ wsX4_takeBack := by decide +kernel
  subst hsz
  have hD := hD0.self (sz := s.heap.size)
  generalize hAe : va_A (HHW ca ai ad u) s.heap.size = A at hD ⊢
  have hA : ∀ q : Nat, s.heap.size ≤ q → A q := fun q h => by rw [← hAe]; exact Or.inr h
  have hS : va_S A s.heap s.heap [] := va_S.rf
  have hf : fX4_takeBack u = fX4_takeBack u := rfl
  refine W_entry (Nat.le_of_ble_eq_true rfl) (fun ls hl => ?_)
  have hl : lv_has ls 2 [(0, .ref (ad 1)), (1, .ref (ai 9 8))] := hl
  refine lv_aload_n hx hb dX4_takeBack_0 rfl (lv_at hl 1 rfl) ?_
  refine lv_aload_n hx hb dX4_takeBack_1 rfl (lv_at hl 0 rfl) ?_
  refine va_get (D := D) (ci := 5) (v := .ref (ad 2)) (C := RX4) (T := TX4) (N := 3) hx hb hts hin hown hK hP 0 rfl rfl 0 (by decide) (hts (.fieldLink RX4 13 "HatReservations$History" "halls" "[LHatReservations$Hall;") (by decide +kernel)) (fun _ h9 => h9) rfl dX4_takeBack_2 ?_
  refine lv_aload_n hx hb dX4_takeBack_5 rfl (lv_at hl 0 rfl) ?_
  refine va_get (D := D) (ci := 5) (v := .int (nI (hv1 u))) (C := RX4) (T := TX4) (N := 3) hx hb hts hin hown hK hP 0 rfl rfl 1 (by decide) (hts (.fieldLink RX4 17 "HatReservations$History" "spare" "I") (by decide +kernel)) (fun _ h9 => h9) rfl dX4_takeBack_6 ?_
  refine aaldN (g := fun i => ai i 8) (k := (hv1 u)) 1 3 hx hb hK hP rfl rfl (by omega) (by decide) dX4_takeBack_9 ?_
  refine hcMv (As := [.ref (ai (hv1 u) 8)]) (rest := []) (wr := HHR ca ai ad u (hv1 u)) (f := fun z => HW ca (ai (hv1 u)) ((hv0 u) (hv1 u)) ++ HW ca (ai 9) z) (F := (hv0 u) (hv1 u)) 9 4 ⟨hx, hb, hml, hown, hts⟩ (kX3_become l D ca (ai 9) (ai (hv1 u)) _ (hv3 u) ((hv0 u) (hv1 u))) (cwV 1 hts gX4_takeBack_X3_become rfl rfl rfl (by decide +kernel) ⟨Nat.le_of_ble_eq_true rfl, Nat.le_of_ble_eq_true rfl⟩) hK hP hD hS hA (HH_f2 (by omega)) rfl rfl rfl hl.1 rfl (Nat.le_of_ble_eq_true rfl) ⟨Nat.zero_le _, Nat.zero_le _⟩ dX4_takeBack_10 (fun H locs hP hD hS => ?_)
  have hP := P_perm (HH_b2 (by omega)) hP
  have hD := D_perm (HH_b2 (by omega)) hD
  have hP : va_P D vwCl (HHW ca ai ad (hy3 ((hv0 u) (hv1 u)) u)) H := hP
  have hD : va_D A (HHW ca ai ad (hy3 ((hv0 u) (hv1 u)) u)) := hD
  exact W.vret hx hb hr (fun t ht hW => ⟨⟨(hy3 ((hv0 u) (hv1 u)) u), rfl, hf.symm, by rw [ht]; exact hP, va_K.moved hW.alike hK, hD⟩, hS.F ht⟩) hS.2.2 dX4_takeBack_13
def fX4_remember (u : HHS) : HHS :=
  (fX4_keep (fX4_prepare u))
set_option maxHeartbeats 4000000 in
set_option maxRecDepth 100000 in
/-- remember -/
theorem kX4_remember (l : Launch) (D : va_G) (ca : Nat → ClassId) (ai : Nat → Nat → Nat) (ad : Nat → Nat) (sz : Nat) (u : HHS) (hsp : hv1 u < 9) (hcn : hv2 u ≤ 8) : Met l yX4_remember wsX4_remember ({ frames := 3, cells := 0, slots := 0, locals := 60 }) (MPc D ca sz (HHW ca ai ad u) [.ref (ad 1), .ref (ai 9 8)]) (va_Qv (fun v => v = fX4_remember u) (MB D ca (va_A (HHW ca ai ad u) sz) (fun v => HHW ca ai ad v)) (va_A (HHW ca ai ad u) sz)) 0 0 (va_A (HHW ca ai ad u) sz) := by
  refine Met.ofW (cc := cX4_remember) (maxL := 2) (ret := none) (by decide) rfl ?_
  intro p e s m args below meth c s₁ B hml hv
  obtain ⟨rfl, hsz, hP, hK, hD0⟩ := hv
  have hx := B.exec
  have hb := B.bytes
  have hr := B.returns
  have hts := atoms_spec (ws := wsX4_remember) B.pre
  have hown : s.vm.findClass RX4 = some m.cls := findClass_of_methodNamed B.named
  have hlocks := B.notSynchronized
  subst hsz
  have hD := hD0.self (sz := s.heap.size)
  generalize hAe : va_A (HHW ca ai ad u) s.heap.size = A at hD ⊢
  have hA : ∀ q : Nat, s.heap.size ≤ q → A q := fun q h => by rw [← hAe]; exact Or.inr h
  have hS : va_S A s.heap s.heap [] := va_S.rf
  have hf : fX4_remember u = fX4_remember u := rfl
  refine W_entry (Nat.le_of_ble_eq_true rfl) (fun ls hl => ?_)
  have hl : lv_has ls 2 [(0, .ref (ad 1)), (1, .ref (ai 9 8))] := hl
  refine lv_aload_n hx hb dX4_remember_0 rfl (lv_at hl 0 rfl) ?_
  refine lv_aload_n hx hb dX4_remember_1 rfl (lv_at hl 1 rfl) ?_
  refine hcMv (As := [.ref (ai 9 8)]) (rest := []) (wr := []) (f := fun z => HHW ca ai ad z) (F := fX4_prepare u) 0 5 ⟨hx, hb, hml, hown, hts⟩ (kX4_prepare l D ca ai ad _ u hsp) (cwV 1 hts gX4_remember_X4_prepare rfl rfl rfl (by decide +kernel) ⟨Nat.le_of_ble_eq_true rfl, Nat.le_of_ble_eq_true rfl⟩) hK hP hD hS hA (List.Perm.refl _) rfl rfl rfl hl.1 rfl (Nat.le_of_ble_eq_true rfl) ⟨Nat.zero_le _, Nat.zero_le _⟩ dX4_remember_2 (fun H locs hP hD hS => ?_)
  have hP : va_P D vwCl (HHW ca ai ad (fX4_prepare u)) H := hP
  have hD : va_D A (HHW ca ai ad (fX4_prepare u)) := hD
  refine lv_aload_n hx hb dX4_remember_5 rfl (lv_at hl 0 rfl) ?_
  refine hcMv (As := []) (rest := []) (wr := []) (f := fun z => HHW ca ai ad z) (F := fX4_keep (fX4_prepare u)) 0 5 ⟨hx, hb, hml, hown, hts⟩ (kX4_keep l D ca ai ad _ (fX4_prepare u) hsp hcn) (cwV 0 hts gX4_remember_X4_keep rfl rfl rfl (by decide +kernel) ⟨Nat.le_of_ble_eq_true rfl, Nat.le_of_ble_eq_true rfl⟩) hK hP hD hS hA (List.Perm.refl _) rfl rfl rfl hl.1 rfl (Nat.le_of_ble_eq_true rfl) ⟨Nat.zero_le _, Nat.zero_le _⟩ dX4_remember_6 (fun H locs hP hD hS => ?_)
  have hP : va_P D vwCl (HHW ca ai ad (fX4_keep (fX4_prepare u))) H := hP
  have hD : va_D A (HHW ca ai ad (fX4_keep (fX4_prepare u))) := hD
  exact W.vret hx hb hr (fun t ht hW => ⟨⟨(fX4_keep (fX4_prepare u)), rfl, hf.symm, by rw [ht]; exact hP, va_K.moved hW.alike hK, hD⟩, hS.F ht⟩) hS.2.2 dX4_remember_9
def fX4_stepBack (u : HHS) : Int32 × HHS :=
  (if (nI (hv1 u)) ≤ 0 then (nI ((hv2 (hy1 8 u)) - 1), hy3 ((hv0 u) 8) (hy2 ((hv2 (hy1 8 u)) - 1) (hy1 8 u))) else (nI ((hv2 (hy1 ((hv1 u) - 1) u)) - 1), hy3 ((hv0 u) ((hv1 u) - 1)) (hy2 ((hv2 (hy1 ((hv1 u) - 1) u)) - 1) (hy1 ((hv1 u) - 1) u))))
set_option maxHeartbeats 4000000 in
set_option maxRecDepth 100000 in
/-- stepBack -/
theorem kX4_stepBack (l : Launch) (D : va_G) (ca : Nat → ClassId) (ai : Nat → Nat → Nat) (ad : Nat → Nat) (sz : Nat) (u : HHS) (hsp : hv1 u < 9) (hcn : 0 < hv2 u) : Met l yX4_stepBack wsX4_stepBack ({ frames := 2, cells := 0, slots := 0, locals := 39 }) (MPc D ca sz (HHW ca ai ad u) [.ref (ad 1), .ref (ai 9 8)]) (va_Qi (fun r v => (r, v) = fX4_stepBack u) (MB D ca (va_A (HHW ca ai ad u) sz) (fun v => HHW ca ai ad v)) (va_A (HHW ca ai ad u) sz)) 0 0 (va_A (HHW ca ai ad u) sz) := by
  refine Met.ofW (cc := cX4_stepBack) (maxL := 2) (ret := (some .int)) (by decide) rfl ?_
  intro p e s m args below meth c s₁ B hml hv
  obtain ⟨rfl, hsz, hP, hK, hD0⟩ := hv
  have hx := B.exec
  have hb := B.bytes
  have hr := B.returns
  have hts := atoms_spec (ws := wsX4_stepBack) B.pre
  have hown : s.vm.findClass RX4 = some m.cls := findClass_of_methodNamed B.named
  have hlocks := B.notSynchronized
  have hin : ∀ w ∈ wsX40, w ∈ wsX4_stepBack := by decide +kernel
  subst hsz
  have hD := hD0.self (sz := s.heap.size)
  generalize hAe : va_A (HHW ca ai ad u) s.heap.size = A at hD ⊢
  have hA : ∀ q : Nat, s.heap.size ≤ q → A q := fun q h => by rw [← hAe]; exact Or.inr h
  have hS : va_S A s.heap s.heap [] := va_S.rf
  have hf : fX4_stepBack u = fX4_stepBack u := rfl
  refine W_entry (Nat.le_of_ble_eq_true rfl) (fun ls hl => ?_)
  have hl : lv_has ls 2 [(0, .ref (ad 1)), (1, .ref (ai 9 8))] := hl
  refine lv_aload_n hx hb dX4_stepBack_0 rfl (lv_at hl 0 rfl) ?_
  refine lv_aload_n hx hb dX4_stepBack_1 rfl (lv_at hl 0 rfl) ?_
  refine va_get (D := D) (ci := 5) (v := .int (nI (hv1 u))) (C := RX4) (T := TX4) (N := 3) hx hb hts hin hown hK hP 0 rfl rfl 1 (by decide) (hts (.fieldLink RX4 17 "HatReservations$History" "spare" "I") (by decide +kernel)) (fun _ h9 => h9) rfl dX4_stepBack_2 ?_
  refine lv_if_le (tgt := 17) hx hb dX4_stepBack_5 (by decide) (fun c_5 => ?_) (fun c_5 => ?_)
  · have hf := hf.trans (if_pos c_5)
    refine lv_bipush (v := 8) hx hb dX4_stepBack_17 (by decide) ?_
    refine va_put (D := D) (ci := 5) (v := .int (nI 8)) (ty := .int) (C := RX4) (T := TX4) (N := 3) hx hb hts hin tyX4 tyX4_ok nmX4 hown hK hP hD hS 0 rfl rfl 1 (by decide) (hts (.fieldLink RX4 17 "HatReservations$History" "spare" "I") (by decide +kernel)) (fun _ h9 => h9) rfl (by decide +kernel) rfl rfl (Nat.le_of_ble_eq_true rfl) dX4_stepBack_19 (fun H locs hP hD hS => ?_)
    have hP : va_P D vwCl (HHW ca ai ad (hy1 8 u)) H := hP
    have hD : va_D A (HHW ca ai ad (hy1 8 u)) := hD
    refine lv_aload_n hx hb dX4_stepBack_22 rfl (lv_at hl 1 rfl) ?_
    refine lv_aload_n hx hb dX4_stepBack_23 rfl (lv_at hl 0 rfl) ?_
    refine va_get (D := D) (ci := 5) (v := .ref (ad 2)) (C := RX4) (T := TX4) (N := 3) hx hb hts hin hown hK hP 0 rfl rfl 0 (by decide) (hts (.fieldLink RX4 13 "HatReservations$History" "halls" "[LHatReservations$Hall;") (by decide +kernel)) (fun _ h9 => h9) rfl dX4_stepBack_24 ?_
    refine lv_aload_n hx hb dX4_stepBack_27 rfl (lv_at hl 0 rfl) ?_
    refine va_get (D := D) (ci := 5) (v := .int (nI 8)) (C := RX4) (T := TX4) (N := 3) hx hb hts hin hown hK hP 0 rfl rfl 1 (by decide) (hts (.fieldLink RX4 17 "HatReservations$History" "spare" "I") (by decide +kernel)) (fun _ h9 => h9) rfl dX4_stepBack_28 ?_
    refine aaldN (g := fun i => ai i 8) (k := 8) 1 3 hx hb hK hP rfl rfl (by omega) (by decide) dX4_stepBack_31 ?_
    refine hcMv (As := [.ref (ai 8 8)]) (rest := []) (wr := HHR ca ai ad (hy1 8 u) 8) (f := fun z => HW ca (ai 8) ((hv0 u) 8) ++ HW ca (ai 9) z) (F := (hv0 u) 8) 9 4 ⟨hx, hb, hml, hown, hts⟩ (kX3_become l D ca (ai 9) (ai 8) _ (hv3 u) ((hv0 u) 8)) (cwV 1 hts gX4_stepBack_X3_become rfl rfl rfl (by decide +kernel) ⟨Nat.le_of_ble_eq_true rfl, Nat.le_of_ble_eq_true rfl⟩) hK hP hD hS hA (HH_f2 (by omega)) rfl rfl rfl hl.1 rfl (Nat.le_of_ble_eq_true rfl) ⟨Nat.zero_le _, Nat.zero_le _⟩ dX4_stepBack_32 (fun H locs hP hD hS => ?_)
    have hP := P_perm (HH_b2 (by omega)) hP
    have hD := D_perm (HH_b2 (by omega)) hD
    have hP : va_P D vwCl (HHW ca ai ad (hy3 ((hv0 u) 8) (hy1 8 u))) H := hP
    have hD : va_D A (HHW ca ai ad (hy3 ((hv0 u) 8) (hy1 8 u))) := hD
    refine lv_aload_n hx hb dX4_stepBack_35 rfl (lv_at hl 0 rfl) ?_
    refine lv_dup hx hb dX4_stepBack_36 rfl ?_
    refine va_get (D := D) (ci := 5) (v := .int (nI (hv2 (hy1 8 u)))) (C := RX4) (T := TX4) (N := 3) hx hb hts hin hown hK hP 0 rfl rfl 2 (by decide) (hts (.fieldLink RX4 21 "HatReservations$History" "count" "I") (by decide +kernel)) (fun _ h9 => h9) rfl dX4_stepBack_37 ?_
    refine lv_iconst (v := 1) hx hb dX4_stepBack_40 (by decide) ?_
    refine lv_isub hx hb dX4_stepBack_41 ?_
    refine lv_topi (fun y ey => ?_)
    obtain rfl : y = nI ((hv2 (hy1 8 u)) - 1) := by rw [ey]; exact (pk_sub (a := (hv2 (hy1 8 u))) (b := 1) (by first | omega | exact hcn | exact hp1))
    refine va_put (D := D) (ci := 5) (v := .int (nI ((hv2 (hy1 8 u)) - 1))) (ty := .int) (C := RX4) (T := TX4) (N := 3) hx hb hts hin tyX4 tyX4_ok nmX4 hown hK hP hD hS 0 rfl rfl 2 (by decide) (hts (.fieldLink RX4 21 "HatReservations$History" "count" "I") (by decide +kernel)) (fun _ h9 => h9) rfl (by decide +kernel) rfl rfl (Nat.le_of_ble_eq_true rfl) dX4_stepBack_42 (fun H locs hP hD hS => ?_)
    have hP : va_P D vwCl (HHW ca ai ad (hy3 ((hv0 u) 8) (hy2 ((hv2 (hy1 8 u)) - 1) (hy1 8 u)))) H := hP
    have hD : va_D A (HHW ca ai ad (hy3 ((hv0 u) 8) (hy2 ((hv2 (hy1 8 u)) - 1) (hy1 8 u)))) := hD
    refine lv_aload_n hx hb dX4_stepBack_45 rfl (lv_at hl 0 rfl) ?_
    refine va_get (D := D) (ci := 5) (v := .int (nI ((hv2 (hy1 8 u)) - 1))) (C := RX4) (T := TX4) (N := 3) hx hb hts hin hown hK hP 0 rfl rfl 2 (by decide) (hts (.fieldLink RX4 21 "HatReservations$History" "count" "I") (by decide +kernel)) (fun _ h9 => h9) rfl dX4_stepBack_46 ?_
    exact W.iret (v := nI ((hv2 (hy1 8 u)) - 1)) hx hb hr (fun t ht hW => ⟨⟨nI ((hv2 (hy1 8 u)) - 1), hy3 ((hv0 u) 8) (hy2 ((hv2 (hy1 8 u)) - 1) (hy1 8 u)), rfl, hf.symm, by rw [ht]; exact hP, va_K.moved hW.alike hK, hD⟩, hS.F ht⟩) hS.2.2 dX4_stepBack_49
  · have hf := hf.trans (if_neg c_5)
    have hp1 : 0 < hv1 u := Nat.pos_of_ne_zero (fun z => c_5 (by rw [z]; decide))
    refine lv_aload_n hx hb dX4_stepBack_8 rfl (lv_at hl 0 rfl) ?_
    refine va_get (D := D) (ci := 5) (v := .int (nI (hv1 u))) (C := RX4) (T := TX4) (N := 3) hx hb hts hin hown hK hP 0 rfl rfl 1 (by decide) (hts (.fieldLink RX4 17 "HatReservations$History" "spare" "I") (by decide +kernel)) (fun _ h9 => h9) rfl dX4_stepBack_9 ?_
    refine lv_iconst (v := 1) hx hb dX4_stepBack_12 (by decide) ?_
    refine lv_isub hx hb dX4_stepBack_13 ?_
    refine lv_topi (fun y ey => ?_)
    obtain rfl : y = nI ((hv1 u) - 1) := by rw [ey]; exact (pk_sub (a := (hv1 u)) (b := 1) (by first | omega | exact hcn | exact hp1))
    refine lv_goto (tgt := 19) hx hb dX4_stepBack_14 (by decide) ?_
    refine va_put (D := D) (ci := 5) (v := .int (nI ((hv1 u) - 1))) (ty := .int) (C := RX4) (T := TX4) (N := 3) hx hb hts hin tyX4 tyX4_ok nmX4 hown hK hP hD hS 0 rfl rfl 1 (by decide) (hts (.fieldLink RX4 17 "HatReservations$History" "spare" "I") (by decide +kernel)) (fun _ h9 => h9) rfl (by decide +kernel) rfl rfl (Nat.le_of_ble_eq_true rfl) dX4_stepBack_19 (fun H locs hP hD hS => ?_)
    have hP : va_P D vwCl (HHW ca ai ad (hy1 ((hv1 u) - 1) u)) H := hP
    have hD : va_D A (HHW ca ai ad (hy1 ((hv1 u) - 1) u)) := hD
    refine lv_aload_n hx hb dX4_stepBack_22 rfl (lv_at hl 1 rfl) ?_
    refine lv_aload_n hx hb dX4_stepBack_23 rfl (lv_at hl 0 rfl) ?_
    refine va_get (D := D) (ci := 5) (v := .ref (ad 2)) (C := RX4) (T := TX4) (N := 3) hx hb hts hin hown hK hP 0 rfl rfl 0 (by decide) (hts (.fieldLink RX4 13 "HatReservations$History" "halls" "[LHatReservations$Hall;") (by decide +kernel)) (fun _ h9 => h9) rfl dX4_stepBack_24 ?_
    refine lv_aload_n hx hb dX4_stepBack_27 rfl (lv_at hl 0 rfl) ?_
    refine va_get (D := D) (ci := 5) (v := .int (nI ((hv1 u) - 1))) (C := RX4) (T := TX4) (N := 3) hx hb hts hin hown hK hP 0 rfl rfl 1 (by decide) (hts (.fieldLink RX4 17 "HatReservations$History" "spare" "I") (by decide +kernel)) (fun _ h9 => h9) rfl dX4_stepBack_28 ?_
    refine aaldN (g := fun i => ai i 8) (k := ((hv1 u) - 1)) 1 3 hx hb hK hP rfl rfl (by omega) (by decide) dX4_stepBack_31 ?_
    refine hcMv (As := [.ref (ai ((hv1 u) - 1) 8)]) (rest := []) (wr := HHR ca ai ad (hy1 ((hv1 u) - 1) u) ((hv1 u) - 1)) (f := fun z => HW ca (ai ((hv1 u) - 1)) ((hv0 u) ((hv1 u) - 1)) ++ HW ca (ai 9) z) (F := (hv0 u) ((hv1 u) - 1)) 9 4 ⟨hx, hb, hml, hown, hts⟩ (kX3_become l D ca (ai 9) (ai ((hv1 u) - 1)) _ (hv3 u) ((hv0 u) ((hv1 u) - 1))) (cwV 1 hts gX4_stepBack_X3_become rfl rfl rfl (by decide +kernel) ⟨Nat.le_of_ble_eq_true rfl, Nat.le_of_ble_eq_true rfl⟩) hK hP hD hS hA (HH_f2 (by omega)) rfl rfl rfl hl.1 rfl (Nat.le_of_ble_eq_true rfl) ⟨Nat.zero_le _, Nat.zero_le _⟩ dX4_stepBack_32 (fun H locs hP hD hS => ?_)
    have hP := P_perm (HH_b2 (by omega)) hP
    have hD := D_perm (HH_b2 (by omega)) hD
    have hP : va_P D vwCl (HHW ca ai ad (hy3 ((hv0 u) ((hv1 u) - 1)) (hy1 ((hv1 u) - 1) u))) H := hP
    have hD : va_D A (HHW ca ai ad (hy3 ((hv0 u) ((hv1 u) - 1)) (hy1 ((hv1 u) - 1) u))) := hD
    refine lv_aload_n hx hb dX4_stepBack_35 rfl (lv_at hl 0 rfl) ?_
    refine lv_dup hx hb dX4_stepBack_36 rfl ?_
    refine va_get (D := D) (ci := 5) (v := .int (nI (hv2 (hy1 ((hv1 u) - 1) u)))) (C := RX4) (T := TX4) (N := 3) hx hb hts hin hown hK hP 0 rfl rfl 2 (by decide) (hts (.fieldLink RX4 21 "HatReservations$History" "count" "I") (by decide +kernel)) (fun _ h9 => h9) rfl dX4_stepBack_37 ?_
    refine lv_iconst (v := 1) hx hb dX4_stepBack_40 (by decide) ?_
    refine lv_isub hx hb dX4_stepBack_41 ?_
    refine lv_topi (fun y ey => ?_)
    obtain rfl : y = nI ((hv2 (hy1 ((hv1 u) - 1) u)) - 1) := by rw [ey]; exact (pk_sub (a := (hv2 (hy1 ((hv1 u) - 1) u))) (b := 1) (by first | omega | exact hcn | exact hp1))
    refine va_put (D := D) (ci := 5) (v := .int (nI ((hv2 (hy1 ((hv1 u) - 1) u)) - 1))) (ty := .int) (C := RX4) (T := TX4) (N := 3) hx hb hts hin tyX4 tyX4_ok nmX4 hown hK hP hD hS 0 rfl rfl 2 (by decide) (hts (.fieldLink RX4 21 "HatReservations$History" "count" "I") (by decide +kernel)) (fun _ h9 => h9) rfl (by decide +kernel) rfl rfl (Nat.le_of_ble_eq_true rfl) dX4_stepBack_42 (fun H locs hP hD hS => ?_)
    have hP : va_P D vwCl (HHW ca ai ad (hy3 ((hv0 u) ((hv1 u) - 1)) (hy2 ((hv2 (hy1 ((hv1 u) - 1) u)) - 1) (hy1 ((hv1 u) - 1) u)))) H := hP
    have hD : va_D A (HHW ca ai ad (hy3 ((hv0 u) ((hv1 u) - 1)) (hy2 ((hv2 (hy1 ((hv1 u) - 1) u)) - 1) (hy1 ((hv1 u) - 1) u)))) := hD
    refine lv_aload_n hx hb dX4_stepBack_45 rfl (lv_at hl 0 rfl) ?_
    refine va_get (D := D) (ci := 5) (v := .int (nI ((hv2 (hy1 ((hv1 u) - 1) u)) - 1))) (C := RX4) (T := TX4) (N := 3) hx hb hts hin hown hK hP 0 rfl rfl 2 (by decide) (hts (.fieldLink RX4 21 "HatReservations$History" "count" "I") (by decide +kernel)) (fun _ h9 => h9) rfl dX4_stepBack_46 ?_
    exact W.iret (v := nI ((hv2 (hy1 ((hv1 u) - 1) u)) - 1)) hx hb hr (fun t ht hW => ⟨⟨nI ((hv2 (hy1 ((hv1 u) - 1) u)) - 1), hy3 ((hv0 u) ((hv1 u) - 1)) (hy2 ((hv2 (hy1 ((hv1 u) - 1) u)) - 1) (hy1 ((hv1 u) - 1) u)), rfl, hf.symm, by rw [ht]; exact hP, va_K.moved hW.alike hK, hD⟩, hS.F ht⟩) hS.2.2 dX4_stepBack_49
