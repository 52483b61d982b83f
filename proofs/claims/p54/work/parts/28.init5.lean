/-! constructors: the history's, the object's -/
section ROWI
variable {p : Program} {l : Launch} {e : Env} {R : Room} {s : State} {m : MethodId} {args : Array Value} {below : List Frame} {meth : Method} {c : Code} {H : Heap} {locs : List Loc} {cells slots : Nat} {Q : State → Prop}
variable {D : va_G} {ca : Nat → ClassId} {ws wc wr : va_W} {As rest st0 : List Value} {index n pc nL maxL mc ms b : Nat} {y : MethodName} {bytes cc : ByteArray} {wsy Ts : List Cond} {rm : Room} {own : String} {ls : Array Slot} {A0 : Nat → Prop} {X : (Nat → Prop) → State → Heap → Prop} {S0 : Type} {φ : S0 → Prop} {f : S0 → va_W}
theorem hcIv (S : CallFix p m c cc nL s args Ts own) (hM : Met l y wsy rm (MPc D ca H.size wc (.ref b :: As)) (va_Qv φ (MB D ca (va_A wc H.size) f) (va_A wc H.size)) mc ms (va_A wc H.size)) (cw : CallB R s args own index y bytes maxL none wsy rm mc ms n ∧ y.name = "<init>" ∧ (Cond.instanceMethod y).before args s = true) (hK : va_K D vwCl (TYS ca) s) (hP : va_P D vwCl ws H) (hD : va_D A0 ws) (hS : va_S A0 s.heap H locs) (hA : ∀ q, s.heap.size ≤ q → A0 q) (hperm : ws.Perm (wr ++ wc)) (hn : As.length = n) (hsize : ls.size = nL) (hst : st0 = As.reverse ++ .ref b :: rest) (hW : (rest.map fun v => v.category).sum ≤ 8) (hf : cells + mc ≤ R.cells ∧ slots + ms ≤ R.slots) (hdg : decode cc pc = .ok (.invokespecial index, 3))
    (kk : ∀ (v : S0) (H1 : Heap) (locs1 : List Loc), φ v → va_P D vwCl (wr ++ f v) H1 → va_D A0 (wr ++ f v) → va_S A0 s.heap H1 locs1 → W p l e R s m args below meth c H1 locs1 (cells + mc) (slots + ms) Q (F0 m (pc + 3) ls rest)) : W p l e R s m args below meth c H locs cells slots Q (F0 m pc ls st0) := by
  have hPc := P_right (P_perm hperm hP)
  have hDc := D_right (D_perm hperm hD)
  have hF := J_free hperm hD hS hA
  refine va_callv (va_runI S hM cw ⟨MPc_blind, fun U hU hW => ⟨rfl, by rw [hU], by rw [hU]; exact hPc, va_K.moved hW.alike hK, hDc.weaken (fun _ _ _ _ => trivial)⟩⟩ rfl hn hsize hst (lv_room hW) hdg hf) hS (fun q _ h => hF q h) hF (fun u t H1 locs1 ht hvm hw hB hz hk hS1 => ?_)
  obtain ⟨hP1, -, hD1⟩ := hB
  rw [ht] at hP1
  obtain ⟨g1, g2⟩ := J_join hperm hP hD hk hF hP1 hD1
  exact kk u H1 locs1 hw g1 g2 hS1
theorem hcIGv (ok : SXok X) (S : CallFix p m c cc nL s args Ts own) (hM : Met l y wsy rm (MGPc D ca X H.size wc (.ref b :: As)) (va_Qv φ (MB D ca (va_A wc H.size) f) (va_A wc H.size)) mc ms (va_A wc H.size)) (cw : CallB R s args own index y bytes maxL none wsy rm mc ms n ∧ y.name = "<init>" ∧ (Cond.instanceMethod y).before args s = true) (hK : va_K D vwCl (TYS ca) s) (hP : va_P D vwCl ws H) (hD : va_D A0 ws) (hS : va_S A0 s.heap H locs) (hA : ∀ q, s.heap.size ≤ q → A0 q) (hX : X A0 s s.heap) (hperm : ws.Perm (wr ++ wc)) (hn : As.length = n) (hsize : ls.size = nL) (hst : st0 = As.reverse ++ .ref b :: rest) (hW : (rest.map fun v => v.category).sum ≤ 8) (hf : cells + mc ≤ R.cells ∧ slots + ms ≤ R.slots) (hdg : decode cc pc = .ok (.invokespecial index, 3))
    (kk : ∀ (v : S0) (H1 : Heap) (locs1 : List Loc), φ v → va_P D vwCl (wr ++ f v) H1 → va_D A0 (wr ++ f v) → va_S A0 s.heap H1 locs1 → W p l e R s m args below meth c H1 locs1 (cells + mc) (slots + ms) Q (F0 m (pc + 3) ls rest)) : W p l e R s m args below meth c H locs cells slots Q (F0 m pc ls st0) := by
  have hPc := P_right (P_perm hperm hP)
  have hDc := D_right (D_perm hperm hD)
  have hF := J_free hperm hD hS hA
  refine va_callv (va_runI S hM cw ⟨MGPc_blind ok, fun U hU hW => ⟨rfl, by rw [hU], by rw [hU]; exact hPc, va_K.moved hW.alike hK, hDc.weaken (fun _ _ _ _ => trivial), X_at ok hX hS hF hU hW⟩⟩ rfl hn hsize hst (lv_room hW) hdg hf) hS (fun q _ h => hF q h) hF (fun u t H1 locs1 ht hvm hw hB hz hk hS1 => ?_)
  obtain ⟨hP1, -, hD1⟩ := hB
  rw [ht] at hP1
  obtain ⟨g1, g2⟩ := J_join hperm hP hD hk hF hP1 hD1
  exact kk u H1 locs1 hw g1 g2 hS1
end ROWI
/-- a row of halls filled up to k -/
def hpre (ai : Nat → Nat → Nat) (k : Nat) : Nat → Option Nat := fun j => if j < k then some (ai j 8) else none
theorem hpre_up {ai : Nat → Nat → Nat} {k : Nat} {a : Nat → Nat} : va_up (hpre ai k) k (some (a 8)) = hpre (va_up ai k a) (k + 1) := by
  funext j
  unfold va_up hpre
  by_cases h : j = k
  · subst h
    rw [if_pos rfl, if_pos (Nat.lt_succ_self j)]
    show some (a 8) = some ((if j = j then a else ai j) 8)
    rw [if_pos rfl]
  · rw [if_neg h]
    by_cases g : j < k
    · rw [if_pos g, if_pos (Nat.lt_succ_of_lt g)]
      show some (ai j 8) = some ((if j = k then a else ai j) 8)
      rw [if_neg h]
    · rw [if_neg g, if_neg (by omega)]
def HL0 (ca : Nat → ClassId) (ai : Nat → Nat → Nat) (k : Nat) : va_W := (List.range k).flatMap (fun i => HW ca (ai i) Hnew)
theorem HL0_up {ca : Nat → ClassId} {ai : Nat → Nat → Nat} {k : Nat} {a : Nat → Nat} : HL0 ca (va_up ai k a) (k + 1) = HL0 ca ai k ++ HW ca a Hnew := by
  unfold HL0
  rw [List.range_succ, List.flatMap_append, List.flatMap_cons, List.flatMap_nil, List.append_nil, List.flatMap_def, List.flatMap_def, show va_up ai k a k = a from up_self]
  congr 2
  refine List.map_congr_left (fun j hj => ?_)
  have h := List.mem_range.mp hj
  unfold va_up
  rw [if_neg (by omega)]
def HIW0 (ca : Nat → ClassId) (ai : Nat → Nat → Nat) (ad : Nat → Nat) (k : Nat) : va_W := (ad 1, .inr (5, [.ref (ad 2), .int 0, .int 0])) :: (ad 2, .inl (ca 3, 9, .inr (.inr (.inr (.inr (hpre ai k)))))) :: HL0 ca ai k
theorem HIW0_end {D : va_G} {ca : Nat → ClassId} {ai : Nat → Nat → Nat} {ad : Nat → Nat} {H : Heap} (h : va_P D vwCl (HIW0 ca ai ad 9) H) : va_P D vwCl (HIW ca ai ad (fun _ => Hnew) 0 0) H := by
  have e : vp_cell (ca 3) (9, .inr (.inr (.inr (.inr (hpre ai 9))))) = vp_cell (ca 3) (9, .inr (.inr (.inr (.inr (fun i => some (ai i 8)))))) := by
    show arrV (ca 3) 9 (fun j => va_rf (hpre ai 9 j)) = arrV (ca 3) 9 (fun i => va_rf (some (ai i 8)))
    refine arrV_congr (fun j hj => ?_)
    unfold hpre
    rw [if_pos hj]
  intro k q hk
  match k, hk with
  | 0, hk => exact h 0 q hk
  | 1, hk =>
    cases hk
    exact (show H[ad 2]? = some (vp_cell (ca 3) (9, .inr (.inr (.inr (.inr (hpre ai 9)))))) from h 1 _ rfl).trans (congrArg some e)
  | k + 2, hk => exact h (k + 2) q hk
theorem mid3 {x y : Nat × va_E} {a b : va_W} : (x :: y :: (a ++ b)).Perm (x :: y :: (b ++ a)) := List.Perm.cons _ (List.Perm.cons _ List.perm_append_comm)
set_option maxHeartbeats 4000000 in
set_option maxRecDepth 100000 in
theorem kX4_init (l : Launch) (D : va_G) (ca : Nat → ClassId) (en ks vs : Nat → Nat) (h : Nat) (sz : Nat) : Met l yX4_init wsX4_init ({ frames := 2, cells := 82, slots := 720, locals := 33 }) (MGPc D ca (HX en ks vs) sz [(h, .inr (5, [.null, .int 0, .int 0]))] [.ref h]) (va_Qv (fun z : (Nat → Nat → Nat) × (Nat → Nat) => z.2 1 = h) (MB D ca (va_A [(h, .inr (5, [.null, .int 0, .int 0]))] sz) (fun z => HIW ca z.1 z.2 (fun _ => Hnew) 0 0)) (va_A [(h, .inr (5, [.null, .int 0, .int 0]))] sz)) 82 720 (va_A [(h, .inr (5, [.null, .int 0, .int 0]))] sz) := by
  refine Met.ofW (cc := cX4_init) (maxL := 2) (ret := none) (by decide) rfl ?_
  intro p e s m args below meth c s₁ B hml hv
  obtain ⟨rfl, hsz, hP, hK, hD0, hX⟩ := hv
  have hx := B.exec
  have hb := B.bytes
  have hr := B.returns
  have hts := atoms_spec (ws := wsX4_init) B.pre
  have hown : s.vm.findClass RX4 = some m.cls := findClass_of_methodNamed B.named
  have hlocks := B.notSynchronized
  have hin4 : ∀ w ∈ wsX40, w ∈ wsX4_init := by decide +kernel
  have hin3 : ∀ w ∈ wsX30, w ∈ wsX4_init := by decide +kernel
  subst hsz
  have hD := hD0.self (sz := s.heap.size)
  generalize hAe : va_A [(h, .inr (5, [.null, .int 0, .int 0]))] s.heap.size = A at hD hX ⊢
  have hA : ∀ q : Nat, s.heap.size ≤ q → A q := fun q h => by rw [← hAe]; exact Or.inr h
  have hS : va_S A s.heap s.heap [] := va_S.rf
  have hin : meth.name = "<init>" := (name_of_methodNamed B.named B.method).1
  have cut : ∀ (n k : Nat) (hnk : n + k = 9) (ai : Nat → Nat → Nat) (ad : Nat → Nat) (had : ad 1 = h) (H : Heap) (locs : List Loc) (hP : va_P D vwCl (HIW0 ca ai ad k) H) (hD : va_D A (HIW0 ca ai ad k)) (hS : va_S A s.heap H locs) (ls : Array Slot) (hl : lv_has ls 2 [(0, .ref (ad 1)), (1, .int (nI k))]), W p l e (headSpec wsX4_init ({ frames := 2, cells := 82, slots := 720, locals := 33 })).room s m ([.ref h] : List Value).toArray below meth c H locs (1 + 9 * k) (9 + 79 * k) (MQ below (va_Qv (fun z : (Nat → Nat → Nat) × (Nat → Nat) => z.2 1 = h) (MB D ca (A) (fun z => HIW ca z.1 z.2 (fun _ => Hnew) 0 0)) (A)) ([.ref h] : List Value).toArray s 82 720 A) (F0 m 25 ls []) := by
    intro n
    induction n with
    | zero =>
      intro k hnk ai ad had H locs hP hD hS ls hl
      obtain rfl : 9 = k := by omega
      refine lv_iload_n hx hb dX4_init_25 rfl (lv_at hl 1 rfl) ?_
      refine lv_bipush (v := 9) hx hb dX4_init_26 (by decide) ?_
      refine lv_icmp_ge (tgt := 50) hx hb dX4_init_28 (by decide) (fun _ => ?_) (fun q => absurd (by decide) q)
      exact W.vret hx hb hr (fun t ht hW => ⟨⟨(ai, ad), rfl, had, by rw [ht]; exact HIW0_end hP, va_K.moved hW.alike hK, D_addr (w1 := HIW0 ca ai ad 9) (w2 := HIW ca ai ad (fun _ => Hnew) 0 0) rfl hD⟩, hS.F ht⟩) hS.2.2 dX4_init_50
    | succ n ih =>
      intro k hnk ai ad had H locs hP hD hS ls hl
      refine lv_iload_n hx hb dX4_init_25 rfl (lv_at hl 1 rfl) ?_
      refine lv_bipush (v := 9) hx hb dX4_init_26 (by decide) ?_
      refine lv_icmp_ge (tgt := 50) hx hb dX4_init_28 (by decide) (fun q => absurd q (show ¬ (9 : Int32) ≤ nI k from nI_ge (b := 9) (by omega) (by decide))) (fun _ => ?_)
      refine lv_aload_n hx hb dX4_init_31 rfl (lv_at hl 0 rfl) ?_
      refine va_get (D := D) (ci := 5) (v := .ref (ad 2)) (C := RX4) (T := TX4) (N := 3) hx hb hts hin4 hown hK hP 0 rfl rfl 0 (by decide) (hts (.fieldLink RX4 13 "HatReservations$History" "halls" "[LHatReservations$Hall;") (by decide +kernel)) (fun _ h9 => h9) rfl dX4_init_32 ?_
      refine lv_iload_n hx hb dX4_init_35 rfl (lv_at hl 1 rfl) ?_
      refine va_new (ci := 4) (fs := [.null, .null, .null, .null, .null, .null, .null, .null, .int 0, .int 0, .int 0, .int 0, .int 0, .int 0, .int 0]) (C := RX3) (T := TX3) (N := 15) hx hb hts hin3 tyX3 tyX3_ok hown (hts (.classLink RX4 11 RX3) (by decide +kernel)) (hts (.instantiable RX3 15) (by decide +kernel)) (hts (.initialized RX3) (by decide +kernel)) hK hP hD hS hA rfl (fun j hj => by rcases (show j = 0 ∨ j = 1 ∨ j = 2 ∨ j = 3 ∨ j = 4 ∨ j = 5 ∨ j = 6 ∨ j = 7 ∨ j = 8 ∨ j = 9 ∨ j = 10 ∨ j = 11 ∨ j = 12 ∨ j = 13 ∨ j = 14 by omega) with rfl | rfl | rfl | rfl | rfl | rfl | rfl | rfl | rfl | rfl | rfl | rfl | rfl | rfl | rfl <;> rfl) (show 1 + 9 * k + 1 ≤ 82 by omega) (show 9 + 79 * k + 15 ≤ 720 by omega) dX4_init_36 (fun q H hP hD hS => ?_)
      refine lv_dup hx hb dX4_init_39 rfl ?_
      refine hcIv (As := []) (rest := [.ref q, .int (nI k), .ref (ad 2)]) (wr := HIW0 ca ai ad k) ⟨hx, hb, hml, hown, hts⟩ (kX3_init l D ca q H.size) (cwI 0 hts gX4_init_X3_init rfl rfl rfl (hts (.initialized RX3) (by decide +kernel)) (hts (.methodLink RX4 24 yX3_init) (by decide +kernel)) (hts (.instanceMethod yX3_init) (by decide +kernel)) rfl (by decide +kernel) ⟨(Nat.le_of_ble_eq_true rfl), (Nat.le_of_ble_eq_true rfl)⟩) hK hP hD hS hA (List.Perm.refl _) rfl hl.1 rfl (Nat.le_of_ble_eq_true rfl) ⟨show 1 + 9 * k + 1 + 8 ≤ 82 by omega, show 9 + 79 * k + 15 + 64 ≤ 720 by omega⟩ dX4_init_40 (fun a H locs ha hP1 hD1 hS => ?_)
      subst ha
      have hP : va_P D vwCl ((ad 1, .inr (5, [.ref (ad 2), .int 0, .int 0])) :: (ad 2, .inl (ca 3, 9, .inr (.inr (.inr (.inr (hpre ai k)))))) :: (HL0 ca ai k ++ HW ca a Hnew)) H := hP1
      have hD : va_D A ((ad 1, .inr (5, [.ref (ad 2), .int 0, .int 0])) :: (ad 2, .inl (ca 3, 9, .inr (.inr (.inr (.inr (hpre ai k)))))) :: (HL0 ca ai k ++ HW ca a Hnew)) := hD1
      have hP := P_perm mid3 hP
      have hD := D_perm mid3 hD
      refine va_astq (a := ad 2) hx hb hK hP hD hS 1 3 2 4 (r := (RX3, TX3, 15)) rfl rfl rfl rfl (vp_in_nI (show k < 9 by omega) (by decide)) dX4_init_43 ?_
      rw [nI_clamp (by omega), hpre_up]
      intro H locs hP hD hS
      have hP : va_P D vwCl ((ad 1, .inr (5, [.ref (ad 2), .int 0, .int 0])) :: (ad 2, .inl (ca 3, 9, .inr (.inr (.inr (.inr (hpre (va_up ai k a) (k + 1))))))) :: (HW ca a Hnew ++ HL0 ca ai k)) H := hP
      have hD : va_D A ((ad 1, .inr (5, [.ref (ad 2), .int 0, .int 0])) :: (ad 2, .inl (ca 3, 9, .inr (.inr (.inr (.inr (hpre (va_up ai k a) (k + 1))))))) :: (HW ca a Hnew ++ HL0 ca ai k)) := hD
      have hP := P_perm mid3 hP
      have hD := D_perm mid3 hD
      rw [← HL0_up] at hP hD
      have hP : va_P D vwCl (HIW0 ca (va_up ai k a) ad (k + 1)) H := hP
      have hD : va_D A (HIW0 ca (va_up ai k a) ad (k + 1)) := hD
      refine lv_iinc (v := nI (k + 1)) (lv' := [(1, .int (nI (k + 1))), (0, .ref (ad 1))]) hx hb dX4_init_44 hl (k := 1) rfl (nI_1 k) (by decide) rfl (fun ls hl => ?_)
      refine lv_goto (tgt := 25) hx hb dX4_init_47 (by decide) ?_
      refine W.widen (k := 1 + 9 * (k + 1)) (n := 9 + 79 * (k + 1)) (by omega) (by omega) ?_
      exact ih (k + 1) (by omega) (va_up ai k a) ad had _ _ hP hD hS ls (lv_sub hl [1, 0] rfl)
  refine W_entry (Nat.le_of_ble_eq_true rfl) (fun ls hl => ?_)
  have hl : lv_has ls 2 [(0, .ref h)] := hl
  refine lv_aload_n hx hb dX4_init_0 rfl (lv_at hl 0 rfl) ?_
  refine W.objInit hx hb hown (hts (.methodLink RX4 3 objectInit) (by decide +kernel)) (hts (.instanceMethod objectInit) (by decide +kernel)) (hts (.code objectInit ⟨#[0xb1]⟩ 1 none) (by decide +kernel)) rfl (by rw [hml]; exact hl.1) rfl dX4_init_1 (Nat.le_of_ble_eq_true rfl) (Nat.le_of_ble_eq_true rfl) ?_
  refine W.eq (g2 := F0 m 4 ls []) rfl ?_
  refine lv_aload_n hx hb dX4_init_4 rfl (lv_at hl 0 rfl) ?_
  refine lv_bipush (v := 9) hx hb dX4_init_5 (by decide) ?_
  refine newq 3 9 hx hb hown (hts (.classLink RX4 11 RX3) (by decide +kernel)) hX.2.1.2 (fun _ => rfl) (by decide) hK hP hD hS hA (by decide) (by decide) (Nat.le_of_ble_eq_true rfl) (Nat.le_of_ble_eq_true rfl) (Nat.le_of_ble_eq_true rfl) dX4_init_7 (fun q H hP hD hS => ?_)
  have hP : va_P D vwCl [(h, .inr (5, [.null, .int 0, .int 0])), (q, .inl (ca 3, 9, .inr (.inr (.inr (.inr (fun _ => none))))))] H := hP
  have hD : va_D A [(h, .inr (5, [.null, .int 0, .int 0])), (q, .inl (ca 3, 9, .inr (.inr (.inr (.inr (fun _ => none))))))] := hD
  refine va_putF (D := D) (ci := 5) (v := .ref q) (ty := .array (.object "HatReservations$Hall")) (C := RX4) (T := TX4) (N := 3) hx hb hts hin4 tyX4 tyX4_ok nmX4 hown hK hP hD hS 0 rfl rfl 0 (by decide) (hts (.fieldLink RX4 13 "HatReservations$History" "halls" "[LHatReservations$Hall;") (by decide +kernel)) (fun _ h9 => h9) rfl hin rfl (by decide +kernel) rfl rfl (Nat.le_of_ble_eq_true rfl) dX4_init_10 (fun H locs hP hD hS => ?_)
  have hP : va_P D vwCl [(h, .inr (5, [.ref q, .int 0, .int 0])), (q, .inl (ca 3, 9, .inr (.inr (.inr (.inr (fun _ => none))))))] H := hP
  have hD : va_D A [(h, .inr (5, [.ref q, .int 0, .int 0])), (q, .inl (ca 3, 9, .inr (.inr (.inr (.inr (fun _ => none))))))] := hD
  refine lv_aload_n hx hb dX4_init_13 rfl (lv_at hl 0 rfl) ?_
  refine lv_iconst (v := 0) hx hb dX4_init_14 (by decide) ?_
  refine va_put (D := D) (ci := 5) (v := .int 0) (ty := .int) (C := RX4) (T := TX4) (N := 3) hx hb hts hin4 tyX4 tyX4_ok nmX4 hown hK hP hD hS 0 rfl rfl 1 (by decide) (hts (.fieldLink RX4 17 "HatReservations$History" "spare" "I") (by decide +kernel)) (fun _ h9 => h9) rfl (by decide +kernel) rfl rfl (Nat.le_of_ble_eq_true rfl) dX4_init_15 (fun H locs hP hD hS => ?_)
  have hP : va_P D vwCl [(h, .inr (5, [.ref q, .int 0, .int 0])), (q, .inl (ca 3, 9, .inr (.inr (.inr (.inr (fun _ => none))))))] H := hP
  have hD : va_D A [(h, .inr (5, [.ref q, .int 0, .int 0])), (q, .inl (ca 3, 9, .inr (.inr (.inr (.inr (fun _ => none))))))] := hD
  refine lv_aload_n hx hb dX4_init_18 rfl (lv_at hl 0 rfl) ?_
  refine lv_iconst (v := 0) hx hb dX4_init_19 (by decide) ?_
  refine va_put (D := D) (ci := 5) (v := .int 0) (ty := .int) (C := RX4) (T := TX4) (N := 3) hx hb hts hin4 tyX4 tyX4_ok nmX4 hown hK hP hD hS 0 rfl rfl 2 (by decide) (hts (.fieldLink RX4 21 "HatReservations$History" "count" "I") (by decide +kernel)) (fun _ h9 => h9) rfl (by decide +kernel) rfl rfl (Nat.le_of_ble_eq_true rfl) dX4_init_20 (fun H locs hP hD hS => ?_)
  have hP : va_P D vwCl [(h, .inr (5, [.ref q, .int 0, .int 0])), (q, .inl (ca 3, 9, .inr (.inr (.inr (.inr (fun _ => none))))))] H := hP
  have hD : va_D A [(h, .inr (5, [.ref q, .int 0, .int 0])), (q, .inl (ca 3, 9, .inr (.inr (.inr (.inr (fun _ => none))))))] := hD
  refine lv_iconst (v := 0) hx hb dX4_init_23 (by decide) ?_
  refine lv_istore_n (lv' := [(1, .int 0), (0, .ref h)]) hx hb dX4_init_24 rfl hl (by decide) rfl (fun ls hl => ?_)
  have e0 : hpre (fun _ _ => 0) 0 = fun _ => none := by funext j; unfold hpre; rw [if_neg (Nat.not_lt_zero j)]
  have e1 : HIW0 ca (fun _ _ => 0) (fun k => match k with | 1 => h | _ => q) 0 = [(h, .inr (5, [.ref q, .int 0, .int 0])), (q, .inl (ca 3, 9, .inr (.inr (.inr (.inr (fun _ => none))))))] := by unfold HIW0; rw [e0]; rfl
  exact cut 9 0 (by omega) (fun _ _ => 0) (fun k => match k with | 1 => h | _ => q) rfl _ _ (by rw [e1]; exact hP) (by rw [e1]; exact hD) hS ls (lv_sub hl [1, 0] rfl)
/-- a new object -/
def Onew : OS := (Hnew, Hnew, (fun _ => Hnew), 0, 0, Cnew, (fun _ => 0), 0, 0, -1, -1, -1)
theorem HLS_congr {ca : Nat → ClassId} {ai bi : Nat → Nat → Nat} {hs : Nat → HS} (h : ∀ i, i < 9 → ai i = bi i) : HLS ca ai hs = HLS ca bi hs := by
  unfold HLS
  rw [List.flatMap_def, List.flatMap_def]
  congr 1
  refine List.map_congr_left (fun j hj => ?_)
  rw [h j (List.mem_range.mp hj)]
theorem HIW_ai' {ca : Nat → ClassId} {ai bi : Nat → Nat → Nat} {ad : Nat → Nat} {hs : Nat → HS} {a b : Nat} (h : ∀ i, i < 9 → ai i = bi i) : HIW ca bi ad hs a b = (ad 1, .inr (5, [.ref (ad 2), .int (nI a), .int (nI b)])) :: (ad 2, .inl (ca 3, 9, .inr (.inr (.inr (.inr (fun i => some (bi i 8))))))) :: HLS ca ai hs := by
  unfold HIW
  rw [HLS_congr h]
theorem HIW_aiP {D : va_G} {ca : Nat → ClassId} {ai bi : Nat → Nat → Nat} {ad : Nat → Nat} {hs : Nat → HS} {a b : Nat} {H : Heap} {w : va_W} (h : ∀ i, i < 9 → ai i = bi i) (hP : va_P D vwCl (w ++ HIW ca ai ad hs a b) H) : va_P D vwCl (w ++ HIW ca bi ad hs a b) H := by
  refine va_P.app (P_left hP) ?_
  rw [HIW_ai' h]
  have g : va_P D vwCl (HIW ca ai ad hs a b) H := P_right hP
  have e : vp_cell (ca 3) (9, .inr (.inr (.inr (.inr (fun i => some (ai i 8)))))) = vp_cell (ca 3) (9, .inr (.inr (.inr (.inr (fun i => some (bi i 8)))))) := by
    show arrV (ca 3) 9 (fun j => va_rf (some (ai j 8))) = arrV (ca 3) 9 (fun i => va_rf (some (bi i 8)))
    refine arrV_congr (fun j hj => ?_)
    rw [h j hj]
  intro k q hk
  match k, hk with
  | 0, hk => exact g 0 q hk
  | 1, hk =>
    cases hk
    exact (show H[ad 2]? = some (vp_cell (ca 3) (9, .inr (.inr (.inr (.inr (fun i => some (ai i 8))))))) from g 1 _ rfl).trans (congrArg some e)
  | k + 2, hk => exact g (k + 2) q hk
theorem HIW_aiD {A : Nat → Prop} {ca : Nat → ClassId} {ai bi : Nat → Nat → Nat} {ad : Nat → Nat} {hs : Nat → HS} {a b : Nat} {w : va_W} (h : ∀ i, i < 9 → ai i = bi i) (hD : va_D A (w ++ HIW ca ai ad hs a b)) : va_D A (w ++ HIW ca bi ad hs a b) :=
  D_addr (w1 := w ++ HIW ca ai ad hs a b) (w2 := w ++ HIW ca bi ad hs a b) (by rw [HIW_ai' h, List.map_append, List.map_append]; rfl) hD
theorem ai9 {a9 a10 : Nat → Nat} {aH : Nat → Nat → Nat} : ∀ i, i < 9 → aH i = (match (motive := Nat → Nat → Nat) i with | 9 => a9 | 10 => a10 | k => aH k) := by
  intro i hi
  rcases (show i = 0 ∨ i = 1 ∨ i = 2 ∨ i = 3 ∨ i = 4 ∨ i = 5 ∨ i = 6 ∨ i = 7 ∨ i = 8 by omega) with rfl | rfl | rfl | rfl | rfl | rfl | rfl | rfl | rfl <;> rfl
theorem end5 {x : Nat × va_E} {y : Nat × va_E} {a b c e : va_W} : (x :: ((((a ++ b) ++ c) ++ e) ++ [y])).Perm (x :: y :: (a ++ (b ++ (c ++ e)))) := by
  refine List.Perm.cons _ (List.perm_append_comm.trans ?_)
  show (y :: (((a ++ b) ++ c) ++ e)).Perm (y :: (a ++ (b ++ (c ++ e))))
  rw [List.append_assoc, List.append_assoc]

set_option maxHeartbeats 4000000 in
set_option maxRecDepth 100000 in
theorem kX5_init (l : Launch) (D : va_G) (ca : Nat → ClassId) (en ks vs : Nat → Nat) (h : Nat) (sz : Nat) : Met l yX5_init wsX5_init ({ frames := 3, cells := 107, slots := 988, locals := 54 }) (MGPc D ca (HX en ks vs) sz ((h, .inr (6, [.null, .null, .null, .null, .null, .int 0, .int 0, .int 0, .int 0, .int 0])) :: []) [.ref h]) (va_Qv (fun z : (Nat → Nat → Nat) × (Nat → Nat) × (Nat → Nat) => z.2.1 0 = h) (MB D ca (va_A ((h, .inr (6, [.null, .null, .null, .null, .null, .int 0, .int 0, .int 0, .int 0, .int 0])) :: []) sz) (fun z => OW ca en z.1 z.2.1 z.2.2 Onew)) (va_A ((h, .inr (6, [.null, .null, .null, .null, .null, .int 0, .int 0, .int 0, .int 0, .int 0])) :: []) sz)) 107 988 (va_A ((h, .inr (6, [.null, .null, .null, .null, .null, .int 0, .int 0, .int 0, .int 0, .int 0])) :: []) sz) := by
  refine Met.ofW (cc := cX5_init) (maxL := 1) (ret := none) (by decide) rfl ?_
  intro p e s m args below meth c s₁ B hml hv
  obtain ⟨rfl, hsz, hP, hK, hD0, hX⟩ := hv
  have hx := B.exec
  have hb := B.bytes
  have hr := B.returns
  have hts := atoms_spec (ws := wsX5_init) B.pre
  have hown : s.vm.findClass RX5 = some m.cls := findClass_of_methodNamed B.named
  have hlocks := B.notSynchronized
  have hin5 : ∀ w ∈ wsX50, w ∈ wsX5_init := by decide +kernel
  have hin4 : ∀ w ∈ wsX40, w ∈ wsX5_init := by decide +kernel
  have hin3 : ∀ w ∈ wsX30, w ∈ wsX5_init := by decide +kernel
  have hin2 : ∀ w ∈ wsX20, w ∈ wsX5_init := by decide +kernel
  subst hsz
  have hD := hD0.self (sz := s.heap.size)
  generalize hAe : va_A ((h, .inr (6, [.null, .null, .null, .null, .null, .int 0, .int 0, .int 0, .int 0, .int 0])) :: []) s.heap.size = A at hD hX ⊢
  have hA : ∀ q : Nat, s.heap.size ≤ q → A q := fun q h => by rw [← hAe]; exact Or.inr h
  have hS : va_S A s.heap s.heap [] := va_S.rf
  have hin : meth.name = "<init>" := (name_of_methodNamed B.named B.method).1
  refine W_entry (Nat.le_of_ble_eq_true rfl) (fun ls hl => ?_)
  have hl : lv_has ls 1 [(0, .ref h)] := hl
  refine lv_aload_n hx hb dX5_init_0 rfl (lv_at hl 0 rfl) ?_
  refine W.objInit hx hb hown (hts (.methodLink RX5 1 objectInit) (by decide +kernel)) (hts (.instanceMethod objectInit) (by decide +kernel)) (hts (.code objectInit ⟨#[0xb1]⟩ 1 none) (by decide +kernel)) rfl (by rw [hml]; exact hl.1) rfl dX5_init_1 (Nat.le_of_ble_eq_true rfl) (Nat.le_of_ble_eq_true rfl) ?_
  refine W.eq (g2 := F0 m 4 ls []) rfl ?_
  refine lv_aload_n hx hb dX5_init_4 rfl (lv_at hl 0 rfl) ?_
  refine va_new (ci := 4) (fs := [.null, .null, .null, .null, .null, .null, .null, .null, .int 0, .int 0, .int 0, .int 0, .int 0, .int 0, .int 0]) (C := RX3) (T := TX3) (N := 15) hx hb hts hin3 tyX3 tyX3_ok hown (hts (.classLink RX5 7 RX3) (by decide +kernel)) (hts (.instantiable RX3 15) (by decide +kernel)) (hts (.initialized RX3) (by decide +kernel)) hK hP hD hS hA rfl (fun j hj => by rcases (show j = 0 ∨ j = 1 ∨ j = 2 ∨ j = 3 ∨ j = 4 ∨ j = 5 ∨ j = 6 ∨ j = 7 ∨ j = 8 ∨ j = 9 ∨ j = 10 ∨ j = 11 ∨ j = 12 ∨ j = 13 ∨ j = 14 by omega) with rfl | rfl | rfl | rfl | rfl | rfl | rfl | rfl | rfl | rfl | rfl | rfl | rfl | rfl | rfl <;> rfl) (Nat.le_of_ble_eq_true rfl) (Nat.le_of_ble_eq_true rfl) dX5_init_5 (fun n0 H hP hD hS => ?_)
  refine W.widen (k := 1) (n := 15) (Nat.le_of_ble_eq_true rfl) (Nat.le_of_ble_eq_true rfl) ?_
  refine lv_dup hx hb dX5_init_8 rfl ?_
  refine hcIv (As := []) (rest := [.ref n0, .ref h]) (wr := ((h, .inr (6, [.null, .null, .null, .null, .null, .int 0, .int 0, .int 0, .int 0, .int 0])) :: [])) ⟨hx, hb, hml, hown, hts⟩ (kX3_init l D ca n0 H.size) (cwI 0 hts gX5_init_X3_init rfl rfl rfl (hts (.initialized RX3) (by decide +kernel)) (hts (.methodLink RX5 9 yX3_init) (by decide +kernel)) (hts (.instanceMethod yX3_init) (by decide +kernel)) rfl (by decide +kernel) ⟨(Nat.le_of_ble_eq_true rfl), (Nat.le_of_ble_eq_true rfl)⟩) hK hP hD hS hA (List.Perm.refl _) rfl hl.1 rfl (Nat.le_of_ble_eq_true rfl) ⟨(Nat.le_of_ble_eq_true rfl), (Nat.le_of_ble_eq_true rfl)⟩ dX5_init_9 (fun a9 H locs e9 hP1 hD1 hS => ?_)
  refine W.widen (k := 9) (n := 79) (Nat.le_of_ble_eq_true rfl) (Nat.le_of_ble_eq_true rfl) ?_
  subst e9
  have hP := hP1
  have hD := hD1
  have hP : va_P D vwCl ((h, .inr (6, [.null, .null, .null, .null, .null, .int 0, .int 0, .int 0, .int 0, .int 0])) :: HW ca a9 Hnew) H := hP
  have hD : va_D A ((h, .inr (6, [.null, .null, .null, .null, .null, .int 0, .int 0, .int 0, .int 0, .int 0])) :: HW ca a9 Hnew) := hD
  refine va_putF (D := D) (ci := 6) (v := .ref (a9 8)) (ty := .object "HatReservations$Hall") (C := RX5) (T := TX5) (N := 10) hx hb hts hin5 tyX5 tyX5_ok nmX5 hown hK hP hD hS 0 rfl rfl 0 (by decide) (hts (.fieldLink RX5 10 "HatReservations" "hall" "LHatReservations$Hall;") (by decide +kernel)) (fun _ h9 => h9) rfl hin rfl (by decide +kernel) rfl rfl (Nat.le_of_ble_eq_true rfl) dX5_init_12 (fun H locs hP hD hS => ?_)
  have hP : va_P D vwCl ((h, .inr (6, [.ref (a9 8), .null, .null, .null, .null, .int 0, .int 0, .int 0, .int 0, .int 0])) :: HW ca a9 Hnew) H := hP
  have hD : va_D A ((h, .inr (6, [.ref (a9 8), .null, .null, .null, .null, .int 0, .int 0, .int 0, .int 0, .int 0])) :: HW ca a9 Hnew) := hD
  refine lv_aload_n hx hb dX5_init_15 rfl (lv_at hl 0 rfl) ?_
  refine va_new (ci := 4) (fs := [.null, .null, .null, .null, .null, .null, .null, .null, .int 0, .int 0, .int 0, .int 0, .int 0, .int 0, .int 0]) (C := RX3) (T := TX3) (N := 15) hx hb hts hin3 tyX3 tyX3_ok hown (hts (.classLink RX5 7 RX3) (by decide +kernel)) (hts (.instantiable RX3 15) (by decide +kernel)) (hts (.initialized RX3) (by decide +kernel)) hK hP hD hS hA rfl (fun j hj => by rcases (show j = 0 ∨ j = 1 ∨ j = 2 ∨ j = 3 ∨ j = 4 ∨ j = 5 ∨ j = 6 ∨ j = 7 ∨ j = 8 ∨ j = 9 ∨ j = 10 ∨ j = 11 ∨ j = 12 ∨ j = 13 ∨ j = 14 by omega) with rfl | rfl | rfl | rfl | rfl | rfl | rfl | rfl | rfl | rfl | rfl | rfl | rfl | rfl | rfl <;> rfl) (Nat.le_of_ble_eq_true rfl) (Nat.le_of_ble_eq_true rfl) dX5_init_16 (fun n1 H hP hD hS => ?_)
  refine W.widen (k := 10) (n := 94) (Nat.le_of_ble_eq_true rfl) (Nat.le_of_ble_eq_true rfl) ?_
  refine lv_dup hx hb dX5_init_19 rfl ?_
  refine hcIv (As := []) (rest := [.ref n1, .ref h]) (wr := ((h, .inr (6, [.ref (a9 8), .null, .null, .null, .null, .int 0, .int 0, .int 0, .int 0, .int 0])) :: HW ca a9 Hnew)) ⟨hx, hb, hml, hown, hts⟩ (kX3_init l D ca n1 H.size) (cwI 0 hts gX5_init_X3_init rfl rfl rfl (hts (.initialized RX3) (by decide +kernel)) (hts (.methodLink RX5 9 yX3_init) (by decide +kernel)) (hts (.instanceMethod yX3_init) (by decide +kernel)) rfl (by decide +kernel) ⟨(Nat.le_of_ble_eq_true rfl), (Nat.le_of_ble_eq_true rfl)⟩) hK hP hD hS hA (List.Perm.refl _) rfl hl.1 rfl (Nat.le_of_ble_eq_true rfl) ⟨(Nat.le_of_ble_eq_true rfl), (Nat.le_of_ble_eq_true rfl)⟩ dX5_init_20 (fun a10 H locs e9 hP1 hD1 hS => ?_)
  refine W.widen (k := 18) (n := 158) (Nat.le_of_ble_eq_true rfl) (Nat.le_of_ble_eq_true rfl) ?_
  subst e9
  have hP := hP1
  have hD := hD1
  have hP : va_P D vwCl ((h, .inr (6, [.ref (a9 8), .null, .null, .null, .null, .int 0, .int 0, .int 0, .int 0, .int 0])) :: (HW ca a9 Hnew ++ HW ca a10 Hnew)) H := hP
  have hD : va_D A ((h, .inr (6, [.ref (a9 8), .null, .null, .null, .null, .int 0, .int 0, .int 0, .int 0, .int 0])) :: (HW ca a9 Hnew ++ HW ca a10 Hnew)) := hD
  refine va_putF (D := D) (ci := 6) (v := .ref (a10 8)) (ty := .object "HatReservations$Hall") (C := RX5) (T := TX5) (N := 10) hx hb hts hin5 tyX5 tyX5_ok nmX5 hown hK hP hD hS 0 rfl rfl 1 (by decide) (hts (.fieldLink RX5 16 "HatReservations" "snapshot" "LHatReservations$Hall;") (by decide +kernel)) (fun _ h9 => h9) rfl hin rfl (by decide +kernel) rfl rfl (Nat.le_of_ble_eq_true rfl) dX5_init_23 (fun H locs hP hD hS => ?_)
  have hP : va_P D vwCl ((h, .inr (6, [.ref (a9 8), .ref (a10 8), .null, .null, .null, .int 0, .int 0, .int 0, .int 0, .int 0])) :: (HW ca a9 Hnew ++ HW ca a10 Hnew)) H := hP
  have hD : va_D A ((h, .inr (6, [.ref (a9 8), .ref (a10 8), .null, .null, .null, .int 0, .int 0, .int 0, .int 0, .int 0])) :: (HW ca a9 Hnew ++ HW ca a10 Hnew)) := hD
  refine lv_aload_n hx hb dX5_init_26 rfl (lv_at hl 0 rfl) ?_
  refine va_new (ci := 5) (fs := [.null, .int 0, .int 0]) (C := RX4) (T := TX4) (N := 3) hx hb hts hin4 tyX4 tyX4_ok hown (hts (.classLink RX5 19 RX4) (by decide +kernel)) (hts (.instantiable RX4 3) (by decide +kernel)) (hts (.initialized RX4) (by decide +kernel)) hK hP hD hS hA rfl (fun j hj => by rcases (show j = 0 ∨ j = 1 ∨ j = 2 by omega) with rfl | rfl | rfl <;> rfl) (Nat.le_of_ble_eq_true rfl) (Nat.le_of_ble_eq_true rfl) dX5_init_27 (fun n2 H hP hD hS => ?_)
  refine W.widen (k := 19) (n := 161) (Nat.le_of_ble_eq_true rfl) (Nat.le_of_ble_eq_true rfl) ?_
  refine lv_dup hx hb dX5_init_30 rfl ?_
  refine hcIGv (As := []) (rest := [.ref n2, .ref h]) (wr := ((h, .inr (6, [.ref (a9 8), .ref (a10 8), .null, .null, .null, .int 0, .int 0, .int 0, .int 0, .int 0])) :: (HW ca a9 Hnew ++ HW ca a10 Hnew))) (HX_ok en ks vs) ⟨hx, hb, hml, hown, hts⟩ (kX4_init l D ca en ks vs n2 H.size) (cwI 0 hts gX5_init_X4_init rfl rfl rfl (hts (.initialized RX4) (by decide +kernel)) (hts (.methodLink RX5 21 yX4_init) (by decide +kernel)) (hts (.instanceMethod yX4_init) (by decide +kernel)) rfl (by decide +kernel) ⟨(Nat.le_of_ble_eq_true rfl), (Nat.le_of_ble_eq_true rfl)⟩) hK hP hD hS hA hX (List.Perm.refl _) rfl hl.1 rfl (Nat.le_of_ble_eq_true rfl) ⟨(Nat.le_of_ble_eq_true rfl), (Nat.le_of_ble_eq_true rfl)⟩ dX5_init_31 (fun zz H locs e9 hP1 hD1 hS => ?_)
  refine W.widen (k := 101) (n := 881) (Nat.le_of_ble_eq_true rfl) (Nat.le_of_ble_eq_true rfl) ?_
  obtain ⟨aH, dH⟩ := zz
  have e9 : dH 1 = n2 := e9
  subst e9
  have hP := HIW_aiP (ai9 (a9 := a9) (a10 := a10) (aH := aH)) hP1
  have hD := HIW_aiD (ai9 (a9 := a9) (a10 := a10) (aH := aH)) hD1
  have hP : va_P D vwCl ((h, .inr (6, [.ref (a9 8), .ref (a10 8), .null, .null, .null, .int 0, .int 0, .int 0, .int 0, .int 0])) :: ((HW ca a9 Hnew ++ HW ca a10 Hnew) ++ HIW ca (fun k => match (motive := Nat → Nat → Nat) k with | 9 => a9 | 10 => a10 | k => aH k) dH (fun _ => Hnew) 0 0)) H := hP
  have hD : va_D A ((h, .inr (6, [.ref (a9 8), .ref (a10 8), .null, .null, .null, .int 0, .int 0, .int 0, .int 0, .int 0])) :: ((HW ca a9 Hnew ++ HW ca a10 Hnew) ++ HIW ca (fun k => match (motive := Nat → Nat → Nat) k with | 9 => a9 | 10 => a10 | k => aH k) dH (fun _ => Hnew) 0 0)) := hD
  refine va_putF (D := D) (ci := 6) (v := .ref (dH 1)) (ty := .object "HatReservations$History") (C := RX5) (T := TX5) (N := 10) hx hb hts hin5 tyX5 tyX5_ok nmX5 hown hK hP hD hS 0 rfl rfl 2 (by decide) (hts (.fieldLink RX5 22 "HatReservations" "history" "LHatReservations$History;") (by decide +kernel)) (fun _ h9 => h9) rfl hin rfl (by decide +kernel) rfl rfl (Nat.le_of_ble_eq_true rfl) dX5_init_34 (fun H locs hP hD hS => ?_)
  have hP : va_P D vwCl ((h, .inr (6, [.ref (a9 8), .ref (a10 8), .ref (dH 1), .null, .null, .int 0, .int 0, .int 0, .int 0, .int 0])) :: ((HW ca a9 Hnew ++ HW ca a10 Hnew) ++ HIW ca (fun k => match (motive := Nat → Nat → Nat) k with | 9 => a9 | 10 => a10 | k => aH k) dH (fun _ => Hnew) 0 0)) H := hP
  have hD : va_D A ((h, .inr (6, [.ref (a9 8), .ref (a10 8), .ref (dH 1), .null, .null, .int 0, .int 0, .int 0, .int 0, .int 0])) :: ((HW ca a9 Hnew ++ HW ca a10 Hnew) ++ HIW ca (fun k => match (motive := Nat → Nat → Nat) k with | 9 => a9 | 10 => a10 | k => aH k) dH (fun _ => Hnew) 0 0)) := hD
  refine lv_aload_n hx hb dX5_init_37 rfl (lv_at hl 0 rfl) ?_
  refine va_new (ci := 3) (fs := [.null, .int 0, .null, .null, .null, .int 0, .int 0]) (C := RX2) (T := TX2) (N := 7) hx hb hts hin2 tyX2 tyX2_ok hown (hts (.classLink RX5 26 RX2) (by decide +kernel)) (hts (.instantiable RX2 7) (by decide +kernel)) (hts (.initialized RX2) (by decide +kernel)) hK hP hD hS hA rfl (fun j hj => by rcases (show j = 0 ∨ j = 1 ∨ j = 2 ∨ j = 3 ∨ j = 4 ∨ j = 5 ∨ j = 6 by omega) with rfl | rfl | rfl | rfl | rfl | rfl | rfl <;> rfl) (Nat.le_of_ble_eq_true rfl) (Nat.le_of_ble_eq_true rfl) dX5_init_38 (fun n3 H hP hD hS => ?_)
  refine W.widen (k := 102) (n := 888) (Nat.le_of_ble_eq_true rfl) (Nat.le_of_ble_eq_true rfl) ?_
  refine lv_dup hx hb dX5_init_41 rfl ?_
  refine hcIGv (As := []) (rest := [.ref n3, .ref h]) (wr := ((h, .inr (6, [.ref (a9 8), .ref (a10 8), .ref (dH 1), .null, .null, .int 0, .int 0, .int 0, .int 0, .int 0])) :: ((HW ca a9 Hnew ++ HW ca a10 Hnew) ++ HIW ca (fun k => match (motive := Nat → Nat → Nat) k with | 9 => a9 | 10 => a10 | k => aH k) dH (fun _ => Hnew) 0 0))) (HX_ok en ks vs) ⟨hx, hb, hml, hown, hts⟩ (kX2_init l D ca en ks vs n3 H.size) (cwI 0 hts gX5_init_X2_init rfl rfl rfl (hts (.initialized RX2) (by decide +kernel)) (hts (.methodLink RX5 28 yX2_init) (by decide +kernel)) (hts (.instanceMethod yX2_init) (by decide +kernel)) rfl (by decide +kernel) ⟨(Nat.le_of_ble_eq_true rfl), (Nat.le_of_ble_eq_true rfl)⟩) hK hP hD hS hA hX (List.Perm.refl _) rfl hl.1 rfl (Nat.le_of_ble_eq_true rfl) ⟨(Nat.le_of_ble_eq_true rfl), (Nat.le_of_ble_eq_true rfl)⟩ dX5_init_42 (fun bd H locs e9 hP1 hD1 hS => ?_)
  refine W.widen (k := 106) (n := 978) (Nat.le_of_ble_eq_true rfl) (Nat.le_of_ble_eq_true rfl) ?_
  subst e9
  have hP := hP1
  have hD := hD1
  have hP : va_P D vwCl ((h, .inr (6, [.ref (a9 8), .ref (a10 8), .ref (dH 1), .null, .null, .int 0, .int 0, .int 0, .int 0, .int 0])) :: (((HW ca a9 Hnew ++ HW ca a10 Hnew) ++ HIW ca (fun k => match (motive := Nat → Nat → Nat) k with | 9 => a9 | 10 => a10 | k => aH k) dH (fun _ => Hnew) 0 0) ++ CW ca en bd Cnew)) H := hP
  have hD : va_D A ((h, .inr (6, [.ref (a9 8), .ref (a10 8), .ref (dH 1), .null, .null, .int 0, .int 0, .int 0, .int 0, .int 0])) :: (((HW ca a9 Hnew ++ HW ca a10 Hnew) ++ HIW ca (fun k => match (motive := Nat → Nat → Nat) k with | 9 => a9 | 10 => a10 | k => aH k) dH (fun _ => Hnew) 0 0) ++ CW ca en bd Cnew)) := hD
  refine va_putF (D := D) (ci := 6) (v := .ref (bd 4)) (ty := .object "HatReservations$CommandText") (C := RX5) (T := TX5) (N := 10) hx hb hts hin5 tyX5 tyX5_ok nmX5 hown hK hP hD hS 0 rfl rfl 3 (by decide) (hts (.fieldLink RX5 29 "HatReservations" "commandText" "LHatReservations$CommandText;") (by decide +kernel)) (fun _ h9 => h9) rfl hin rfl (by decide +kernel) rfl rfl (Nat.le_of_ble_eq_true rfl) dX5_init_45 (fun H locs hP hD hS => ?_)
  have hP : va_P D vwCl ((h, .inr (6, [.ref (a9 8), .ref (a10 8), .ref (dH 1), .ref (bd 4), .null, .int 0, .int 0, .int 0, .int 0, .int 0])) :: (((HW ca a9 Hnew ++ HW ca a10 Hnew) ++ HIW ca (fun k => match (motive := Nat → Nat → Nat) k with | 9 => a9 | 10 => a10 | k => aH k) dH (fun _ => Hnew) 0 0) ++ CW ca en bd Cnew)) H := hP
  have hD : va_D A ((h, .inr (6, [.ref (a9 8), .ref (a10 8), .ref (dH 1), .ref (bd 4), .null, .int 0, .int 0, .int 0, .int 0, .int 0])) :: (((HW ca a9 Hnew ++ HW ca a10 Hnew) ++ HIW ca (fun k => match (motive := Nat → Nat → Nat) k with | 9 => a9 | 10 => a10 | k => aH k) dH (fun _ => Hnew) 0 0) ++ CW ca en bd Cnew)) := hD
  refine lv_aload_n hx hb dX5_init_48 rfl (lv_at hl 0 rfl) ?_
  refine lv_bipush (v := 10) hx hb dX5_init_49 (by decide) ?_
  refine newc 10 hx hb (hts (.arrayClass .char) (by decide +kernel)) hK hP hD hS hA (by decide) (by decide) (Nat.le_of_ble_eq_true rfl) (Nat.le_of_ble_eq_true rfl) (Nat.le_of_ble_eq_true rfl) dX5_init_51 (fun nl H hP hD hS => ?_)
  refine W.widen (k := 107) (n := 988) (Nat.le_of_ble_eq_true rfl) (Nat.le_of_ble_eq_true rfl) ?_
  have hP : va_P D vwCl ((h, .inr (6, [.ref (a9 8), .ref (a10 8), .ref (dH 1), .ref (bd 4), .null, .int 0, .int 0, .int 0, .int 0, .int 0])) :: ((((HW ca a9 Hnew ++ HW ca a10 Hnew) ++ HIW ca (fun k => match (motive := Nat → Nat → Nat) k with | 9 => a9 | 10 => a10 | k => aH k) dH (fun _ => Hnew) 0 0) ++ CW ca en bd Cnew) ++ [(nl, .inl (ca 2, 10, .inl (fun _ => 0)))])) H := hP
  have hD : va_D A ((h, .inr (6, [.ref (a9 8), .ref (a10 8), .ref (dH 1), .ref (bd 4), .null, .int 0, .int 0, .int 0, .int 0, .int 0])) :: ((((HW ca a9 Hnew ++ HW ca a10 Hnew) ++ HIW ca (fun k => match (motive := Nat → Nat → Nat) k with | 9 => a9 | 10 => a10 | k => aH k) dH (fun _ => Hnew) 0 0) ++ CW ca en bd Cnew) ++ [(nl, .inl (ca 2, 10, .inl (fun _ => 0)))])) := hD
  refine va_putF (D := D) (ci := 6) (v := .ref nl) (ty := .array .char) (C := RX5) (T := TX5) (N := 10) hx hb hts hin5 tyX5 tyX5_ok nmX5 hown hK hP hD hS 0 rfl rfl 4 (by decide) (hts (.fieldLink RX5 33 "HatReservations" "line" "[C") (by decide +kernel)) (fun _ h9 => h9) rfl hin rfl (by decide +kernel) rfl rfl (Nat.le_of_ble_eq_true rfl) dX5_init_53 (fun H locs hP hD hS => ?_)
  have hP : va_P D vwCl ((h, .inr (6, [.ref (a9 8), .ref (a10 8), .ref (dH 1), .ref (bd 4), .ref nl, .int 0, .int 0, .int 0, .int 0, .int 0])) :: ((((HW ca a9 Hnew ++ HW ca a10 Hnew) ++ HIW ca (fun k => match (motive := Nat → Nat → Nat) k with | 9 => a9 | 10 => a10 | k => aH k) dH (fun _ => Hnew) 0 0) ++ CW ca en bd Cnew) ++ [(nl, .inl (ca 2, 10, .inl (fun _ => 0)))])) H := hP
  have hD : va_D A ((h, .inr (6, [.ref (a9 8), .ref (a10 8), .ref (dH 1), .ref (bd 4), .ref nl, .int 0, .int 0, .int 0, .int 0, .int 0])) :: ((((HW ca a9 Hnew ++ HW ca a10 Hnew) ++ HIW ca (fun k => match (motive := Nat → Nat → Nat) k with | 9 => a9 | 10 => a10 | k => aH k) dH (fun _ => Hnew) 0 0) ++ CW ca en bd Cnew) ++ [(nl, .inl (ca 2, 10, .inl (fun _ => 0)))])) := hD
  refine lv_aload_n hx hb dX5_init_56 rfl (lv_at hl 0 rfl) ?_
  refine lv_iconst (v := 0) hx hb dX5_init_57 (by decide) ?_
  refine va_put (D := D) (ci := 6) (v := .int 0) (ty := .int) (C := RX5) (T := TX5) (N := 10) hx hb hts hin5 tyX5 tyX5_ok nmX5 hown hK hP hD hS 0 rfl rfl 5 (by decide) (hts (.fieldLink RX5 37 "HatReservations" "lineLength" "I") (by decide +kernel)) (fun _ h9 => h9) rfl (by decide +kernel) rfl rfl (Nat.le_of_ble_eq_true rfl) dX5_init_58 (fun H locs hP hD hS => ?_)
  have hP : va_P D vwCl ((h, .inr (6, [.ref (a9 8), .ref (a10 8), .ref (dH 1), .ref (bd 4), .ref nl, .int 0, .int 0, .int 0, .int 0, .int 0])) :: ((((HW ca a9 Hnew ++ HW ca a10 Hnew) ++ HIW ca (fun k => match (motive := Nat → Nat → Nat) k with | 9 => a9 | 10 => a10 | k => aH k) dH (fun _ => Hnew) 0 0) ++ CW ca en bd Cnew) ++ [(nl, .inl (ca 2, 10, .inl (fun _ => 0)))])) H := hP
  have hD : va_D A ((h, .inr (6, [.ref (a9 8), .ref (a10 8), .ref (dH 1), .ref (bd 4), .ref nl, .int 0, .int 0, .int 0, .int 0, .int 0])) :: ((((HW ca a9 Hnew ++ HW ca a10 Hnew) ++ HIW ca (fun k => match (motive := Nat → Nat → Nat) k with | 9 => a9 | 10 => a10 | k => aH k) dH (fun _ => Hnew) 0 0) ++ CW ca en bd Cnew) ++ [(nl, .inl (ca 2, 10, .inl (fun _ => 0)))])) := hD
  refine lv_aload_n hx hb dX5_init_61 rfl (lv_at hl 0 rfl) ?_
  refine lv_iconst (v := 0) hx hb dX5_init_62 (by decide) ?_
  refine va_put (D := D) (ci := 6) (v := .int 0) (ty := .boolean) (C := RX5) (T := TX5) (N := 10) hx hb hts hin5 tyX5 tyX5_ok nmX5 hown hK hP hD hS 0 rfl rfl 6 (by decide) (hts (.fieldLink RX5 41 "HatReservations" "hasSnapshot" "Z") (by decide +kernel)) (fun _ h9 => h9) rfl (by decide +kernel) rfl rfl (Nat.le_of_ble_eq_true rfl) dX5_init_63 (fun H locs hP hD hS => ?_)
  have hP : va_P D vwCl ((h, .inr (6, [.ref (a9 8), .ref (a10 8), .ref (dH 1), .ref (bd 4), .ref nl, .int 0, .int 0, .int 0, .int 0, .int 0])) :: ((((HW ca a9 Hnew ++ HW ca a10 Hnew) ++ HIW ca (fun k => match (motive := Nat → Nat → Nat) k with | 9 => a9 | 10 => a10 | k => aH k) dH (fun _ => Hnew) 0 0) ++ CW ca en bd Cnew) ++ [(nl, .inl (ca 2, 10, .inl (fun _ => 0)))])) H := hP
  have hD : va_D A ((h, .inr (6, [.ref (a9 8), .ref (a10 8), .ref (dH 1), .ref (bd 4), .ref nl, .int 0, .int 0, .int 0, .int 0, .int 0])) :: ((((HW ca a9 Hnew ++ HW ca a10 Hnew) ++ HIW ca (fun k => match (motive := Nat → Nat → Nat) k with | 9 => a9 | 10 => a10 | k => aH k) dH (fun _ => Hnew) 0 0) ++ CW ca en bd Cnew) ++ [(nl, .inl (ca 2, 10, .inl (fun _ => 0)))])) := hD
  refine lv_aload_n hx hb dX5_init_66 rfl (lv_at hl 0 rfl) ?_
  refine lv_iconst (v := (-1)) hx hb dX5_init_67 (by decide) ?_
  refine va_put (D := D) (ci := 6) (v := .int (-1)) (ty := .int) (C := RX5) (T := TX5) (N := 10) hx hb hts hin5 tyX5 tyX5_ok nmX5 hown hK hP hD hS 0 rfl rfl 7 (by decide) (hts (.fieldLink RX5 45 "HatReservations" "lastErrorPosition" "I") (by decide +kernel)) (fun _ h9 => h9) rfl (by decide +kernel) rfl rfl (Nat.le_of_ble_eq_true rfl) dX5_init_68 (fun H locs hP hD hS => ?_)
  have hP : va_P D vwCl ((h, .inr (6, [.ref (a9 8), .ref (a10 8), .ref (dH 1), .ref (bd 4), .ref nl, .int 0, .int 0, .int (-1), .int 0, .int 0])) :: ((((HW ca a9 Hnew ++ HW ca a10 Hnew) ++ HIW ca (fun k => match (motive := Nat → Nat → Nat) k with | 9 => a9 | 10 => a10 | k => aH k) dH (fun _ => Hnew) 0 0) ++ CW ca en bd Cnew) ++ [(nl, .inl (ca 2, 10, .inl (fun _ => 0)))])) H := hP
  have hD : va_D A ((h, .inr (6, [.ref (a9 8), .ref (a10 8), .ref (dH 1), .ref (bd 4), .ref nl, .int 0, .int 0, .int (-1), .int 0, .int 0])) :: ((((HW ca a9 Hnew ++ HW ca a10 Hnew) ++ HIW ca (fun k => match (motive := Nat → Nat → Nat) k with | 9 => a9 | 10 => a10 | k => aH k) dH (fun _ => Hnew) 0 0) ++ CW ca en bd Cnew) ++ [(nl, .inl (ca 2, 10, .inl (fun _ => 0)))])) := hD
  refine lv_aload_n hx hb dX5_init_71 rfl (lv_at hl 0 rfl) ?_
  refine lv_iconst (v := (-1)) hx hb dX5_init_72 (by decide) ?_
  refine va_put (D := D) (ci := 6) (v := .int (-1)) (ty := .int) (C := RX5) (T := TX5) (N := 10) hx hb hts hin5 tyX5 tyX5_ok nmX5 hown hK hP hD hS 0 rfl rfl 8 (by decide) (hts (.fieldLink RX5 48 "HatReservations" "lastFailedCommand" "I") (by decide +kernel)) (fun _ h9 => h9) rfl (by decide +kernel) rfl rfl (Nat.le_of_ble_eq_true rfl) dX5_init_73 (fun H locs hP hD hS => ?_)
  have hP : va_P D vwCl ((h, .inr (6, [.ref (a9 8), .ref (a10 8), .ref (dH 1), .ref (bd 4), .ref nl, .int 0, .int 0, .int (-1), .int (-1), .int 0])) :: ((((HW ca a9 Hnew ++ HW ca a10 Hnew) ++ HIW ca (fun k => match (motive := Nat → Nat → Nat) k with | 9 => a9 | 10 => a10 | k => aH k) dH (fun _ => Hnew) 0 0) ++ CW ca en bd Cnew) ++ [(nl, .inl (ca 2, 10, .inl (fun _ => 0)))])) H := hP
  have hD : va_D A ((h, .inr (6, [.ref (a9 8), .ref (a10 8), .ref (dH 1), .ref (bd 4), .ref nl, .int 0, .int 0, .int (-1), .int (-1), .int 0])) :: ((((HW ca a9 Hnew ++ HW ca a10 Hnew) ++ HIW ca (fun k => match (motive := Nat → Nat → Nat) k with | 9 => a9 | 10 => a10 | k => aH k) dH (fun _ => Hnew) 0 0) ++ CW ca en bd Cnew) ++ [(nl, .inl (ca 2, 10, .inl (fun _ => 0)))])) := hD
  refine lv_aload_n hx hb dX5_init_76 rfl (lv_at hl 0 rfl) ?_
  refine lv_iconst (v := (-1)) hx hb dX5_init_77 (by decide) ?_
  refine va_put (D := D) (ci := 6) (v := .int (-1)) (ty := .int) (C := RX5) (T := TX5) (N := 10) hx hb hts hin5 tyX5 tyX5_ok nmX5 hown hK hP hD hS 0 rfl rfl 9 (by decide) (hts (.fieldLink RX5 51 "HatReservations" "lastFailedException" "I") (by decide +kernel)) (fun _ h9 => h9) rfl (by decide +kernel) rfl rfl (Nat.le_of_ble_eq_true rfl) dX5_init_78 (fun H locs hP hD hS => ?_)
  have hP : va_P D vwCl ((h, .inr (6, [.ref (a9 8), .ref (a10 8), .ref (dH 1), .ref (bd 4), .ref nl, .int 0, .int 0, .int (-1), .int (-1), .int (-1)])) :: ((((HW ca a9 Hnew ++ HW ca a10 Hnew) ++ HIW ca (fun k => match (motive := Nat → Nat → Nat) k with | 9 => a9 | 10 => a10 | k => aH k) dH (fun _ => Hnew) 0 0) ++ CW ca en bd Cnew) ++ [(nl, .inl (ca 2, 10, .inl (fun _ => 0)))])) H := hP
  have hD : va_D A ((h, .inr (6, [.ref (a9 8), .ref (a10 8), .ref (dH 1), .ref (bd 4), .ref nl, .int 0, .int 0, .int (-1), .int (-1), .int (-1)])) :: ((((HW ca a9 Hnew ++ HW ca a10 Hnew) ++ HIW ca (fun k => match (motive := Nat → Nat → Nat) k with | 9 => a9 | 10 => a10 | k => aH k) dH (fun _ => Hnew) 0 0) ++ CW ca en bd Cnew) ++ [(nl, .inl (ca 2, 10, .inl (fun _ => 0)))])) := hD
  have hP := P_perm end5 hP
  have hD := D_perm end5 hD
  exact W.vret hx hb hr (fun t ht hW => ⟨⟨(fun k => match k with | 9 => a9 | 10 => a10 | k => aH k, fun k => match k with | 0 => h | 3 => nl | k => dH k, bd), rfl, rfl, by rw [ht]; exact hP, va_K.moved hW.alike hK, hD⟩, hS.F ht⟩) hS.2.2 dX5_init_81
