/-! run: the whole text -/
section ROWE
variable {p : Program} {l : Launch} {e : Env} {R : Room} {s : State} {m : MethodId} {args : Array Value} {below : List Frame} {meth : Method} {c : Code} {H : Heap} {locs : List Loc} {cells slots : Nat} {Q : State → Prop}
variable {D : va_G} {ca : Nat → ClassId} {ws wc wr : va_W} {As rest st0 : List Value} {index n pc nL maxL mc ms b : Nat} {y : MethodName} {bytes cc : ByteArray} {ret : Option FieldType} {wsy Ts : List Cond} {rm : Room} {own C : String} {ls : Array Slot} {A0 : Nat → Prop} {X : (Nat → Prop) → State → Heap → Prop}
theorem hcER {v : Int32} (ok : SXok X) (S : CallFix p m c cc nL s args Ts own) (hM : Met l y wsy rm (RGPc D ca X wc (.ref b :: As)) (vp_Si (fun r => r = v)) 0 0 (fun _ => False)) (cw : CallW R s args own C index y bytes maxL ret wsy rm 0 0 n) (hK : va_K D vwCl (TYS ca) s) (hP : va_P D vwCl ws H) (hPc : va_P D vwCl wc H) (hS : va_S A0 s.heap H locs) (hX : X A0 s s.heap) (hrc : ∃ cellB : Cell, H[b]? = some cellB ∧ cellB.vm.isStatics = false ∧ s.vm.findClass C = some cellB.cls) (hn : As.length = n) (hsize : ls.size = nL) (hst : st0 = As.reverse ++ .ref b :: rest) (hW : (rest.map fun v => v.category).sum ≤ 8) (hf : cells ≤ R.cells ∧ slots ≤ R.slots) (hdg : decode cc pc = .ok (.invokevirtual index, 3))
    (kk : W p l e R s m args below meth c H locs cells slots Q (F0 m (pc + 3) ls (.int v :: rest))) : W p l e R s m args below meth c H locs cells slots Q (F0 m pc ls st0) :=
  vp_callSi (W.runV S hM cw ⟨RGPc_blind ok, hrc, fun U hU hW => ⟨rfl, by rw [hU]; exact hPc, va_K.moved hW.alike hK, by rw [hU]; exact ok.1 _ _ _ _ hW (ok.2.2.2 _ _ _ _ (ok.2.2.1 _ _ _ _ hX hS.2.1) (fun _ h => h.elim))⟩⟩ rfl hn hsize hst (lv_room hW) hdg hf) (fun r h => by cases h; exact kk)
theorem hcEM {S0 : Type} {f : S0 → va_W} {F : S0} (ok : SXok X) (S : CallFix p m c cc nL s args Ts own) (hM : Met l y wsy rm (MGPc D ca X H.size wc (.ref b :: As)) (va_Qv (fun v => v = F) (MB D ca (va_A wc H.size) f) (va_A wc H.size)) mc ms (va_A wc H.size)) (cw : CallW R s args own C index y bytes maxL ret wsy rm mc ms n) (hK : va_K D vwCl (TYS ca) s) (hP : va_P D vwCl ws H) (hD : va_D A0 ws) (hS : va_S A0 s.heap H locs) (hA : ∀ q, s.heap.size ≤ q → A0 q) (hX : X A0 s s.heap) (hperm : ws.Perm (wr ++ wc)) (hrc : ∃ cellB : Cell, H[b]? = some cellB ∧ cellB.vm.isStatics = false ∧ s.vm.findClass C = some cellB.cls) (hn : As.length = n) (hsize : ls.size = nL) (hst : st0 = As.reverse ++ .ref b :: rest) (hW : (rest.map fun v => v.category).sum ≤ 8) (hf : cells + mc ≤ R.cells ∧ slots + ms ≤ R.slots) (hdg : decode cc pc = .ok (.invokevirtual index, 3))
    (kk : ∀ (H1 : Heap) (locs1 : List Loc), va_P D vwCl (wr ++ f F) H1 → va_D A0 (wr ++ f F) → va_S A0 s.heap H1 locs1 → W p l e R s m args below meth c H1 locs1 (cells + mc) (slots + ms) Q (F0 m (pc + 3) ls (rest))) : W p l e R s m args below meth c H locs cells slots Q (F0 m pc ls st0) := by
  have hPc := P_right (P_perm hperm hP)
  have hDc := D_right (D_perm hperm hD)
  have hF := J_free hperm hD hS hA
  refine va_callv (va_runV S hM cw ⟨MGPc_blind ok, hrc, fun U hU hW => ⟨rfl, by rw [hU], by rw [hU]; exact hPc, va_K.moved hW.alike hK, hDc.weaken (fun _ _ _ _ => trivial), X_at ok hX hS hF hU hW⟩⟩ rfl hn hsize hst (lv_room hW) hdg hf) hS (fun q _ h => hF q h) hF (fun u t H1 locs1 ht hvm hw hB hz hk hS1 => ?_)
  obtain ⟨hP1, -, hD1⟩ := hB
  rw [ht] at hP1
  obtain ⟨g1, g2⟩ := J_join hperm hP hD hk hF hP1 hD1
  cases hw
  exact kk H1 locs1 g1 g2 hS1
end ROWE
/-! the number of guests: only a welcome changes it -/
theorem h9_putHat (u : HS) (x y : Int32) : h9 (fX3_putHat u x y).2 = h9 u := by unfold fX3_putHat; rfl
theorem h9_liftHat (u : HS) (x : Int32) : h9 (fX3_liftHat u x).2 = h9 u := by unfold fX3_liftHat; rfl
theorem h9_s12 (x : Int32) (u : HS) : h9 (s12 x u) = h9 u := rfl
theorem h9_s13 (x : Int32) (u : HS) : h9 (s13 x u) = h9 u := rfl
theorem h9_s14 (x : Int32) (u : HS) : h9 (s14 x u) = h9 u := rfl
theorem h9_pull16 (x : Int32) : ∀ (n k : Nat) (v : HS) (y : Int32), h9 (fX3_pullCoat_16 n k v x y).2 = h9 v := by
  intro n
  induction n with
  | zero => intro k v y; rfl
  | succ n ih =>
    intro k v y
    rw [fX3_pullCoat_16]
    split
    · split
      · exact ih _ _ _
      · exact ih _ _ _
    · exact ih _ _ _
theorem h9_pullCoat (u : HS) (x : Int32) : h9 (fX3_pullCoat u x).2 = h9 u := by unfold fX3_pullCoat; exact h9_pull16 x _ _ _ _
theorem h9_offer2 (x : Int32) : ∀ (n k : Nat) (v : HS), h9 (fX3_offerChair_2 n k v x) = h9 v := by
  intro n
  induction n with
  | zero => intro k v; rfl
  | succ n ih =>
    intro k v
    rw [fX3_offerChair_2]
    split
    · rfl
    · split
      · rw [h9_s13, h9_putHat, h9_pullCoat]
      · rw [ih, h9_s12, h9_pullCoat]
theorem h9_offers2 (x : Int64) : ∀ (n k : Nat) (v : HS), h9 (fX3_offerChairs_2 n k v x) = h9 v := by
  intro n
  induction n with
  | zero => intro k v; rfl
  | succ n ih =>
    intro k v
    rw [fX3_offerChairs_2]
    split
    · exact ih _ _
    · split
      · rw [ih]
        unfold fX3_offerChair
        exact h9_offer2 _ _ _ _
      · exact ih _ _
theorem h9_offers (u : HS) (x : Int64) : h9 (fX3_offerChairs u x) = h9 u := by unfold fX3_offerChairs; exact h9_offers2 x _ _ _
theorem h9_give (u : HS) (x : Int32) : h9 (fX3_giveChairsBack u x).2 = h9 u := by
  unfold fX3_giveChairsBack
  exact (h9_offers _ _).trans (h9_liftHat _ _)
theorem h9_lose (u : HS) (x y : Int32) : h9 (fX3_loseChair u x y).2 = h9 u := by
  unfold fX3_loseChair
  split
  · exact h9_liftHat _ _
  · split <;> rfl
theorem h9_fight (u : HS) (x y : Int32) : h9 (fX3_fightFor u x y).2 = h9 u := by
  unfold fX3_fightFor
  split
  · rfl
  · refine (h9_offers _ _).trans ?_
    rw [h9_s14, h9_putHat, h9_lose]
theorem h9_sweep8 (x : Int32) : ∀ (n k : Nat) (v : HS) (y : Int64) (z : Int32), h9 (fX3_sweepHats_8 n k v x y z).2 = h9 v := by
  intro n
  induction n with
  | zero =>
    intro k v y z
    rw [fX3_sweepHats_8]
    exact h9_offers _ _
  | succ n ih =>
    intro k v y z
    rw [fX3_sweepHats_8]
    split
    · exact ih _ _ _ _
    · split
      · exact ih _ _ _ _
      · rw [ih, h9_liftHat]
theorem h9_sweep (u : HS) (x : Int32) : h9 (fX3_sweepHats u x).2 = h9 u := by unfold fX3_sweepHats; exact h9_sweep8 x _ _ _ _ _
theorem HI_welcome {u : HS} {x y : Int32} (hi : HI u) (h : vp_in (h9 u) 8) : HI (fX3_welcome u x y).2 := by
  show 0 ≤ h9 u + 1 ∧ h9 u + 1 ≤ 8
  rw [vp_in_iff] at h
  have e1 : (1 : Int32).toInt = 1 := by decide
  have e0 : (0 : Int32).toInt = 0 := by decide
  have e8 : (8 : Int32).toInt = 8 := by decide
  have ha : (h9 u + 1).toInt = (h9 u).toInt + 1 := by
    rw [Int32.toInt_add, e1]
    rw [Int.bmod_def]
    split <;> omega
  rw [Int32.le_iff_toInt_le, Int32.le_iff_toInt_le, ha, e0, e8]
  omega
theorem HI_of {u v : HS} (h : h9 v = h9 u) (hi : HI u) : HI v := by
  unfold HI
  rw [h]
  exact hi
theorem HI_carry {u : HS} {c : Nat} {x y : Int32} (hi : HI u) (hc : c < 10) (h : fX1_refusalIn u c x y = 0) : HI (fX1_carryOutIn u c x y) := by
  match c, hc, h with
  | 0, _, h => rw [ri_0] at h; rw [cout_0]; exact HI_welcome hi (guest_ok hi h)
  | 1, _, h => rw [cout_1]; exact HI_of (h9_putHat _ _ _) hi
  | 2, _, h => rw [cout_2]; exact HI_of (h9_give _ _) hi
  | 3, _, h => rw [cout_3]; exact HI_of rfl hi
  | 4, _, h => rw [cout_4]; exact HI_of rfl hi
  | 5, _, h => rw [cout_5]; exact HI_of (h9_pullCoat _ _) hi
  | 6, _, h => rw [cout_6]; exact HI_of (h9_fight _ _ _) hi
  | 7, _, h => rw [cout_7]; exact HI_of rfl hi
  | 8, _, h => rw [cout_8]; exact HI_of (h9_sweep _ _) hi
  | 9, _, h => rw [cout_9]; exact HI_of rfl hi
  | n + 10, h, _ => omega
theorem hv3_prep (z : HHS) : hv3 (fX4_prepare z) = hv3 z := by unfold fX4_prepare; rfl
theorem prep_OI {w : OS} (h : OI w) : OI (osH (fX4_prepare (oH w)) w) := by
  obtain ⟨h1, h2, h3, h4, h5, h6, h7⟩ := h
  refine ⟨h1, h2, fun i => ?_, h4, h5, h6, h7⟩
  show HI (va_up (og2 w) (og3 w) (og0 w) i)
  unfold va_up
  split
  · exact h1
  · exact h3 i
theorem back_OI {w : OS} (h : OI w) : OI (osH (fX4_takeBack (oH w)) w) := by
  obtain ⟨h1, h2, h3, h4, h5, h6, h7⟩ := h
  exact ⟨h3 (og3 w), h2, h3, h4, h5, h6, h7⟩
theorem text_OI {w : OS} (h : OI w) : OI (os5 (fX2_empty (og5 (os5 (fX2_read (og5 w)).2 w))) (os5 (fX2_read (og5 w)).2 w)) := by
  obtain ⟨h1, h2, h3, h4, h5, h6, h7⟩ := h
  have hc := read_CI _ h6
  exact ⟨h1, h2, h3, h4, h5, ⟨Nat.zero_le _, trivial, hc.2.2.1, hc.2.2.2⟩, h7⟩
theorem hall_OI {w : OS} {x : HS} (h : OI w) (hx : HI x) : OI (os0 x w) := by
  obtain ⟨h1, h2, h3, h4, h5, h6, h7⟩ := h
  exact ⟨hx, h2, h3, h4, h5, h6, h7⟩
def fX5_run_54 : Nat → Nat → OS → Nat × Int32 × OS
  | 0, k, v => (0, nI (q5 (og5 (osH (fX4_keep (oH v)) v))), osH (fX4_keep (oH v)) v)
  | n + 1, k, v => (if (q5 (og5 v)) ≤ k then (0, nI (q5 (og5 (osH (fX4_keep (oH v)) v))), osH (fX4_keep (oH v)) v) else (if (fX1_refusalIn (og0 v) (q2 (og5 v) k) (q3 (og5 v) k) (q4 (og5 v) k)) = 0 then fX5_run_54 n (k + 1) (os0 (fX1_carryOutIn (og0 v) (q2 (og5 v) k) (q3 (og5 v) k) (q4 (og5 v) k)) v) else (2, 0, os11 (fX1_refusalIn (og0 v) (q2 (og5 v) k) (q3 (og5 v) k) (q4 (og5 v) k)) (os10 (nI k) (osH (fX4_takeBack (oH v)) v)))))
def fX5_run (u : OS) : Nat × Int32 × OS :=
  (if ((fX2_read (og5 u)).1) = 0 then (1, 0, os9 (nI (q6 (og5 (os5 (fX2_empty (og5 (os5 (fX2_read (og5 u)).2 u))) (os5 (fX2_read (og5 u)).2 u))))) (os5 (fX2_empty (og5 (os5 (fX2_read (og5 u)).2 u))) (os5 (fX2_read (og5 u)).2 u))) else fX5_run_54 10 0 (osH (fX4_prepare (oH (os5 (fX2_empty (og5 (os5 (fX2_read (og5 u)).2 u))) (os5 (fX2_read (og5 u)).2 u)))) (os5 (fX2_empty (og5 (os5 (fX2_read (og5 u)).2 u))) (os5 (fX2_read (og5 u)).2 u))))
set_option maxHeartbeats 4000000 in
set_option maxRecDepth 100000 in
/-- run -/
theorem kX5_run (l : Launch) (hfl : l.stackTraces = false) (D : va_G) (ca : Nat → ClassId) (en ks vs : Nat → Nat) (ai : Nat → Nat → Nat) (ad bd : Nat → Nat) (sz : Nat) (u : OS) (hoi : OI u) : HMet l yX5_run wsX5_run ({ frames := 8, cells := 2, slots := 12, locals := 179 }) D ca en ks vs ai ad bd sz u [.ref (ad 0)] ["java/lang/IllegalArgumentException", "java/lang/IllegalStateException"] (fX5_run u) := by
  unfold HMet
  refine vx_ofW (cc := cX5_run) (maxL := 7) (ret := (some .int)) (by decide) rfl ?_
  intro p e s m args below meth c s₁ B hml hxt hv
  obtain ⟨rfl, hsz, hP, hK, hD0, hX⟩ := hv
  have hx := B.exec
  have hb := B.bytes
  have hr := B.returns
  have hts := atoms_spec (ws := wsX5_run) B.pre
  have hown : s.vm.findClass RX5 = some m.cls := findClass_of_methodNamed B.named
  have hlocks := B.notSynchronized
  have hin5 : ∀ w ∈ wsX50, w ∈ wsX5_run := by decide +kernel
  have hin3 : ∀ w ∈ wsX30, w ∈ wsX5_run := by decide +kernel
  have hin2 : ∀ w ∈ wsX20, w ∈ wsX5_run := by decide +kernel
  have hin4 : ∀ w ∈ wsX40, w ∈ wsX5_run := by decide +kernel
  have hin := hin5
  subst hsz
  have hD := hD0.self (sz := s.heap.size)
  generalize hAe : va_A (OW ca en ai ad bd u) s.heap.size = A at hD hX ⊢
  have hA : ∀ q : Nat, s.heap.size ≤ q → A q := fun q h => by rw [← hAe]; exact Or.inr h
  have hS : va_S A s.heap s.heap [] := va_S.rf
  have cut_54 : ∀ (n k : Nat) (hnk : n + k = 10) (v : OS) (hoi : OI v) (H : Heap) (locs : List Loc) (hP : va_P D vwCl (OW ca en ai ad bd v) H) (hD : va_D A (OW ca en ai ad bd v)) (hS : va_S A s.heap H locs) (hf : fX5_run u = fX5_run_54 n k v) (ls : Array Slot) (hl : lv_has ls 7 [(0, .ref (ad 0)), (2, .int (nI k))]), W p l e (headSpec wsX5_run ({ frames := 8, cells := 2, slots := 12, locals := 179 })).room s m ([.ref (ad 0)] : List Value).toArray below meth c H locs 0 0 (vx_MQ below (va_Qi (fun r v => ((0 : Nat), r, v) = fX5_run u) (MB D ca A (fun v => OW ca en ai ad bd v)) A) (vx_X (fun _ : Nat × OS => True) (XB D ["java/lang/IllegalArgumentException", "java/lang/IllegalStateException"] ((fX5_run u).1, 0, (fX5_run u).2.2) A (fun v => OW ca en ai ad bd v)) A) ([.ref (ad 0)] : List Value).toArray s 2 12 A) (F0 m 54 ls []) := by
    intro n
    induction n with
    | zero =>
      intro k hnk v hoi H locs hP hD hS hf ls hl
      obtain rfl : 10 = k := by omega
      refine lv_iload_n hx hb dX5_run_54 rfl (lv_at hl 1 rfl) ?_
      refine lv_bipush (v := 10) hx hb dX5_run_55 (by decide) ?_
      refine lv_icmp_ge (tgt := 173) hx hb dX5_run_57 (by decide) (fun _ => ?_) (fun q => absurd (nI_le (a := 10) (b := 10) (Nat.le_refl _) (by omega)) q)
      refine lv_aload_n hx hb dX5_run_173 rfl (lv_at hl 0 rfl) ?_
      refine va_get (D := D) (ci := 6) (v := .ref (ad 1)) (C := RX5) (T := TX5) (N := 10) hx hb hts hin hown hK hP 0 rfl rfl 2 (by decide) (hts (.fieldLink RX5 22 "HatReservations" "history" "LHatReservations$History;") (by decide +kernel)) (fun _ h9 => h9) rfl dX5_run_174 ?_
      refine hcMv (As := []) (rest := []) (wr := OR3 ca en ai ad bd v) (f := fun z => HHW ca ai ad z) (F := fX4_keep (oH v)) 0 5 ⟨hx, hb, hml, hown, hts⟩ (kX4_keep l D ca ai ad _ (oH v) hoi.2.2.2.1 hoi.2.2.2.2.1) (cwV 0 hts gX5_run_X4_keep rfl rfl rfl (by decide +kernel) ⟨Nat.le_of_ble_eq_true rfl, Nat.le_of_ble_eq_true rfl⟩) hK hP hD hS hA OP3 rfl rfl rfl hl.1 rfl (Nat.le_of_ble_eq_true rfl) ⟨Nat.le_of_ble_eq_true rfl, Nat.le_of_ble_eq_true rfl⟩ dX5_run_177 (fun H locs hP hD hS => ?_)
      have hP : va_P D vwCl (OW ca en ai ad bd (osH (fX4_keep (oH v)) v)) H := P_perm (OP3 (w := (osH (fX4_keep (oH v)) v))).symm hP
      have hD : va_D A (OW ca en ai ad bd (osH (fX4_keep (oH v)) v)) := D_perm (OP3 (w := (osH (fX4_keep (oH v)) v))).symm hD
      refine lv_aload_n hx hb dX5_run_180 rfl (lv_at hl 0 rfl) ?_
      refine va_get (D := D) (ci := 6) (v := .ref (bd 4)) (C := RX5) (T := TX5) (N := 10) hx hb hts hin hown hK hP 0 rfl rfl 3 (by decide) (hts (.fieldLink RX5 29 "HatReservations" "commandText" "LHatReservations$CommandText;") (by decide +kernel)) (fun _ h9 => h9) rfl dX5_run_181 ?_
      refine va_get (D := D) (ci := 3) (v := .int (nI (q5 (og5 (osH (fX4_keep (oH v)) v))))) (C := RX2) (T := TX2) (N := 7) hx hb hts hin2 hown hK (OP_cmd hP) 0 rfl rfl 5 (by decide) (hts (.fieldLink RX5 285 "HatReservations$CommandText" "commandCount" "I") (by decide +kernel)) (fun _ h9 => h9) rfl dX5_run_184 ?_
      refine vx_ret (W.widen (k := 2) (n := 12) (Nat.le_of_ble_eq_true rfl) (Nat.le_of_ble_eq_true rfl) ?_)
      exact W.iret (v := nI (q5 (og5 (osH (fX4_keep (oH v)) v)))) hx hb hr (fun t ht hW => ⟨⟨nI (q5 (og5 (osH (fX4_keep (oH v)) v))), (osH (fX4_keep (oH v)) v), rfl, hf.symm, by rw [ht]; exact hP, va_K.moved hW.alike hK, hD⟩, hS.F ht⟩) hS.2.2 dX5_run_187
    | succ n ih =>
      intro k hnk v hoi H locs hP hD hS hf ls hl
      refine lv_iload_n hx hb dX5_run_54 rfl (lv_at hl 1 rfl) ?_
      refine lv_bipush (v := 10) hx hb dX5_run_55 (by decide) ?_
      refine lv_icmp_ge (tgt := 173) hx hb dX5_run_57 (by decide) (fun q => absurd q (show ¬ (10 : Int32) ≤ nI k from nI_ge (b := 10) (by omega) (by omega))) (fun _ => ?_)
      refine lv_iload_n hx hb dX5_run_60 rfl (lv_at hl 1 rfl) ?_
      refine lv_aload_n hx hb dX5_run_61 rfl (lv_at hl 0 rfl) ?_
      refine va_get (D := D) (ci := 6) (v := .ref (bd 4)) (C := RX5) (T := TX5) (N := 10) hx hb hts hin hown hK hP 0 rfl rfl 3 (by decide) (hts (.fieldLink RX5 29 "HatReservations" "commandText" "LHatReservations$CommandText;") (by decide +kernel)) (fun _ h9 => h9) rfl dX5_run_62 ?_
      refine va_get (D := D) (ci := 3) (v := .int (nI (q5 (og5 v)))) (C := RX2) (T := TX2) (N := 7) hx hb hts hin2 hown hK (OP_cmd hP) 0 rfl rfl 5 (by decide) (hts (.fieldLink RX5 285 "HatReservations$CommandText" "commandCount" "I") (by decide +kernel)) (fun _ h9 => h9) rfl dX5_run_65 ?_
      have hq5 : q5 (og5 v) ≤ 10 := hoi.2.2.2.2.2.1.2.2.1
      refine icmpgeN (a := k) (b := (q5 (og5 v))) (tgt := 173) hx hb dX5_run_68 (by decide) (by omega) (by omega) (fun c_68 => ?_) (fun c_68 => ?_)
      · have hf := hf.trans (if_pos c_68)
        refine lv_aload_n hx hb dX5_run_173 rfl (lv_at hl 0 rfl) ?_
        refine va_get (D := D) (ci := 6) (v := .ref (ad 1)) (C := RX5) (T := TX5) (N := 10) hx hb hts hin hown hK hP 0 rfl rfl 2 (by decide) (hts (.fieldLink RX5 22 "HatReservations" "history" "LHatReservations$History;") (by decide +kernel)) (fun _ h9 => h9) rfl dX5_run_174 ?_
        refine hcMv (As := []) (rest := []) (wr := OR3 ca en ai ad bd v) (f := fun z => HHW ca ai ad z) (F := fX4_keep (oH v)) 0 5 ⟨hx, hb, hml, hown, hts⟩ (kX4_keep l D ca ai ad _ (oH v) hoi.2.2.2.1 hoi.2.2.2.2.1) (cwV 0 hts gX5_run_X4_keep rfl rfl rfl (by decide +kernel) ⟨Nat.le_of_ble_eq_true rfl, Nat.le_of_ble_eq_true rfl⟩) hK hP hD hS hA OP3 rfl rfl rfl hl.1 rfl (Nat.le_of_ble_eq_true rfl) ⟨Nat.le_of_ble_eq_true rfl, Nat.le_of_ble_eq_true rfl⟩ dX5_run_177 (fun H locs hP hD hS => ?_)
        have hP : va_P D vwCl (OW ca en ai ad bd (osH (fX4_keep (oH v)) v)) H := P_perm (OP3 (w := (osH (fX4_keep (oH v)) v))).symm hP
        have hD : va_D A (OW ca en ai ad bd (osH (fX4_keep (oH v)) v)) := D_perm (OP3 (w := (osH (fX4_keep (oH v)) v))).symm hD
        refine lv_aload_n hx hb dX5_run_180 rfl (lv_at hl 0 rfl) ?_
        refine va_get (D := D) (ci := 6) (v := .ref (bd 4)) (C := RX5) (T := TX5) (N := 10) hx hb hts hin hown hK hP 0 rfl rfl 3 (by decide) (hts (.fieldLink RX5 29 "HatReservations" "commandText" "LHatReservations$CommandText;") (by decide +kernel)) (fun _ h9 => h9) rfl dX5_run_181 ?_
        refine va_get (D := D) (ci := 3) (v := .int (nI (q5 (og5 (osH (fX4_keep (oH v)) v))))) (C := RX2) (T := TX2) (N := 7) hx hb hts hin2 hown hK (OP_cmd hP) 0 rfl rfl 5 (by decide) (hts (.fieldLink RX5 285 "HatReservations$CommandText" "commandCount" "I") (by decide +kernel)) (fun _ h9 => h9) rfl dX5_run_184 ?_
        refine vx_ret (W.widen (k := 2) (n := 12) (Nat.le_of_ble_eq_true rfl) (Nat.le_of_ble_eq_true rfl) ?_)
        exact W.iret (v := nI (q5 (og5 (osH (fX4_keep (oH v)) v)))) hx hb hr (fun t ht hW => ⟨⟨nI (q5 (og5 (osH (fX4_keep (oH v)) v))), (osH (fX4_keep (oH v)) v), rfl, hf.symm, by rw [ht]; exact hP, va_K.moved hW.alike hK, hD⟩, hS.F ht⟩) hS.2.2 dX5_run_187
      · have hf := hf.trans (if_neg c_68)
        refine lv_aload_n hx hb dX5_run_71 rfl (lv_at hl 0 rfl) ?_
        refine va_get (D := D) (ci := 6) (v := .ref (bd 4)) (C := RX5) (T := TX5) (N := 10) hx hb hts hin hown hK hP 0 rfl rfl 3 (by decide) (hts (.fieldLink RX5 29 "HatReservations" "commandText" "LHatReservations$CommandText;") (by decide +kernel)) (fun _ h9 => h9) rfl dX5_run_72 ?_
        refine va_get (D := D) (ci := 3) (v := .ref (bd 1)) (C := RX2) (T := TX2) (N := 7) hx hb hts hin2 hown hK (OP_cmd hP) 0 rfl rfl 2 (by decide) (hts (.fieldLink RX5 288 "HatReservations$CommandText" "commands" "[LHatReservations$Command;") (by decide +kernel)) (fun _ h9 => h9) rfl dX5_run_75 ?_
        refine lv_iload_n hx hb dX5_run_78 rfl (lv_at hl 1 rfl) ?_
        refine aaldN (g := fun k => en (q2 (og5 v) k)) (k := k) 2 4 hx hb hK (OP_cmd hP) rfl rfl (by omega) (by decide) dX5_run_79 ?_
        refine lv_astore_n (lv' := [(3, .ref (en (q2 (og5 v) k))), (0, .ref (ad 0)), (2, .int (nI k))]) hx hb dX5_run_80 rfl hl (by decide) rfl (fun ls hl => ?_)
        refine lv_aload_n hx hb dX5_run_81 rfl (lv_at hl 1 rfl) ?_
        refine va_get (D := D) (ci := 6) (v := .ref (bd 4)) (C := RX5) (T := TX5) (N := 10) hx hb hts hin hown hK hP 0 rfl rfl 3 (by decide) (hts (.fieldLink RX5 29 "HatReservations" "commandText" "LHatReservations$CommandText;") (by decide +kernel)) (fun _ h9 => h9) rfl dX5_run_82 ?_
        refine va_get (D := D) (ci := 3) (v := .ref (bd 2)) (C := RX2) (T := TX2) (N := 7) hx hb hts hin2 hown hK (OP_cmd hP) 0 rfl rfl 3 (by decide) (hts (.fieldLink RX5 292 "HatReservations$CommandText" "firsts" "[I") (by decide +kernel)) (fun _ h9 => h9) rfl dX5_run_85 ?_
        refine lv_iload_n hx hb dX5_run_88 rfl (lv_at hl 2 rfl) ?_
        refine ialdN (f := q3 (og5 v)) (k := k) hx hb hK (OP_cmd hP) 3 0 rfl rfl (by omega) (by decide) dX5_run_89 ?_
        refine lv_istore (lv' := [(4, .int (q3 (og5 v) k)), (3, .ref (en (q2 (og5 v) k))), (0, .ref (ad 0)), (2, .int (nI k))]) hx hb dX5_run_90 hl (by decide) rfl (fun ls hl => ?_)
        refine lv_aload_n hx hb dX5_run_92 rfl (lv_at hl 2 rfl) ?_
        refine va_get (D := D) (ci := 6) (v := .ref (bd 4)) (C := RX5) (T := TX5) (N := 10) hx hb hts hin hown hK hP 0 rfl rfl 3 (by decide) (hts (.fieldLink RX5 29 "HatReservations" "commandText" "LHatReservations$CommandText;") (by decide +kernel)) (fun _ h9 => h9) rfl dX5_run_93 ?_
        refine va_get (D := D) (ci := 3) (v := .ref (bd 3)) (C := RX2) (T := TX2) (N := 7) hx hb hts hin2 hown hK (OP_cmd hP) 0 rfl rfl 4 (by decide) (hts (.fieldLink RX5 295 "HatReservations$CommandText" "seconds" "[I") (by decide +kernel)) (fun _ h9 => h9) rfl dX5_run_96 ?_
        refine lv_iload_n hx hb dX5_run_99 rfl (lv_at hl 3 rfl) ?_
        refine ialdN (f := q4 (og5 v)) (k := k) hx hb hK (OP_cmd hP) 4 0 rfl rfl (by omega) (by decide) dX5_run_100 ?_
        refine lv_istore (lv' := [(5, .int (q4 (og5 v) k)), (4, .int (q3 (og5 v) k)), (3, .ref (en (q2 (og5 v) k))), (0, .ref (ad 0)), (2, .int (nI k))]) hx hb dX5_run_101 hl (by decide) rfl (fun ls hl => ?_)
        refine lv_aload_n hx hb dX5_run_103 rfl (lv_at hl 2 rfl) ?_
        refine lv_aload_n hx hb dX5_run_104 rfl (lv_at hl 3 rfl) ?_
        refine va_get (D := D) (ci := 6) (v := .ref (ai 9 8)) (C := RX5) (T := TX5) (N := 10) hx hb hts hin hown hK hP 0 rfl rfl 0 (by decide) (hts (.fieldLink RX5 10 "HatReservations" "hall" "LHatReservations$Hall;") (by decide +kernel)) (fun _ h9 => h9) rfl dX5_run_105 ?_
        refine lv_iload hx hb dX5_run_108 (lv_at hl 1 rfl) ?_
        refine lv_iload hx hb dX5_run_110 (lv_at hl 0 rfl) ?_
        have hk9 : q2 (og5 v) k < 10 := hoi.2.2.2.2.2.1.2.2.2 k
        refine hcER (As := [.ref (ai 9 8), .int (q3 (og5 v) k), .int (q4 (og5 v) k)]) (rest := []) (wc := HW ca (ai 9) (og0 v)) (KX_ok en ks vs) ⟨hx, hb, hml, hown, hts⟩ (kX1_refusalIn l D ca en ks vs (ai 9) (og0 v) (q2 (og5 v) k) (q3 (og5 v) k) (q4 (og5 v) k) hk9 hoi.1.2) (cwV 3 hts gX5_run_X1_refusalIn rfl rfl rfl (by decide +kernel) ⟨Nat.le_of_ble_eq_true rfl, Nat.le_of_ble_eq_true rfl⟩) hK hP (OP_hall hP) hS hX.1 (va_Orecv (hX.1.2.1.1 _ hk9).2.1 hS) rfl hl.1 rfl (Nat.le_of_ble_eq_true rfl) ⟨Nat.le_of_ble_eq_true rfl, Nat.le_of_ble_eq_true rfl⟩ dX5_run_112 ?_
        refine lv_istore (lv' := [(6, .int (fX1_refusalIn (og0 v) (q2 (og5 v) k) (q3 (og5 v) k) (q4 (og5 v) k))), (5, .int (q4 (og5 v) k)), (4, .int (q3 (og5 v) k)), (3, .ref (en (q2 (og5 v) k))), (0, .ref (ad 0)), (2, .int (nI k))]) hx hb dX5_run_115 hl (by decide) rfl (fun ls hl => ?_)
        refine lv_iload hx hb dX5_run_117 (lv_at hl 0 rfl) ?_
        refine lv_if_eq (tgt := 155) hx hb dX5_run_119 (by decide) (fun c_119 => ?_) (fun c_119 => ?_)
        · have hf := hf.trans (if_pos c_119)
          refine lv_aload_n hx hb dX5_run_155 rfl (lv_at hl 3 rfl) ?_
          refine lv_aload_n hx hb dX5_run_156 rfl (lv_at hl 4 rfl) ?_
          refine va_get (D := D) (ci := 6) (v := .ref (ai 9 8)) (C := RX5) (T := TX5) (N := 10) hx hb hts hin hown hK hP 0 rfl rfl 0 (by decide) (hts (.fieldLink RX5 10 "HatReservations" "hall" "LHatReservations$Hall;") (by decide +kernel)) (fun _ h9 => h9) rfl dX5_run_157 ?_
          refine lv_iload hx hb dX5_run_160 (lv_at hl 2 rfl) ?_
          refine lv_iload hx hb dX5_run_162 (lv_at hl 1 rfl) ?_
          refine hcEM (As := [.ref (ai 9 8), .int (q3 (og5 v) k), .int (q4 (og5 v) k)]) (rest := []) (wr := OR1 ca en ai ad bd v) (wc := HW ca (ai 9) (og0 v)) (f := HW ca (ai 9)) (F := fX1_carryOutIn (og0 v) (q2 (og5 v) k) (q3 (og5 v) k) (q4 (og5 v) k)) (KX_ok en ks vs) ⟨hx, hb, hml, hown, hts⟩ (kX1_carryOutIn l D ca en ks vs (ai 9) _ (og0 v) (q2 (og5 v) k) (q3 (og5 v) k) (q4 (og5 v) k) hk9 hoi.1 c_119) (cwV 3 hts gX5_run_X1_carryOutIn rfl rfl rfl (by decide +kernel) ⟨Nat.le_of_ble_eq_true rfl, Nat.le_of_ble_eq_true rfl⟩) hK hP hD hS hA hX.1 OP1 (va_Orecv (hX.1.2.1.1 _ hk9).2.1 hS) rfl hl.1 rfl (Nat.le_of_ble_eq_true rfl) ⟨Nat.le_of_ble_eq_true rfl, Nat.le_of_ble_eq_true rfl⟩ dX5_run_164 (fun H locs hP hD hS => ?_)
          have hP : va_P D vwCl (OW ca en ai ad bd (os0 (fX1_carryOutIn (og0 v) (q2 (og5 v) k) (q3 (og5 v) k) (q4 (og5 v) k)) v)) H := P_perm (OP1 (w := (os0 (fX1_carryOutIn (og0 v) (q2 (og5 v) k) (q3 (og5 v) k) (q4 (og5 v) k)) v))).symm hP
          have hD : va_D A (OW ca en ai ad bd (os0 (fX1_carryOutIn (og0 v) (q2 (og5 v) k) (q3 (og5 v) k) (q4 (og5 v) k)) v)) := D_perm (OP1 (w := (os0 (fX1_carryOutIn (og0 v) (q2 (og5 v) k) (q3 (og5 v) k) (q4 (og5 v) k)) v))).symm hD
          refine lv_iinc (v := nI (k + 1)) (lv' := [(2, .int (nI (k + 1))), (6, .int (fX1_refusalIn (og0 v) (q2 (og5 v) k) (q3 (og5 v) k) (q4 (og5 v) k))), (5, .int (q4 (og5 v) k)), (4, .int (q3 (og5 v) k)), (3, .ref (en (q2 (og5 v) k))), (0, .ref (ad 0))]) hx hb dX5_run_167 hl (k := 5) rfl (nI_1 k) (by decide) rfl (fun ls hl => ?_)
          refine lv_goto (tgt := 54) hx hb dX5_run_170 (by decide) ?_
          exact ih (k + 1) (by omega)  (os0 (fX1_carryOutIn (og0 v) (q2 (og5 v) k) (q3 (og5 v) k) (q4 (og5 v) k)) v) (by first | exact hall_OI hoi (HI_carry hoi.1 hk9 c_119) | exact prep_OI (text_OI hoi)) _ _ hP hD hS hf ls (lv_sub hl [5, 0] rfl)
        · have hf := hf.trans (if_neg c_119)
          refine lv_aload_n hx hb dX5_run_122 rfl (lv_at hl 4 rfl) ?_
          refine va_get (D := D) (ci := 6) (v := .ref (ad 1)) (C := RX5) (T := TX5) (N := 10) hx hb hts hin hown hK hP 0 rfl rfl 2 (by decide) (hts (.fieldLink RX5 22 "HatReservations" "history" "LHatReservations$History;") (by decide +kernel)) (fun _ h9 => h9) rfl dX5_run_123 ?_
          refine lv_aload_n hx hb dX5_run_126 rfl (lv_at hl 4 rfl) ?_
          refine va_get (D := D) (ci := 6) (v := .ref (ai 9 8)) (C := RX5) (T := TX5) (N := 10) hx hb hts hin hown hK hP 0 rfl rfl 0 (by decide) (hts (.fieldLink RX5 10 "HatReservations" "hall" "LHatReservations$Hall;") (by decide +kernel)) (fun _ h9 => h9) rfl dX5_run_127 ?_
          refine hcMv (As := [.ref (ai 9 8)]) (rest := []) (wr := OR3 ca en ai ad bd v) (f := fun z => HHW ca ai ad z) (F := fX4_takeBack (oH v)) 0 5 ⟨hx, hb, hml, hown, hts⟩ (kX4_takeBack l D ca ai ad _ (oH v) hoi.2.2.2.1) (cwV 1 hts gX5_run_X4_takeBack rfl rfl rfl (by decide +kernel) ⟨Nat.le_of_ble_eq_true rfl, Nat.le_of_ble_eq_true rfl⟩) hK hP hD hS hA OP3 rfl rfl rfl hl.1 rfl (Nat.le_of_ble_eq_true rfl) ⟨Nat.le_of_ble_eq_true rfl, Nat.le_of_ble_eq_true rfl⟩ dX5_run_130 (fun H locs hP hD hS => ?_)
          have hP : va_P D vwCl (OW ca en ai ad bd (osH (fX4_takeBack (oH v)) v)) H := P_perm (OP3 (w := (osH (fX4_takeBack (oH v)) v))).symm hP
          have hD : va_D A (OW ca en ai ad bd (osH (fX4_takeBack (oH v)) v)) := D_perm (OP3 (w := (osH (fX4_takeBack (oH v)) v))).symm hD
          refine lv_aload_n hx hb dX5_run_133 rfl (lv_at hl 4 rfl) ?_
          refine lv_iload_n hx hb dX5_run_134 rfl (lv_at hl 5 rfl) ?_
          refine va_put (D := D) (ci := 6) (v := .int (nI k)) (ty := .int) (C := RX5) (T := TX5) (N := 10) hx hb hts hin tyX5 tyX5_ok nmX5 hown hK hP hD hS 0 rfl rfl 8 (by decide) (hts (.fieldLink RX5 48 "HatReservations" "lastFailedCommand" "I") (by decide +kernel)) (fun _ h9 => h9) rfl (by decide +kernel) rfl rfl (Nat.le_of_ble_eq_true rfl) dX5_run_135 (fun H locs hP hD hS => ?_)
          have hP : va_P D vwCl (OW ca en ai ad bd (os10 (nI k) (osH (fX4_takeBack (oH v)) v))) H := hP
          have hD : va_D A (OW ca en ai ad bd (os10 (nI k) (osH (fX4_takeBack (oH v)) v))) := hD
          refine lv_aload_n hx hb dX5_run_138 rfl (lv_at hl 4 rfl) ?_
          refine lv_iload hx hb dX5_run_139 (lv_at hl 0 rfl) ?_
          refine va_put (D := D) (ci := 6) (v := .int (fX1_refusalIn (og0 v) (q2 (og5 v) k) (q3 (og5 v) k) (q4 (og5 v) k))) (ty := .int) (C := RX5) (T := TX5) (N := 10) hx hb hts hin tyX5 tyX5_ok nmX5 hown hK hP hD hS 0 rfl rfl 9 (by decide) (hts (.fieldLink RX5 51 "HatReservations" "lastFailedException" "I") (by decide +kernel)) (fun _ h9 => h9) rfl (by decide +kernel) rfl rfl (Nat.le_of_ble_eq_true rfl) dX5_run_141 (fun H locs hP hD hS => ?_)
          have hP : va_P D vwCl (OW ca en ai ad bd (os11 (fX1_refusalIn (og0 v) (q2 (og5 v) k) (q3 (og5 v) k) (q4 (og5 v) k)) (os10 (nI k) (osH (fX4_takeBack (oH v)) v)))) H := hP
          have hD : va_D A (OW ca en ai ad bd (os11 (fX1_refusalIn (og0 v) (q2 (og5 v) k) (q3 (og5 v) k) (q4 (og5 v) k)) (os10 (nI k) (osH (fX4_takeBack (oH v)) v)))) := hD
          exact thrISEW (is := 307) (text := "a command fails") hx hb hfl hown (hts (.classLink RX5 65 "java/lang/IllegalStateException") (by decide +kernel)) (hts (.initialized "java/lang/IllegalStateException") (by decide +kernel)) (fun w hw => hts w (List.mem_cons_of_mem _ (List.mem_append_right _ hw))) hX (by decide +kernel) hS (by rw [hml]; exact hl.1) dX5_run_144 dX5_run_147 dX5_run_148 dX5_run_151 dX5_run_154 hxt (Nat.le_of_ble_eq_true rfl) (Nat.le_of_ble_eq_true rfl) (Nat.le_of_ble_eq_true rfl) (Nat.le_of_ble_eq_true rfl) hlocks (fun t hAl h1 h2 => xc_T (w := (os11 (fX1_refusalIn (og0 v) (q2 (og5 v) k) (q3 (og5 v) k) (q4 (og5 v) k)) (os10 (nI k) (osH (fX4_takeBack (oH v)) v)))) (k := 2) 1 rfl rfl (by rw [hf]) hP hD hS h1 h2) hS.2.2 (Nat.le_of_ble_eq_true rfl) (Nat.le_of_ble_eq_true rfl)
  have hf : fX5_run u = fX5_run u := rfl
  refine W_entry (Nat.le_of_ble_eq_true rfl) (fun ls hl => ?_)
  have hl : lv_has ls 7 [(0, .ref (ad 0))] := hl
  refine lv_aload_n hx hb dX5_run_0 rfl (lv_at hl 0 rfl) ?_
  refine va_get (D := D) (ci := 6) (v := .ref (bd 4)) (C := RX5) (T := TX5) (N := 10) hx hb hts hin hown hK hP 0 rfl rfl 3 (by decide) (hts (.fieldLink RX5 29 "HatReservations" "commandText" "LHatReservations$CommandText;") (by decide +kernel)) (fun _ h9 => h9) rfl dX5_run_1 ?_
  refine hcGMi (As := []) (rest := []) (wr := OR2 ca ai ad bd u) (f := fun z => CW ca en bd z) (F := fX2_read (og5 u)) 0 3 (KX_ok en ks vs) ⟨hx, hb, hml, hown, hts⟩ (kX2_read l D ca en ks vs bd _ (og5 u)  hoi.2.2.2.2.2.1) (cwV 0 hts gX5_run_X2_read rfl rfl rfl (by decide +kernel) ⟨Nat.le_of_ble_eq_true rfl, Nat.le_of_ble_eq_true rfl⟩) hK hP hD hS hA hX.1 OP2 rfl rfl rfl hl.1 rfl (Nat.le_of_ble_eq_true rfl) ⟨Nat.le_of_ble_eq_true rfl, Nat.le_of_ble_eq_true rfl⟩ dX5_run_4 (fun H locs hP hD hS => ?_)
  have hP : va_P D vwCl (OW ca en ai ad bd (os5 (fX2_read (og5 u)).2 u)) H := P_perm (OP2 (w := (os5 (fX2_read (og5 u)).2 u))).symm hP
  have hD : va_D A (OW ca en ai ad bd (os5 (fX2_read (og5 u)).2 u)) := D_perm (OP2 (w := (os5 (fX2_read (og5 u)).2 u))).symm hD
  refine lv_istore_n (lv' := [(1, .int ((fX2_read (og5 u)).1)), (0, .ref (ad 0))]) hx hb dX5_run_7 rfl hl (by decide) rfl (fun ls hl => ?_)
  refine lv_aload_n hx hb dX5_run_8 rfl (lv_at hl 1 rfl) ?_
  refine va_get (D := D) (ci := 6) (v := .ref (bd 4)) (C := RX5) (T := TX5) (N := 10) hx hb hts hin hown hK hP 0 rfl rfl 3 (by decide) (hts (.fieldLink RX5 29 "HatReservations" "commandText" "LHatReservations$CommandText;") (by decide +kernel)) (fun _ h9 => h9) rfl dX5_run_9 ?_
  refine hcMv (As := []) (rest := []) (wr := OR2 ca ai ad bd (os5 (fX2_read (og5 u)).2 u)) (f := fun z => CW ca en bd z) (F := fX2_empty (og5 (os5 (fX2_read (og5 u)).2 u))) 0 3 ⟨hx, hb, hml, hown, hts⟩ (kX2_empty l D ca en ks vs bd _ (og5 (os5 (fX2_read (og5 u)).2 u))  ) (cwV 0 hts gX5_run_X2_empty rfl rfl rfl (by decide +kernel) ⟨Nat.le_of_ble_eq_true rfl, Nat.le_of_ble_eq_true rfl⟩) hK hP hD hS hA OP2 rfl rfl rfl hl.1 rfl (Nat.le_of_ble_eq_true rfl) ⟨Nat.le_of_ble_eq_true rfl, Nat.le_of_ble_eq_true rfl⟩ dX5_run_12 (fun H locs hP hD hS => ?_)
  have hP : va_P D vwCl (OW ca en ai ad bd (os5 (fX2_empty (og5 (os5 (fX2_read (og5 u)).2 u))) (os5 (fX2_read (og5 u)).2 u))) H := P_perm (OP2 (w := (os5 (fX2_empty (og5 (os5 (fX2_read (og5 u)).2 u))) (os5 (fX2_read (og5 u)).2 u)))).symm hP
  have hD : va_D A (OW ca en ai ad bd (os5 (fX2_empty (og5 (os5 (fX2_read (og5 u)).2 u))) (os5 (fX2_read (og5 u)).2 u))) := D_perm (OP2 (w := (os5 (fX2_empty (og5 (os5 (fX2_read (og5 u)).2 u))) (os5 (fX2_read (og5 u)).2 u)))).symm hD
  refine lv_iload_n hx hb dX5_run_15 rfl (lv_at hl 0 rfl) ?_
  refine lv_if_ne (tgt := 41) hx hb dX5_run_16 (by decide) (fun c_16 => ?_) (fun c_16 => ?_)
  · have hf := hf.trans (if_neg c_16)
    refine lv_aload_n hx hb dX5_run_41 rfl (lv_at hl 1 rfl) ?_
    refine va_get (D := D) (ci := 6) (v := .ref (ad 1)) (C := RX5) (T := TX5) (N := 10) hx hb hts hin hown hK hP 0 rfl rfl 2 (by decide) (hts (.fieldLink RX5 22 "HatReservations" "history" "LHatReservations$History;") (by decide +kernel)) (fun _ h9 => h9) rfl dX5_run_42 ?_
    refine lv_aload_n hx hb dX5_run_45 rfl (lv_at hl 1 rfl) ?_
    refine va_get (D := D) (ci := 6) (v := .ref (ai 9 8)) (C := RX5) (T := TX5) (N := 10) hx hb hts hin hown hK hP 0 rfl rfl 0 (by decide) (hts (.fieldLink RX5 10 "HatReservations" "hall" "LHatReservations$Hall;") (by decide +kernel)) (fun _ h9 => h9) rfl dX5_run_46 ?_
    refine hcMv (As := [.ref (ai 9 8)]) (rest := []) (wr := OR3 ca en ai ad bd (os5 (fX2_empty (og5 (os5 (fX2_read (og5 u)).2 u))) (os5 (fX2_read (og5 u)).2 u))) (f := fun z => HHW ca ai ad z) (F := fX4_prepare (oH (os5 (fX2_empty (og5 (os5 (fX2_read (og5 u)).2 u))) (os5 (fX2_read (og5 u)).2 u)))) 0 5 ⟨hx, hb, hml, hown, hts⟩ (kX4_prepare l D ca ai ad _ (oH (os5 (fX2_empty (og5 (os5 (fX2_read (og5 u)).2 u))) (os5 (fX2_read (og5 u)).2 u))) hoi.2.2.2.1) (cwV 1 hts gX5_run_X4_prepare rfl rfl rfl (by decide +kernel) ⟨Nat.le_of_ble_eq_true rfl, Nat.le_of_ble_eq_true rfl⟩) hK hP hD hS hA OP3 rfl rfl rfl hl.1 rfl (Nat.le_of_ble_eq_true rfl) ⟨Nat.le_of_ble_eq_true rfl, Nat.le_of_ble_eq_true rfl⟩ dX5_run_49 (fun H locs hP hD hS => ?_)
    have hP : va_P D vwCl (OW ca en ai ad bd (osH (fX4_prepare (oH (os5 (fX2_empty (og5 (os5 (fX2_read (og5 u)).2 u))) (os5 (fX2_read (og5 u)).2 u)))) (os5 (fX2_empty (og5 (os5 (fX2_read (og5 u)).2 u))) (os5 (fX2_read (og5 u)).2 u)))) H := P_perm (OP3 (w := (osH (fX4_prepare (oH (os5 (fX2_empty (og5 (os5 (fX2_read (og5 u)).2 u))) (os5 (fX2_read (og5 u)).2 u)))) (os5 (fX2_empty (og5 (os5 (fX2_read (og5 u)).2 u))) (os5 (fX2_read (og5 u)).2 u))))).symm hP
    have hD : va_D A (OW ca en ai ad bd (osH (fX4_prepare (oH (os5 (fX2_empty (og5 (os5 (fX2_read (og5 u)).2 u))) (os5 (fX2_read (og5 u)).2 u)))) (os5 (fX2_empty (og5 (os5 (fX2_read (og5 u)).2 u))) (os5 (fX2_read (og5 u)).2 u)))) := D_perm (OP3 (w := (osH (fX4_prepare (oH (os5 (fX2_empty (og5 (os5 (fX2_read (og5 u)).2 u))) (os5 (fX2_read (og5 u)).2 u)))) (os5 (fX2_empty (og5 (os5 (fX2_read (og5 u)).2 u))) (os5 (fX2_read (og5 u)).2 u))))).symm hD
    refine lv_iconst (v := 0) hx hb dX5_run_52 (by decide) ?_
    refine lv_istore_n (lv' := [(2, .int 0), (1, .int ((fX2_read (og5 u)).1)), (0, .ref (ad 0))]) hx hb dX5_run_53 rfl hl (by decide) rfl (fun ls hl => ?_)
    exact cut_54 10 0 (by omega)  (osH (fX4_prepare (oH (os5 (fX2_empty (og5 (os5 (fX2_read (og5 u)).2 u))) (os5 (fX2_read (og5 u)).2 u)))) (os5 (fX2_empty (og5 (os5 (fX2_read (og5 u)).2 u))) (os5 (fX2_read (og5 u)).2 u))) (by first | exact hall_OI hoi (HI_carry hoi.1 hk9 c_119) | exact prep_OI (text_OI hoi)) _ _ hP hD hS hf ls (lv_sub hl [2, 0] rfl)
  · have hf := hf.trans (if_pos c_16)
    refine lv_aload_n hx hb dX5_run_19 rfl (lv_at hl 1 rfl) ?_
    refine lv_aload_n hx hb dX5_run_20 rfl (lv_at hl 1 rfl) ?_
    refine va_get (D := D) (ci := 6) (v := .ref (bd 4)) (C := RX5) (T := TX5) (N := 10) hx hb hts hin hown hK hP 0 rfl rfl 3 (by decide) (hts (.fieldLink RX5 29 "HatReservations" "commandText" "LHatReservations$CommandText;") (by decide +kernel)) (fun _ h9 => h9) rfl dX5_run_21 ?_
    refine va_get (D := D) (ci := 3) (v := .int (nI (q6 (og5 (os5 (fX2_empty (og5 (os5 (fX2_read (og5 u)).2 u))) (os5 (fX2_read (og5 u)).2 u)))))) (C := RX2) (T := TX2) (N := 7) hx hb hts hin2 hown hK (OP_cmd hP) 0 rfl rfl 6 (by decide) (hts (.fieldLink RX5 277 "HatReservations$CommandText" "position" "I") (by decide +kernel)) (fun _ h9 => h9) rfl dX5_run_24 ?_
    refine va_put (D := D) (ci := 6) (v := .int (nI (q6 (og5 (os5 (fX2_empty (og5 (os5 (fX2_read (og5 u)).2 u))) (os5 (fX2_read (og5 u)).2 u)))))) (ty := .int) (C := RX5) (T := TX5) (N := 10) hx hb hts hin tyX5 tyX5_ok nmX5 hown hK hP hD hS 0 rfl rfl 7 (by decide) (hts (.fieldLink RX5 45 "HatReservations" "lastErrorPosition" "I") (by decide +kernel)) (fun _ h9 => h9) rfl (by decide +kernel) rfl rfl (Nat.le_of_ble_eq_true rfl) dX5_run_27 (fun H locs hP hD hS => ?_)
    have hP : va_P D vwCl (OW ca en ai ad bd (os9 (nI (q6 (og5 (os5 (fX2_empty (og5 (os5 (fX2_read (og5 u)).2 u))) (os5 (fX2_read (og5 u)).2 u))))) (os5 (fX2_empty (og5 (os5 (fX2_read (og5 u)).2 u))) (os5 (fX2_read (og5 u)).2 u)))) H := hP
    have hD : va_D A (OW ca en ai ad bd (os9 (nI (q6 (og5 (os5 (fX2_empty (og5 (os5 (fX2_read (og5 u)).2 u))) (os5 (fX2_read (og5 u)).2 u))))) (os5 (fX2_empty (og5 (os5 (fX2_read (og5 u)).2 u))) (os5 (fX2_read (og5 u)).2 u)))) := hD
    exact thrIAEW (is := 280) (text := "the text is not a command text") hx hb hfl hown (hts (.classLink RX5 58 "java/lang/IllegalArgumentException") (by decide +kernel)) (hts (.initialized "java/lang/IllegalArgumentException") (by decide +kernel)) (fun w hw => hts w (List.mem_cons_of_mem _ (List.mem_append_left _ (List.mem_append_left _ (List.mem_append_right _ hw))))) hX (by decide +kernel) hS (by rw [hml]; exact hl.1) dX5_run_30 dX5_run_33 dX5_run_34 dX5_run_37 dX5_run_40 hxt (Nat.le_of_ble_eq_true rfl) (Nat.le_of_ble_eq_true rfl) (Nat.le_of_ble_eq_true rfl) (Nat.le_of_ble_eq_true rfl) hlocks (fun t hAl h1 h2 => xc_T (w := (os9 (nI (q6 (og5 (os5 (fX2_empty (og5 (os5 (fX2_read (og5 u)).2 u))) (os5 (fX2_read (og5 u)).2 u))))) (os5 (fX2_empty (og5 (os5 (fX2_read (og5 u)).2 u))) (os5 (fX2_read (og5 u)).2 u)))) (k := 1) 0 rfl rfl (by rw [hf]) hP hD hS h1 h2) hS.2.2 (Nat.le_of_ble_eq_true rfl) (Nat.le_of_ble_eq_true rfl)
