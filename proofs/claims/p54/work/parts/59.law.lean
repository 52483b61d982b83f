/-! THE CLAIM OUT OF ONE WALK OF THE LAW'S BODY. Your part is whole_start (and what it stands on); all else here is the same for every law, but numbers. -/
def R_law : String := "HatReservationsLaw"
def lw_P (b : Addr) (xs : List Int32) (args : Array Value) (s : State) : Prop := args = #[.ref b] ∧ s.IntsAt b xs ∧ xs.length ≤ 260 ∧ (Jvm.Cond.and given_1 narrow_1).before args s = true
/-- what a walk over the start with the record d0 says of its end, said of the start itself -/
theorem lw_closed {s t : State} {o : Outcome} {d0 : Drawn} {L : List Loc} {k n : Nat} (hd0 : s.drawn.sameBut d0 lw_cs) (hv : ∃ v, o = .returned v) (hW : (s.setDrawn d0).WarmedH t.vm) (hs : (s.setDrawn d0).sameButNew ({ t with vm := s.vm } : State) L k n) : State.butDraws s t lw_cs (fun t1 => Framed s o t1 L k n) := by
  have h2 : t.drawn = d0 := congrArg State.drawn hs.1
  refine ⟨⟨hv, hW, State.sameButNew.setDrawn hs s.drawn⟩, ?_, by decide⟩
  rw [h2]
  exact hd0
def lw_Q (_ : Array Value) (s : State) (o : Outcome) (t : State) : Prop := o = .returned (some (.int 1)) ∧ State.butDraws s t lw_cs (fun t1 => Framed s o t1 [] 600516 7280964)
def lw_Z (below : List Frame) (a : Array Value) (s : State) : State → Prop := fun t => ∃ o, t.status = .running ∧ Ended t below o ∧ lw_Q a s o t
/-- the law's own end, with 1 on the stack, nothing written that was there before, its room as the claim has it; d0: the record of draws at this point (at the entry s.drawn: begin with 'refine W.base ?_' and 'have hd0 := Drawn.sameBut.refl s.drawn lw_cs') -/
theorem lw_ret {p : Program} {l : Launch} {e : Env} {s : State} {m : MethodId} {below : List Frame} {meth : Method} {c : Code} {b : Nat} {d0 : Drawn} (hd0 : s.drawn.sameBut d0 lw_cs) (hx : p.tables.exec = Jvm.exec) (hb : c.code = code) (hr : meth.sig.returnType = ret) (hlocks : meth.locks = false) {pc : Nat} {H : Heap} {ls : Array Slot} (hdg : decode code pc = .ok (.ireturn, 1)) : W p l e room_1 (s.setDrawn d0) m #[Value.ref b] below meth c H [] 600516 7280964 (lw_Z below #[Value.ref b] s) (F0 m pc ls [.int 1]) := by
  intro T hT X
  obtain ⟨fs, hret, hrun, hended, hW, hframe⟩ := X.leave (v := some (.int 1)) (hlocks := hlocks) (fun h => by rw [hr] at h; cases h)
  have hmeth' : T.vm.method? m = some meth := X.method'
  refine ⟨T.setFrames fs, ?_, .returned (some (.int 1)), hrun, hended, rfl, lw_closed hd0 ⟨_, rfl⟩ hW hframe⟩
  jvm_step X.here [X.here.top, hx, hb, hdg, hmeth', hr, ret, narrow_b1]
  (try refine ⟨rfl, ?_⟩); (try refine ⟨rfl, ?_⟩)
  first | (intro acts; rw [hret _ acts rfl rfl rfl]) | rw [hret _ _ rfl rfl rfl]
  exact Steps.refl _
/-- what holds at the law's entry: the machine, the code, the tables' words (any of lw_tbl by 'hts w (by decide +kernel)'), the script of L ints xs at the cell b, what the Statement gives of the start (any of its parts by flat_of_before) -/
def lw_At (p : Program) (s : State) (m : MethodId) (meth : Method) (c : Code) (b L : Nat) (xs : Nat → Int32) : Prop :=
  p.tables.exec = Jvm.exec ∧ c.code = code ∧ meth.sig.returnType = ret ∧ c.maxLocals = 11 ∧ s.vm.findClass R_law = some m.cls ∧ (∀ w ∈ lw_tbl, w.before #[Value.ref b] s = true) ∧ va_X b L xs s s.heap ∧ b < s.heap.size ∧ meth.locks = false ∧ (Jvm.Cond.and given_1 narrow_1).before #[Value.ref b] s = true
/-- the row of sums -/
abbrev WA (ca : Nat → ClassId) (q : Nat) (w : Nat → Int64) : va_W := [(q, .inl (ca 1, 9, .inr (.inl w)))]
/-- the sums that were: the latest hall of the list stands last -/
def WAS (L : List HS) (w : Nat → Int64) : Prop := ∀ j x, L[j]? = some x → w (L.length - 1 - j) = asks x
theorem WAS_tail {x : HS} {L : List HS} {w : Nat → Int64} (h : WAS (x :: L) w) : WAS L w := by
  intro j y hy
  have h1 := h (j + 1) y hy
  rw [List.length_cons, show L.length + 1 - 1 - (j + 1) = L.length - 1 - j by omega] at h1
  exact h1
theorem WAS_cons {x : HS} {L : List HS} {w : Nat → Int64} (h : WAS L w) : WAS (x :: L) (vp_updL w L.length (asks x)) := by
  intro j y hy
  rw [List.length_cons]
  match j, hy with
  | 0, hy =>
    cases hy
    rw [show L.length + 1 - 1 - 0 = L.length by omega]
    exact updL_at
  | j + 1, hy =>
    have hy : L[j]? = some y := hy
    have hj : j < L.length := (List.getElem?_eq_some_iff.mp hy).1
    rw [show L.length + 1 - 1 - (j + 1) = L.length - 1 - j by omega, updL_ne (by omega)]
    exact h j y hy
set_option maxHeartbeats 4000000 in
set_option maxRecDepth 100000 in
theorem law_main {p : Program} {e : Env} {s : State} {m : MethodId} {below : List Frame} {meth : Method} {c : Code} (l : Launch) (hfl : l.stackTraces = false) {b nn : Nat} {f : Nat → Int32} (hnn : nn ≤ 260) (hx : p.tables.exec = Jvm.exec) (hb : c.code = cL_law) (hr : meth.sig.returnType = ret) (hml : c.maxLocals = 11) (hown : s.vm.findClass RL = some m.cls) (hts : ∀ w ∈ lw_T, w.before #[Value.ref b] s = true) (hlocks : meth.locks = false) {D : va_G} {ca : Nat → ClassId} {en ks vs lk lv : Nat → Nat} (hK : va_K D vwCl (TYS ca) s) {A : Nat → Prop} (hAd : A = fun q => s.heap.size ≤ q) (hX : HX en ks vs A s s.heap) (hY : YX en ks vs lk lv A s s.heap) (hSX : SX b nn f A s s.heap) : W p l e room_1 s m #[Value.ref b] below meth c s.heap [] 0 0 (lw_Z below #[Value.ref b] s) (entryFrame m ([Value.ref b] : List Value).toArray 11) := by
  have hA : ∀ q : Nat, s.heap.size ≤ q → A q := fun q h => by rw [hAd]; exact h
  have c386 : ∀ (H : Heap) (locs : List Loc) (hS : va_S A s.heap H locs) (ls : Array Slot) (hl : lv_has ls 11 [(0, .ref b)]), W p l e room_1 s m #[Value.ref b] below meth c H locs 1000 7000 (lw_Z below #[Value.ref b] s) (F0 m 386 ls []) := by
    intro H locs hS ls hl
    refine va_new (ci := 6) (fs := [.null, .null, .null, .null, .null, .int 0, .int 0, .int 0, .int 0, .int 0]) (C := RX5) (T := TX5) (N := 10) hx hb hts inT_wsX50 tyX5 tyX5_ok hown (hts _ oL_link) (hts _ oL_inst) (hts _ oL_init) hK (H := H) (ws := []) (fun k q h => (by simp at h)) (A := A) ⟨fun i j p q h => (by simp at h), fun k q h => (by simp at h)⟩ hS hA rfl (fun j hj => by rcases (show j = 0 ∨ j = 1 ∨ j = 2 ∨ j = 3 ∨ j = 4 ∨ j = 5 ∨ j = 6 ∨ j = 7 ∨ j = 8 ∨ j = 9 by omega) with rfl | rfl | rfl | rfl | rfl | rfl | rfl | rfl | rfl | rfl <;> rfl) (by show _ ≤ 600516; omega) (by show _ ≤ 7280964; omega) dL_law_386 (fun n0 H hP hD hS => ?_)
    refine lv_dup hx hb dL_law_389 rfl ?_
    refine hcIGv (As := []) (rest := [.ref n0]) (wr := []) (HX_ok en ks vs) ⟨hx, hb, hml, hown, hts⟩ (kX5_init l D ca en ks vs n0 H.size) (cwI 0 hts mL_law_X5_init rfl rfl rfl (hts _ oL_init) (hts _ oL_ml) (hts _ oL_im) rfl (by decide +kernel) ⟨Nat.le_of_ble_eq_true rfl, Nat.le_of_ble_eq_true rfl⟩) hK hP hD hS hA hX (List.Perm.refl _) rfl hl.1 rfl (Nat.le_of_ble_eq_true rfl) ⟨by show _ ≤ 600516; omega, by show _ ≤ 7280964; omega⟩ dL_law_390 (fun z H locs e9 hP1 hD1 hS => ?_)
    obtain ⟨ai2, ad2, bd2⟩ := z
    have e9 : ad2 0 = n0 := e9
    subst e9
    refine W.widen (k := (1000 + 108)) (n := (7000 + 998)) (by omega) (by omega) ?_
    have hP : va_P D vwCl (OW ca en ai2 ad2 bd2 Onew) H := hP1
    have hD : va_D A (OW ca en ai2 ad2 bd2 Onew) := hD1
    refine lv_astore_n (lv' := [(2, .ref (ad2 0)), (0, .ref b)]) hx hb dL_law_393 rfl hl (by decide) rfl (fun ls hl => ?_)
    refine lv_aload_n hx hb dL_law_394 rfl (lv_at hl 0 rfl) ?_
    refine lv_aload_n hx hb dL_law_395 rfl (lv_at hl 1 rfl) ?_
    refine hcGi (mc := 52) (ms := 312) (X := SXX en ks vs b nn f) (wr := []) (wc := fun v => OW ca en ai2 ad2 bd2 v) (u := Onew) (As := [.ref (ad2 0), .ref b]) (rest := []) (SXX_ok en ks vs b nn f) ⟨hx, hb, hml, hown, hts⟩ (kL_makes l hfl D ca en ks vs ai2 ad2 bd2 _ Onew Cnew b nn f hnn ⟨⟨[], LI_new⟩, rfl, rfl⟩) (va_cwS 2 hts mL_law_L_makes rfl rfl rfl (by decide +kernel) ⟨Nat.le_of_ble_eq_true rfl, Nat.le_of_ble_eq_true rfl⟩) hK hP hD hS hA (X_now (SXX_ok en ks vs b nn f) ⟨hX, hSX⟩ hS (J_free (wr := []) (List.Perm.refl _) hD hS hA)) (List.Perm.refl _) rfl hl.1 rfl (Nat.le_of_ble_eq_true rfl) ⟨by show _ ≤ 600516; omega, by show _ ≤ 7280964; omega⟩ dL_law_396 (fun H locs r u hG hP hD hS => ?_)
    refine W.widen (k := (1000 + 160)) (n := (7000 + 1310)) (by omega) (by omega) ?_
    obtain ⟨rfl, ⟨L1, hu⟩, hT5⟩ := hG
    refine lv_if_ne (tgt := 404) hx hb dL_law_399 (by decide) (fun _ => ?_) (fun q => absurd q (by decide)) 
    refine lv_aload_n hx hb dL_law_404 rfl (lv_at hl 0 rfl) ?_
    refine hcGlp (mc := 1644) (ms := 9864) (X := HX en ks vs) (wr := []) (wc := fun v => OW ca en ai2 ad2 bd2 v) (u := u) (G := (asks (og0 u), u)) (As := [.ref (ad2 0)]) (rest := []) (HX_ok en ks vs) ⟨hx, hb, hml, hown, hts⟩ (kL_asks l hfl D ca en ks vs ai2 ad2 bd2 _ u hu.1) (va_cwS 1 hts mL_law_L_asks rfl rfl rfl (by decide +kernel) ⟨Nat.le_of_ble_eq_true rfl, Nat.le_of_ble_eq_true rfl⟩) hK hP hD hS hA (X_now (HX_ok en ks vs) hX hS (J_free (wr := []) (List.Perm.refl _) hD hS hA)) (List.Perm.refl _) rfl hl.1 rfl (Nat.le_of_ble_eq_true rfl) ⟨by show _ ≤ 600516; omega, by show _ ≤ 7280964; omega⟩ dL_law_405 (fun H locs hP hD hS => ?_)
    refine W.widen (k := (1000 + 1804)) (n := (7000 + 11174)) (by omega) (by omega) ?_
    refine lv_lstore_n (lv' := [(3, .long (asks (og0 u))), (2, .ref (ad2 0)), (0, .ref b)]) hx hb dL_law_408 rfl hl (by decide) rfl (fun ls hl => ?_)
    refine lv_aload_n hx hb dL_law_409 rfl (lv_at hl 1 rfl) ?_
    refine hcGlp (mc := 1644) (ms := 9864) (X := HX en ks vs) (wr := []) (wc := fun v => OW ca en ai2 ad2 bd2 v) (u := u) (G := (asks (og0 u), u)) (As := [.ref (ad2 0)]) (rest := []) (HX_ok en ks vs) ⟨hx, hb, hml, hown, hts⟩ (kL_asks l hfl D ca en ks vs ai2 ad2 bd2 _ u hu.1) (va_cwS 1 hts mL_law_L_asks rfl rfl rfl (by decide +kernel) ⟨Nat.le_of_ble_eq_true rfl, Nat.le_of_ble_eq_true rfl⟩) hK hP hD hS hA (X_now (HX_ok en ks vs) hX hS (J_free (wr := []) (List.Perm.refl _) hD hS hA)) (List.Perm.refl _) rfl hl.1 rfl (Nat.le_of_ble_eq_true rfl) ⟨by show _ ≤ 600516; omega, by show _ ≤ 7280964; omega⟩ dL_law_410 (fun H locs hP hD hS => ?_)
    refine W.widen (k := (1000 + 3448)) (n := (7000 + 21038)) (by omega) (by omega) ?_
    refine lv_lload_n hx hb dL_law_413 rfl (lv_at hl 0 rfl) ?_
    refine W.lcmp hx hb dL_law_414 ?_
    refine lv_to (y := 0) (lg_self _) ?_
    refine lv_if_ne (tgt := 425) hx hb dL_law_415 (by decide) (fun q => absurd rfl q) (fun _ => ?_)
    refine lv_aload_n hx hb dL_law_418 rfl (lv_at hl 1 rfl) ?_
    refine hcGi (mc := 5600) (ms := 33600) (X := YX en ks vs lk lv) (wr := []) (wc := fun v => OW ca en ai2 ad2 bd2 v) (u := u) (As := [.ref (ad2 0)]) (rest := []) (YX_ok en ks vs lk lv) ⟨hx, hb, hml, hown, hts⟩ (kL_thrown l hfl D ca en ks vs ai2 ad2 bd2 lk lv _ u 60 L1 (by decide) hu hT5) (va_cwS 1 hts mL_law_L_thrown rfl rfl rfl (by decide +kernel) ⟨Nat.le_of_ble_eq_true rfl, Nat.le_of_ble_eq_true rfl⟩) hK hP hD hS hA (X_now (YX_ok en ks vs lk lv) hY hS (J_free (wr := []) (List.Perm.refl _) hD hS hA)) (List.Perm.refl _) rfl hl.1 rfl (Nat.le_of_ble_eq_true rfl) ⟨by show _ ≤ 600516; omega, by show _ ≤ 7280964; omega⟩ dL_law_419 (fun H locs r u2 hG hP hD hS => ?_)
    refine W.widen (k := (1000 + 9048)) (n := (7000 + 54638)) (by omega) (by omega) ?_
    obtain ⟨rfl, ⟨L2, hu2⟩, ho2, hq2⟩ := hG
    refine lv_if_ne (tgt := 427) hx hb dL_law_422 (by decide) (fun _ => ?_) (fun q => absurd q (by decide)) 
    refine lv_aload_n hx hb dL_law_427 rfl (lv_at hl 1 rfl) ?_
    refine hcMi (f := fun v => OW ca en ai2 ad2 bd2 v) (F := fX5_save u2) (wr := []) (As := []) (rest := []) 0 6 ⟨hx, hb, hml, hown, hts⟩ (kX5_save l D ca en ks vs ai2 ad2 bd2 _ u2) (cwV 0 hts mL_law_X5_save rfl rfl rfl (by decide +kernel) ⟨Nat.le_of_ble_eq_true rfl, Nat.le_of_ble_eq_true rfl⟩) hK hP hD hS hA (List.Perm.refl _) rfl rfl rfl hl.1 rfl (Nat.le_of_ble_eq_true rfl) ⟨by show _ ≤ 600516; omega, by show _ ≤ 7280964; omega⟩ dL_law_428 (fun H locs hP hD hS => ?_)
    obtain ⟨s1, s2, s3, s4, s5, s6⟩ := save_LI hu2
    generalize (fX5_save u2).1 = pl at s2 ⊢
    generalize (fX5_save u2).2 = u3 at s1 s3 s4 s5 s6 hP hD ⊢
    have gk : GI 60 (og1 u3) := by rw [s4]; exact hu2.2.1
    obtain ⟨r1, r2, r3, r4, r5⟩ := rest_LI s1 gk
    have ho3 : og0 u3 = og0 u := s3.trans ho2
    have ho4 : og1 u3 = og0 u := s4.trans ho2
    have hr9 : wrp (fX5_restore u3) = (pl, resO u3) := by
      rw [rest_yes (by rw [s6]; decide), s2, s4]
      rfl
    refine lv_istore (lv' := [(5, .int pl), (3, .long (asks (og0 u))), (2, .ref (ad2 0)), (0, .ref b)]) hx hb dL_law_431 hl (by decide) rfl (fun ls hl => ?_)
    refine lv_aload_n hx hb dL_law_433 rfl (lv_at hl 2 rfl) ?_
    refine hcGlp (mc := 1644) (ms := 9864) (X := HX en ks vs) (wr := []) (wc := fun v => OW ca en ai2 ad2 bd2 v) (u := u3) (G := (asks (og0 u3), u3)) (As := [.ref (ad2 0)]) (rest := []) (HX_ok en ks vs) ⟨hx, hb, hml, hown, hts⟩ (kL_asks l hfl D ca en ks vs ai2 ad2 bd2 _ u3 s1.1) (va_cwS 1 hts mL_law_L_asks rfl rfl rfl (by decide +kernel) ⟨Nat.le_of_ble_eq_true rfl, Nat.le_of_ble_eq_true rfl⟩) hK hP hD hS hA (X_now (HX_ok en ks vs) hX hS (J_free (wr := []) (List.Perm.refl _) hD hS hA)) (List.Perm.refl _) rfl hl.1 rfl (Nat.le_of_ble_eq_true rfl) ⟨by show _ ≤ 600516; omega, by show _ ≤ 7280964; omega⟩ dL_law_434 (fun H locs hP hD hS => ?_)
    refine W.widen (k := (1000 + 10692)) (n := (7000 + 64502)) (by omega) (by omega) ?_
    refine lv_lload_n hx hb dL_law_437 rfl (lv_at hl 1 rfl) ?_
    refine W.lcmp hx hb dL_law_438 ?_
    refine lv_to (y := 0) (by rw [ho3]; exact lg_self _) ?_
    refine lv_if_ne (tgt := 460) hx hb dL_law_439 (by decide) (fun q => absurd rfl q) (fun _ => ?_)
    refine lv_aload_n hx hb dL_law_442 rfl (lv_at hl 2 rfl) ?_
    refine hcLi (wr := []) (u := u3) (G := (pl, (resO u3))) (As := [.ref (ad2 0)]) (rest := []) ⟨hx, hb, hml, hown, hts⟩ (by rw [← hr9]; exact kL_restore l hfl D ca en ks vs ai2 ad2 bd2 _ u3 s1.1) (vx_cwSW 1 hts mL_law_L_restore rfl rfl rfl (by decide +kernel) ⟨Nat.le_of_ble_eq_true rfl, Nat.le_of_ble_eq_true rfl⟩) hK hP hD hS hA hX (List.Perm.refl _) rfl hl.1 rfl (Nat.le_of_ble_eq_true rfl) ⟨by show _ ≤ 600516; omega, by show _ ≤ 7280964; omega⟩ dL_law_443 (fun H locs hP hD hS => ?_)
    refine W.widen (k := (1000 + 10694)) (n := (7000 + 64514)) (by omega) (by omega) ?_
    refine lv_iload hx hb dL_law_446 (lv_at hl 0 rfl) ?_
    refine lv_icmp_ne (tgt := 460) hx hb dL_law_448 (by decide) (fun q => absurd rfl q) (fun _ => ?_)
    refine lv_aload_n hx hb dL_law_451 rfl (lv_at hl 2 rfl) ?_
    refine hcGlp (mc := 1644) (ms := 9864) (X := HX en ks vs) (wr := []) (wc := fun v => OW ca en ai2 ad2 bd2 v) (u := (resO u3)) (G := (asks (og0 (resO u3)), (resO u3))) (As := [.ref (ad2 0)]) (rest := []) (HX_ok en ks vs) ⟨hx, hb, hml, hown, hts⟩ (kL_asks l hfl D ca en ks vs ai2 ad2 bd2 _ (resO u3) r1.1) (va_cwS 1 hts mL_law_L_asks rfl rfl rfl (by decide +kernel) ⟨Nat.le_of_ble_eq_true rfl, Nat.le_of_ble_eq_true rfl⟩) hK hP hD hS hA (X_now (HX_ok en ks vs) hX hS (J_free (wr := []) (List.Perm.refl _) hD hS hA)) (List.Perm.refl _) rfl hl.1 rfl (Nat.le_of_ble_eq_true rfl) ⟨by show _ ≤ 600516; omega, by show _ ≤ 7280964; omega⟩ dL_law_452 (fun H locs hP hD hS => ?_)
    refine W.widen (k := (1000 + 12338)) (n := (7000 + 74378)) (by omega) (by omega) ?_
    refine lv_lload_n hx hb dL_law_455 rfl (lv_at hl 1 rfl) ?_
    refine W.lcmp hx hb dL_law_456 ?_
    refine lv_to (y := 0) (by rw [r2, ho4]; exact lg_self _) ?_
    refine lv_if_eq (tgt := 462) hx hb dL_law_457 (by decide) (fun _ => ?_) (fun q => absurd rfl q) 
    refine lv_bipush (v := 9) hx hb dL_law_462 (by decide) ?_
    refine newl 9 hx hb (hts _ oL_arr) hK hP hD hS hA (by decide) (by decide) (by decide) (by show _ ≤ 600516; omega) (by show _ ≤ 7280964; omega) dL_law_464 (fun q9 H hP hD hS => ?_)
    refine W.widen (k := (1000 + 12339)) (n := (7000 + 74387)) (by omega) (by omega) ?_
    have hP : va_P D vwCl (WA ca q9 (fun _ => 0) ++ OW ca en ai2 ad2 bd2 (resO u3)) H := P_perm List.perm_append_comm hP
    have hD : va_D A (WA ca q9 (fun _ => 0) ++ OW ca en ai2 ad2 bd2 (resO u3)) := D_perm List.perm_append_comm hD
    refine lv_astore (lv' := [(6, .ref q9), (5, .int pl), (3, .long (asks (og0 u))), (2, .ref (ad2 0)), (0, .ref b)]) hx hb dL_law_466 hl (by decide) rfl (fun ls hl => ?_)
    refine lv_iconst (v := 0) hx hb dL_law_468 (by decide) ?_
    refine lv_istore (lv' := [(7, .int 0), (6, .ref q9), (5, .int pl), (3, .long (asks (og0 u))), (2, .ref (ad2 0)), (0, .ref b)]) hx hb dL_law_469 hl (by decide) rfl (fun ls hl => ?_)
    refine lv_iconst (v := 0) hx hb dL_law_471 (by decide) ?_
    refine lv_istore (lv' := [(8, .int 0), (7, .int 0), (6, .ref q9), (5, .int pl), (3, .long (asks (og0 u))), (2, .ref (ad2 0)), (0, .ref b)]) hx hb dL_law_472 hl (by decide) rfl (fun ls hl => ?_)
    have c544 : ∀ (wf : Nat → Int64) (dn : Nat) (hdn : dn ≤ 8) (n : Int) (Lc : List HS) (k : Nat) (hk : k + Lc.length = dn + 1) (v : OS) (hv : LI n Lc v) (h1 : og1 v = og0 u) (h8 : og8 v = 1) (g1 : GI n (og0 u)) (hW : WAS Lc wf) (H : Heap) (locs : List Loc) (hP : va_P D vwCl (WA ca q9 wf ++ OW ca en ai2 ad2 bd2 v) H) (hD : va_D A (WA ca q9 wf ++ OW ca en ai2 ad2 bd2 v)) (hS : va_S A s.heap H locs) (ls : Array Slot) (hl : lv_has ls 11 [(8, .int (nI k)), (7, .int (nI dn)), (6, .ref q9), (5, .int pl), (3, .long (asks (og0 u))), (2, .ref (ad2 0)), (0, .ref b)]), W p l e room_1 s m #[Value.ref b] below meth c H locs (41360 + 1650 * k) (6 * (41360 + 1650 * k)) (lw_Z below #[Value.ref b] s) (F0 m 544 ls []) := by
      intro wf dn hdn n Lc
      induction Lc with
      | nil =>
        intro k hk v hv h1 h8 g1 hW H locs hP hD hS ls hl
        have hk : k = dn + 1 := by simpa using hk
        obtain ⟨r1, r2, r3, r4, r5⟩ := rest_LI hv (by rw [h1]; exact g1)
        have hr9 : wrp (fX5_restore v) = (pl, resO v) := by
          rw [rest_yes (by rw [h8]; decide), h1, s2, ← ho2]
          rfl
        have hz1 : wrp (fX5_undo v) = (-1001, v) := by
          rw [undo_no hv.2.2.2]
          rfl
        have hz2 : wrp (fX5_undo (resO v)) = (-1001, resO v) := by
          rw [undo_no r1.2.2.2]
          rfl
        refine lv_iload hx hb dL_law_544 (lv_at hl 0 rfl) ?_
        refine lv_iload hx hb dL_law_546 (lv_at hl 1 rfl) ?_
        refine lv_icmp_gt (tgt := 587) hx hb dL_law_548 (by decide) (fun _ => ?_) (fun q => absurd (show nI dn < nI k from nI_lt (by omega) (by omega)) q) 
        refine lv_aload_n hx hb dL_law_587 rfl (lv_at hl 5 rfl) ?_
        refine hcLi (wr := (WA ca q9 wf)) (u := v) (G := ((-1001), v)) (As := [.ref (ad2 0)]) (rest := []) ⟨hx, hb, hml, hown, hts⟩ (by rw [← hz1]; exact kL_undo l hfl D ca en ks vs ai2 ad2 bd2 _ v hv.1) (vx_cwSW 1 hts mL_law_L_undo rfl rfl rfl (by decide +kernel) ⟨Nat.le_of_ble_eq_true rfl, Nat.le_of_ble_eq_true rfl⟩) hK hP hD hS hA hX (List.Perm.refl _) rfl hl.1 rfl (Nat.le_of_ble_eq_true rfl) ⟨by show _ ≤ 600516; omega, by show _ ≤ 7280964; omega⟩ dL_law_588 (fun H locs hP hD hS => ?_)
        refine W.widen (k := ((41360 + 1650 * k) + 2)) (n := ((6 * (41360 + 1650 * k)) + 12)) (by omega) (by omega) ?_
        refine lv_sipush (v := (-1001)) hx hb dL_law_591 (by decide) ?_
        refine lv_icmp_ne (tgt := 629) hx hb dL_law_594 (by decide) (fun q => absurd rfl q) (fun _ => ?_)
        refine lv_aload_n hx hb dL_law_597 rfl (lv_at hl 5 rfl) ?_
        refine hcLi (wr := (WA ca q9 wf)) (u := v) (G := (pl, (resO v))) (As := [.ref (ad2 0)]) (rest := []) ⟨hx, hb, hml, hown, hts⟩ (by rw [← hr9]; exact kL_restore l hfl D ca en ks vs ai2 ad2 bd2 _ v hv.1) (vx_cwSW 1 hts mL_law_L_restore rfl rfl rfl (by decide +kernel) ⟨Nat.le_of_ble_eq_true rfl, Nat.le_of_ble_eq_true rfl⟩) hK hP hD hS hA hX (List.Perm.refl _) rfl hl.1 rfl (Nat.le_of_ble_eq_true rfl) ⟨by show _ ≤ 600516; omega, by show _ ≤ 7280964; omega⟩ dL_law_598 (fun H locs hP hD hS => ?_)
        refine W.widen (k := ((41360 + 1650 * k) + 4)) (n := ((6 * (41360 + 1650 * k)) + 24)) (by omega) (by omega) ?_
        refine lv_iload hx hb dL_law_601 (lv_at hl 3 rfl) ?_
        refine lv_icmp_ne (tgt := 629) hx hb dL_law_603 (by decide) (fun q => absurd rfl q) (fun _ => ?_)
        refine lv_aload_n hx hb dL_law_606 rfl (lv_at hl 5 rfl) ?_
        refine hcGlp (mc := 1644) (ms := 9864) (X := HX en ks vs) (wr := (WA ca q9 wf)) (wc := fun v => OW ca en ai2 ad2 bd2 v) (u := (resO v)) (G := (asks (og0 (resO v)), (resO v))) (As := [.ref (ad2 0)]) (rest := []) (HX_ok en ks vs) ⟨hx, hb, hml, hown, hts⟩ (kL_asks l hfl D ca en ks vs ai2 ad2 bd2 _ (resO v) r1.1) (va_cwS 1 hts mL_law_L_asks rfl rfl rfl (by decide +kernel) ⟨Nat.le_of_ble_eq_true rfl, Nat.le_of_ble_eq_true rfl⟩) hK hP hD hS hA (X_now (HX_ok en ks vs) hX hS (J_free (wr := (WA ca q9 wf)) (List.Perm.refl _) hD hS hA)) (List.Perm.refl _) rfl hl.1 rfl (Nat.le_of_ble_eq_true rfl) ⟨by show _ ≤ 600516; omega, by show _ ≤ 7280964; omega⟩ dL_law_607 (fun H locs hP hD hS => ?_)
        refine W.widen (k := ((41360 + 1650 * k) + 1648)) (n := ((6 * (41360 + 1650 * k)) + 9888)) (by omega) (by omega) ?_
        refine lv_lload_n hx hb dL_law_610 rfl (lv_at hl 4 rfl) ?_
        refine W.lcmp hx hb dL_law_611 ?_
        refine lv_to (y := 0) (by rw [r2, h1]; exact lg_self _) ?_
        refine lv_if_ne (tgt := 629) hx hb dL_law_612 (by decide) (fun q => absurd rfl q) (fun _ => ?_)
        refine lv_aload_n hx hb dL_law_615 rfl (lv_at hl 5 rfl) ?_
        refine hcLi (wr := (WA ca q9 wf)) (u := (resO v)) (G := ((-1001), (resO v))) (As := [.ref (ad2 0)]) (rest := []) ⟨hx, hb, hml, hown, hts⟩ (by rw [← hz2]; exact kL_undo l hfl D ca en ks vs ai2 ad2 bd2 _ (resO v) r1.1) (vx_cwSW 1 hts mL_law_L_undo rfl rfl rfl (by decide +kernel) ⟨Nat.le_of_ble_eq_true rfl, Nat.le_of_ble_eq_true rfl⟩) hK hP hD hS hA hX (List.Perm.refl _) rfl hl.1 rfl (Nat.le_of_ble_eq_true rfl) ⟨by show _ ≤ 600516; omega, by show _ ≤ 7280964; omega⟩ dL_law_616 (fun H locs hP hD hS => ?_)
        refine W.widen (k := ((41360 + 1650 * k) + 1650)) (n := ((6 * (41360 + 1650 * k)) + 9900)) (by omega) (by omega) ?_
        refine lv_sipush (v := (-1001)) hx hb dL_law_619 (by decide) ?_
        refine lv_icmp_ne (tgt := 629) hx hb dL_law_622 (by decide) (fun q => absurd rfl q) (fun _ => ?_)
        refine lv_iconst (v := 1) hx hb dL_law_625 (by decide) ?_
        refine lv_goto (tgt := 630) hx hb dL_law_626 (by decide) ?_
        refine va_forget (fun q h => (by have h9 := hS.2.2 q h; rw [hAd] at h9; exact h9)) ?_
        refine W.widen (k := 600516) (n := 7280964) (by omega) (by omega) ?_
        exact W.base (lw_ret (Drawn.sameBut.refl s.drawn lw_cs) hx hb hr hlocks dL_law_630)
      | cons x L1 ih =>
        intro k hk v hv h1 h8 g1 hW H locs hP hD hS ls hl
        have hk : k + L1.length = dn := by
          rw [List.length_cons] at hk
          omega
        obtain ⟨u1, u2, u3, u4, u5, u6⟩ := LI_undo hv
        have hz1 : wrp (fX5_undo v) = (nI (dn - k), undO v) := by
          rw [u1, show L1.length = dn - k by omega]
          rfl
        have hw0 : wf (dn - k) = asks x := by
          have h := hW 0 x rfl
          rw [List.length_cons, show L1.length + 1 - 1 - 0 = dn - k by omega] at h
          exact h
        refine lv_iload hx hb dL_law_544 (lv_at hl 0 rfl) ?_
        refine lv_iload hx hb dL_law_546 (lv_at hl 1 rfl) ?_
        refine lv_icmp_gt (tgt := 587) hx hb dL_law_548 (by decide) (fun q => absurd q (show ¬ nI dn < nI k from nI_nlt (by omega) (by omega))) (fun _ => ?_)
        refine lv_aload_n hx hb dL_law_551 rfl (lv_at hl 5 rfl) ?_
        refine hcLi (wr := (WA ca q9 wf)) (u := v) (G := ((nI (dn - k)), (undO v))) (As := [.ref (ad2 0)]) (rest := []) ⟨hx, hb, hml, hown, hts⟩ (by rw [← hz1]; exact kL_undo l hfl D ca en ks vs ai2 ad2 bd2 _ v hv.1) (vx_cwSW 1 hts mL_law_L_undo rfl rfl rfl (by decide +kernel) ⟨Nat.le_of_ble_eq_true rfl, Nat.le_of_ble_eq_true rfl⟩) hK hP hD hS hA hX (List.Perm.refl _) rfl hl.1 rfl (Nat.le_of_ble_eq_true rfl) ⟨by show _ ≤ 600516; omega, by show _ ≤ 7280964; omega⟩ dL_law_552 (fun H locs hP hD hS => ?_)
        refine W.widen (k := ((41360 + 1650 * k) + 2)) (n := ((6 * (41360 + 1650 * k)) + 12)) (by omega) (by omega) ?_
        refine lv_iload hx hb dL_law_555 (lv_at hl 1 rfl) ?_
        refine lv_iload hx hb dL_law_557 (lv_at hl 0 rfl) ?_
        refine lv_isub hx hb dL_law_559 ?_
        refine lv_to (y := (nI (dn - k))) (pk_sub (by omega)) ?_
        refine lv_icmp_ne (tgt := 579) hx hb dL_law_560 (by decide) (fun q => absurd rfl q) (fun _ => ?_)
        refine lv_aload_n hx hb dL_law_563 rfl (lv_at hl 5 rfl) ?_
        refine hcGlp (mc := 1644) (ms := 9864) (X := HX en ks vs) (wr := (WA ca q9 wf)) (wc := fun v => OW ca en ai2 ad2 bd2 v) (u := (undO v)) (G := (asks (og0 (undO v)), (undO v))) (As := [.ref (ad2 0)]) (rest := []) (HX_ok en ks vs) ⟨hx, hb, hml, hown, hts⟩ (kL_asks l hfl D ca en ks vs ai2 ad2 bd2 _ (undO v) u3.1) (va_cwS 1 hts mL_law_L_asks rfl rfl rfl (by decide +kernel) ⟨Nat.le_of_ble_eq_true rfl, Nat.le_of_ble_eq_true rfl⟩) hK hP hD hS hA (X_now (HX_ok en ks vs) hX hS (J_free (wr := (WA ca q9 wf)) (List.Perm.refl _) hD hS hA)) (List.Perm.refl _) rfl hl.1 rfl (Nat.le_of_ble_eq_true rfl) ⟨by show _ ≤ 600516; omega, by show _ ≤ 7280964; omega⟩ dL_law_564 (fun H locs hP hD hS => ?_)
        refine W.widen (k := ((41360 + 1650 * k) + 1646)) (n := ((6 * (41360 + 1650 * k)) + 9876)) (by omega) (by omega) ?_
        refine lv_aload hx hb dL_law_567 (lv_at hl 2 rfl) ?_
        refine lv_iload hx hb dL_law_569 (lv_at hl 1 rfl) ?_
        refine lv_iload hx hb dL_law_571 (lv_at hl 0 rfl) ?_
        refine lv_isub hx hb dL_law_573 ?_
        refine lv_to (y := (nI (dn - k))) (pk_sub (by omega)) ?_
        refine va_lald hx hb hK hP 0 1 rfl rfl (vp_in_nI (by omega) (by omega)) dL_law_574 ?_
        refine W.lcmp hx hb dL_law_575 ?_
        refine lv_to (y := 0) (by rw [nI_clamp (by omega), hw0, u2]; exact lg_self _) ?_
        refine lv_if_eq (tgt := 581) hx hb dL_law_576 (by decide) (fun _ => ?_) (fun q => absurd rfl q) 
        refine lv_iinc (v := nI (k + 1)) (lv' := [(8, .int (nI (k + 1))), (7, .int (nI dn)), (6, .ref q9), (5, .int pl), (3, .long (asks (og0 u))), (2, .ref (ad2 0)), (0, .ref b)]) hx hb dL_law_581 hl (k := 0) rfl (nI_1 k) (by decide) rfl (fun ls hl => ?_)
        refine lv_goto (tgt := 544) hx hb dL_law_584 (by decide) ?_
        refine W.widen (k := (41360 + 1650 * (k + 1))) (n := (6 * (41360 + 1650 * (k + 1)))) (by omega) (by omega) ?_
        exact ih (k + 1) (by omega) (undO v) u3 (u4.trans h1) (u6.trans h8) g1 (WAS_tail hW) _ _ hP hD hS ls (lv_sub hl [0, 1, 2, 3, 4, 5, 6] rfl)
    have c474 : ∀ (q i : Nat) (hqi : q + i = 8) (v : OS) (LW : List HS) (wf : Nat → Int64) (n : Int) (hn0 : 60 ≤ n) (hn : n ≤ 60 + 600 * (i : Int)) (hv : LI n LW v) (hlen : LW.length ≤ i) (h1 : og1 v = og0 u) (h8 : og8 v = 1) (hq : q1 (og5 v) = 0) (hW : WAS LW wf) (H : Heap) (locs : List Loc) (hP : va_P D vwCl (WA ca q9 wf ++ OW ca en ai2 ad2 bd2 v) H) (hD : va_D A (WA ca q9 wf ++ OW ca en ai2 ad2 bd2 v)) (hS : va_S A s.heap H locs) (ls : Array Slot) (hl : lv_has ls 11 [(8, .int (nI i)), (7, .int (nI LW.length)), (6, .ref q9), (5, .int pl), (3, .long (asks (og0 u))), (2, .ref (ad2 0)), (0, .ref b)]), W p l e room_1 s m #[Value.ref b] below meth c H locs (14000 + 3420 * i) (6 * (14000 + 3420 * i)) (lw_Z below #[Value.ref b] s) (F0 m 474 ls []) := by
      intro q
      induction q with
      | zero =>
        intro i hqi v LW wf n hn0 hn hv hlen h1 h8 hq hW H locs hP hD hS ls hl
        obtain rfl : 8 = i := by omega
        refine lv_iload hx hb dL_law_474 (lv_at hl 0 rfl) ?_
        refine lv_bipush (v := 8) hx hb dL_law_476 (by decide) ?_
        refine lv_icmp_ge (tgt := 541) hx hb dL_law_478 (by decide) (fun _ => ?_) (fun q => absurd (by decide) q) 
        refine lv_iconst (v := 1) hx hb dL_law_541 (by decide) ?_
        refine lv_istore (lv' := [(8, .int 1), (7, .int (nI LW.length)), (6, .ref q9), (5, .int pl), (3, .long (asks (og0 u))), (2, .ref (ad2 0)), (0, .ref b)]) hx hb dL_law_542 hl (by decide) rfl (fun ls hl => ?_)
        refine W.widen (k := (41360 + 1650 * 1)) (n := (6 * (41360 + 1650 * 1))) (by omega) (by omega) ?_
        exact c544 wf LW.length hlen n LW 1 (by omega) v hv h1 h8 (GI_mono hu.2.1 hn0) hW _ _ hP hD hS ls (lv_sub hl [0, 1, 2, 3, 4, 5, 6] rfl)
      | succ q ih =>
        intro i hqi v LW wf n hn0 hn hv hlen h1 h8 hq hW H locs hP hD hS ls hl
        refine lv_iload hx hb dL_law_474 (lv_at hl 0 rfl) ?_
        refine lv_bipush (v := 8) hx hb dL_law_476 (by decide) ?_
        refine lv_icmp_ge (tgt := 541) hx hb dL_law_478 (by decide) (fun q => absurd q (show ¬ (8 : Int32) ≤ nI i from nI_ge (b := 8) (by omega) (by decide))) (fun _ => ?_)
        refine lv_aload_n hx hb dL_law_481 rfl (lv_at hl 5 rfl) ?_
        refine hcGlp (mc := 1644) (ms := 9864) (X := HX en ks vs) (wr := (WA ca q9 wf)) (wc := fun v => OW ca en ai2 ad2 bd2 v) (u := v) (G := (asks (og0 v), v)) (As := [.ref (ad2 0)]) (rest := []) (HX_ok en ks vs) ⟨hx, hb, hml, hown, hts⟩ (kL_asks l hfl D ca en ks vs ai2 ad2 bd2 _ v hv.1) (va_cwS 1 hts mL_law_L_asks rfl rfl rfl (by decide +kernel) ⟨Nat.le_of_ble_eq_true rfl, Nat.le_of_ble_eq_true rfl⟩) hK hP hD hS hA (X_now (HX_ok en ks vs) hX hS (J_free (wr := (WA ca q9 wf)) (List.Perm.refl _) hD hS hA)) (List.Perm.refl _) rfl hl.1 rfl (Nat.le_of_ble_eq_true rfl) ⟨by show _ ≤ 600516; omega, by show _ ≤ 7280964; omega⟩ dL_law_482 (fun H locs hP hD hS => ?_)
        refine W.widen (k := ((14000 + 3420 * i) + 1644)) (n := ((6 * (14000 + 3420 * i)) + 9864)) (by omega) (by omega) ?_
        refine lv_lstore (lv' := [(9, .long (asks (og0 v))), (8, .int (nI i)), (7, .int (nI LW.length)), (6, .ref q9), (5, .int pl), (3, .long (asks (og0 u))), (2, .ref (ad2 0)), (0, .ref b)]) hx hb dL_law_485 hl (by decide) rfl (fun ls hl => ?_)
        refine lv_aload_n hx hb dL_law_487 rfl (lv_at hl 6 rfl) ?_
        refine lv_aload_n hx hb dL_law_488 rfl (lv_at hl 7 rfl) ?_
        refine lv_bipush (v := 20) hx hb dL_law_489 (by decide) ?_
        refine lv_iload hx hb dL_law_491 (lv_at hl 1 rfl) ?_
        refine lv_iadd hx hb dL_law_493 ?_
        refine lv_to (y := (nI (20 + i))) (nI_add 20 i) ?_
        refine hcTSi (v := fAt nn f (20 + i)) (As := [.ref b, .int (nI (20 + i))]) (rest := [.ref (ad2 0)]) ⟨hx, hb, hml, hown, hts⟩ (kL_at2 l b nn f (20 + i) (by omega) (by omega)) (va_cwS 2 hts mL_law_L_at rfl rfl rfl (by decide +kernel) ⟨Nat.le_of_ble_eq_true rfl, Nat.le_of_ble_eq_true rfl⟩) (SX_pre hS hSX) rfl hl.1 rfl (Nat.le_of_ble_eq_true rfl) ⟨by show _ ≤ 600516; omega, by show _ ≤ 7280964; omega⟩ dL_law_494 ?_
        refine lv_iload hx hb dL_law_497 (lv_at hl 1 rfl) ?_
        refine lv_sipush (v := 977) hx hb dL_law_499 (by decide) ?_
        refine lv_imul hx hb dL_law_502 ?_
        refine lv_ixor hx hb dL_law_503 ?_
        refine hcGi (mc := 130) (ms := 780) (X := YX en ks vs lk lv) (wr := (WA ca q9 wf)) (wc := fun v => OW ca en ai2 ad2 bd2 v) (u := v) (As := [.ref (ad2 0), .int ((fAt nn f (20 + i)) ^^^ ((nI i) * 977))]) (rest := []) (YX_ok en ks vs lk lv) ⟨hx, hb, hml, hown, hts⟩ (kL_changes l hfl D ca en ks vs ai2 ad2 bd2 lk lv _ v (fAt nn f (20 + i) ^^^ (nI i * 977)) n LW (by omega) hv (by omega) hq) (va_cwS 2 hts mL_law_L_changes rfl rfl rfl (by decide +kernel) ⟨Nat.le_of_ble_eq_true rfl, Nat.le_of_ble_eq_true rfl⟩) hK hP hD hS hA (X_now (YX_ok en ks vs lk lv) hY hS (J_free (wr := (WA ca q9 wf)) (List.Perm.refl _) hD hS hA)) (List.Perm.refl _) rfl hl.1 rfl (Nat.le_of_ble_eq_true rfl) ⟨by show _ ≤ 600516; omega, by show _ ≤ 7280964; omega⟩ dL_law_504 (fun H locs r v2 hG hP hD hS => ?_)
        refine W.widen (k := ((14000 + 3420 * i) + 1774)) (n := ((6 * (14000 + 3420 * i)) + 10644)) (by omega) (by omega) ?_
        rcases hG with ⟨rfl, a1, a2, a3, a4, a5⟩ | ⟨rfl, a1, a3, a4, a5⟩
        · refine lv_if_eq (tgt := 523) hx hb dL_law_507 (by decide) (fun _ => ?_) (fun q => absurd rfl q) 
          refine lv_aload_n hx hb dL_law_523 rfl (lv_at hl 6 rfl) ?_
          refine hcGlp (mc := 1644) (ms := 9864) (X := HX en ks vs) (wr := (WA ca q9 wf)) (wc := fun v => OW ca en ai2 ad2 bd2 v) (u := v2) (G := (asks (og0 v2), v2)) (As := [.ref (ad2 0)]) (rest := []) (HX_ok en ks vs) ⟨hx, hb, hml, hown, hts⟩ (kL_asks l hfl D ca en ks vs ai2 ad2 bd2 _ v2 a1.1) (va_cwS 1 hts mL_law_L_asks rfl rfl rfl (by decide +kernel) ⟨Nat.le_of_ble_eq_true rfl, Nat.le_of_ble_eq_true rfl⟩) hK hP hD hS hA (X_now (HX_ok en ks vs) hX hS (J_free (wr := (WA ca q9 wf)) (List.Perm.refl _) hD hS hA)) (List.Perm.refl _) rfl hl.1 rfl (Nat.le_of_ble_eq_true rfl) ⟨by show _ ≤ 600516; omega, by show _ ≤ 7280964; omega⟩ dL_law_524 (fun H locs hP hD hS => ?_)
          refine W.widen (k := ((14000 + 3420 * i) + 3418)) (n := ((6 * (14000 + 3420 * i)) + 20508)) (by omega) (by omega) ?_
          refine lv_lload hx hb dL_law_527 (lv_at hl 0 rfl) ?_
          refine W.lcmp hx hb dL_law_529 ?_
          refine lv_to (y := 0) (by rw [a2]; exact lg_self _) ?_
          refine lv_if_eq (tgt := 535) hx hb dL_law_530 (by decide) (fun _ => ?_) (fun q => absurd rfl q) 
          refine lv_iinc (v := nI (i + 1)) (lv' := [(8, .int (nI (i + 1))), (9, .long (asks (og0 v))), (7, .int (nI LW.length)), (6, .ref q9), (5, .int pl), (3, .long (asks (og0 u))), (2, .ref (ad2 0)), (0, .ref b)]) hx hb dL_law_535 hl (k := 1) rfl (nI_1 i) (by decide) rfl (fun ls hl => ?_)
          refine lv_goto (tgt := 474) hx hb dL_law_538 (by decide) ?_
          refine W.widen (k := (14000 + 3420 * (i + 1))) (n := (6 * (14000 + 3420 * (i + 1)))) (by omega) (by omega) ?_
          exact ih (i + 1) (by omega) v2 LW wf n hn0 (by omega) a1 (by omega) (a3.trans h1) (a4.trans h8) a5 hW _ _ hP hD hS ls (lv_sub hl [0, 2, 3, 4, 5, 6, 7] rfl)
        · refine lv_if_eq (tgt := 523) hx hb dL_law_507 (by decide) (fun q => absurd q (by decide)) (fun _ => ?_)
          refine lv_aload hx hb dL_law_510 (lv_at hl 3 rfl) ?_
          refine lv_iload hx hb dL_law_512 (lv_at hl 2 rfl) ?_
          refine lv_iinc (v := nI (LW.length + 1)) (lv' := [(7, .int (nI (LW.length + 1))), (9, .long (asks (og0 v))), (8, .int (nI i)), (6, .ref q9), (5, .int pl), (3, .long (asks (og0 u))), (2, .ref (ad2 0)), (0, .ref b)]) hx hb dL_law_514 hl (k := 2) rfl (nI_1 _) (by decide) rfl (fun ls hl => ?_)
          refine lv_lload hx hb dL_law_517 (lv_at hl 1 rfl) ?_
          refine va_last hx hb hK hP hD hS 0 1 rfl rfl (vp_in_nI (by omega) (by omega)) dL_law_519 (fun H locs hP hD hS => ?_)
          have e9 : (nI LW.length).toNatClampNeg = LW.length := nI_clamp (by omega)
          have hP : va_P D vwCl (WA ca q9 (vp_updL wf LW.length (asks (og0 v))) ++ OW ca en ai2 ad2 bd2 v2) H := by
            have h := hP
            rw [e9] at h
            exact h
          have hD : va_D A (WA ca q9 (vp_updL wf LW.length (asks (og0 v))) ++ OW ca en ai2 ad2 bd2 v2) := by
            have h := hD
            rw [e9] at h
            exact h
          refine lv_goto (tgt := 535) hx hb dL_law_520 (by decide) ?_
          refine lv_iinc (v := nI (i + 1)) (lv' := [(8, .int (nI (i + 1))), (7, .int (nI (LW.length + 1))), (9, .long (asks (og0 v))), (6, .ref q9), (5, .int pl), (3, .long (asks (og0 u))), (2, .ref (ad2 0)), (0, .ref b)]) hx hb dL_law_535 hl (k := 2) rfl (nI_1 i) (by decide) rfl (fun ls hl => ?_)
          refine lv_goto (tgt := 474) hx hb dL_law_538 (by decide) ?_
          refine W.widen (k := (14000 + 3420 * (i + 1))) (n := (6 * (14000 + 3420 * (i + 1)))) (by omega) (by omega) ?_
          exact ih (i + 1) (by omega) v2 (og0 v :: LW) (vp_updL wf LW.length (asks (og0 v))) (n + 600) (by omega) (by omega) a1 (by rw [List.length_cons]; omega) (a3.trans h1) (a4.trans h8) a5 (WAS_cons hW) _ _ hP hD hS ls (lv_sub hl [0, 1, 3, 4, 5, 6, 7] rfl)
    refine W.widen (k := (14000 + 3420 * 0)) (n := (6 * (14000 + 3420 * 0))) (by omega) (by omega) ?_
    exact c474 8 0 rfl (resO u3) [] (fun _ => 0) 60 (by decide) (by decide) r1 (by decide) (r3.trans ho4) (r5.trans s6) (by rw [r4, s5]; exact hq2) (fun j x h => (by cases h)) _ _ hP hD hS ls (lv_sub hl [0, 1, 2, 3, 4, 5, 6] rfl)
  refine W_entry (Nat.le_of_ble_eq_true rfl) (fun ls hl => ?_)
  have hl : lv_has ls 11 [(0, .ref b)] := hl
  have hS : va_S A s.heap s.heap [] := va_S.rf
  obtain ⟨H, hH⟩ : ∃ H, H = s.heap := ⟨_, rfl⟩
  have hS : va_S A s.heap H [] := by rw [hH]; exact hS
  have go : W p l e room_1 s m #[Value.ref b] below meth c H [] 0 0 (lw_Z below #[Value.ref b] s) (F0 m 0 ls []) := by
    refine va_new (ci := 6) (fs := [.null, .null, .null, .null, .null, .int 0, .int 0, .int 0, .int 0, .int 0]) (C := RX5) (T := TX5) (N := 10) hx hb hts inT_wsX50 tyX5 tyX5_ok hown (hts _ oL_link) (hts _ oL_inst) (hts _ oL_init) hK (H := H) (ws := []) (fun k q h => (by simp at h)) (A := A) ⟨fun i j p q h => (by simp at h), fun k q h => (by simp at h)⟩ hS hA rfl (fun j hj => by rcases (show j = 0 ∨ j = 1 ∨ j = 2 ∨ j = 3 ∨ j = 4 ∨ j = 5 ∨ j = 6 ∨ j = 7 ∨ j = 8 ∨ j = 9 by omega) with rfl | rfl | rfl | rfl | rfl | rfl | rfl | rfl | rfl | rfl <;> rfl) (by show _ ≤ 600516; omega) (by show _ ≤ 7280964; omega) dL_law_0 (fun n0 H hP hD hS => ?_)
    refine lv_dup hx hb dL_law_3 rfl ?_
    refine hcIGv (As := []) (rest := [.ref n0]) (wr := []) (HX_ok en ks vs) ⟨hx, hb, hml, hown, hts⟩ (kX5_init l D ca en ks vs n0 H.size) (cwI 0 hts mL_law_X5_init rfl rfl rfl (hts _ oL_init) (hts _ oL_ml) (hts _ oL_im) rfl (by decide +kernel) ⟨Nat.le_of_ble_eq_true rfl, Nat.le_of_ble_eq_true rfl⟩) hK hP hD hS hA hX (List.Perm.refl _) rfl hl.1 rfl (Nat.le_of_ble_eq_true rfl) ⟨by show _ ≤ 600516; omega, by show _ ≤ 7280964; omega⟩ dL_law_4 (fun z H locs e9 hP1 hD1 hS => ?_)
    obtain ⟨ai1, ad1, bd1⟩ := z
    have e9 : ad1 0 = n0 := e9
    subst e9
    refine W.widen (k := (0 + 108)) (n := (0 + 998)) (by omega) (by omega) ?_
    have hP : va_P D vwCl (OW ca en ai1 ad1 bd1 Onew) H := hP1
    have hD : va_D A (OW ca en ai1 ad1 bd1 Onew) := hD1
    refine lv_astore_n (lv' := [(1, .ref (ad1 0)), (0, .ref b)]) hx hb dL_law_7 rfl hl (by decide) rfl (fun ls hl => ?_)
    refine lv_aload_n hx hb dL_law_8 rfl (lv_at hl 0 rfl) ?_
    refine hcLi (wr := []) (u := Onew) (G := ((-1001), Onew)) (As := [.ref (ad1 0)]) (rest := []) ⟨hx, hb, hml, hown, hts⟩ (by rw [← (show wrp (fX5_undo Onew) = (-1001, Onew) from by rw [undo_no LI_new.2.2.2]; rfl)]; exact kL_undo l hfl D ca en ks vs ai1 ad1 bd1 _ Onew LI_new.1) (vx_cwSW 1 hts mL_law_L_undo rfl rfl rfl (by decide +kernel) ⟨Nat.le_of_ble_eq_true rfl, Nat.le_of_ble_eq_true rfl⟩) hK hP hD hS hA hX (List.Perm.refl _) rfl hl.1 rfl (Nat.le_of_ble_eq_true rfl) ⟨by show _ ≤ 600516; omega, by show _ ≤ 7280964; omega⟩ dL_law_9 (fun H locs hP hD hS => ?_)
    refine W.widen (k := (0 + 110)) (n := (0 + 1010)) (by omega) (by omega) ?_
    refine lv_sipush (v := (-1001)) hx hb dL_law_12 (by decide) ?_
    refine lv_icmp_ne (tgt := 46) hx hb dL_law_15 (by decide) (fun q => absurd rfl q) (fun _ => ?_)
    refine lv_aload_n hx hb dL_law_18 rfl (lv_at hl 0 rfl) ?_
    refine hcLi (wr := []) (u := Onew) (G := ((-1001), Onew)) (As := [.ref (ad1 0)]) (rest := []) ⟨hx, hb, hml, hown, hts⟩ (by rw [← (show wrp (fX5_restore Onew) = (-1001, Onew) from by rw [rest_no rfl]; rfl)]; exact kL_restore l hfl D ca en ks vs ai1 ad1 bd1 _ Onew LI_new.1) (vx_cwSW 1 hts mL_law_L_restore rfl rfl rfl (by decide +kernel) ⟨Nat.le_of_ble_eq_true rfl, Nat.le_of_ble_eq_true rfl⟩) hK hP hD hS hA hX (List.Perm.refl _) rfl hl.1 rfl (Nat.le_of_ble_eq_true rfl) ⟨by show _ ≤ 600516; omega, by show _ ≤ 7280964; omega⟩ dL_law_19 (fun H locs hP hD hS => ?_)
    refine W.widen (k := (0 + 112)) (n := (0 + 1022)) (by omega) (by omega) ?_
    refine lv_sipush (v := (-1001)) hx hb dL_law_22 (by decide) ?_
    refine lv_icmp_ne (tgt := 46) hx hb dL_law_25 (by decide) (fun q => absurd rfl q) (fun _ => ?_)
    refine lv_aload_n hx hb dL_law_28 rfl (lv_at hl 0 rfl) ?_
    refine hcMi (f := fun v => OW ca en ai1 ad1 bd1 v) (F := fX5_save Onew) (wr := []) (As := []) (rest := []) 0 6 ⟨hx, hb, hml, hown, hts⟩ (kX5_save l D ca en ks vs ai1 ad1 bd1 _ Onew) (cwV 0 hts mL_law_X5_save rfl rfl rfl (by decide +kernel) ⟨Nat.le_of_ble_eq_true rfl, Nat.le_of_ble_eq_true rfl⟩) hK hP hD hS hA (List.Perm.refl _) rfl rfl rfl hl.1 rfl (Nat.le_of_ble_eq_true rfl) ⟨by show _ ≤ 600516; omega, by show _ ≤ 7280964; omega⟩ dL_law_29 (fun H locs hP hD hS => ?_)
    have z0 := es_0
    have zs : (fX5_save Onew).1 = 0 := by decide +kernel
    generalize (fX5_save Onew).2 = w0 at z0 hP hD ⊢
    refine lv_to (y := 0) zs ?_
    obtain ⟨w1, y1, z1⟩ := es_pass (x := 60) (r := 60) z0 (by decide) (by decide +kernel) (by decide +kernel)
    refine lv_if_ne (tgt := 46) hx hb dL_law_32 (by decide) (fun q => absurd rfl q) (fun _ => ?_)
    refine lv_aload_n hx hb dL_law_35 rfl (lv_at hl 0 rfl) ?_
    refine lv_bipush (v := 60) hx hb dL_law_36 (by decide) ?_
    refine hcLi (wr := []) (u := w0) (G := (60, w1)) (As := [.ref (ad1 0), .int 60]) (rest := []) ⟨hx, hb, hml, hown, hts⟩ (by rw [← y1]; exact kL_pass l hfl D ca en ks vs ai1 ad1 bd1 _ w0 60 z0.1.1) (vx_cwSW 2 hts mL_law_L_pass rfl rfl rfl (by decide +kernel) ⟨Nat.le_of_ble_eq_true rfl, Nat.le_of_ble_eq_true rfl⟩) hK hP hD hS hA hX (List.Perm.refl _) rfl hl.1 rfl (Nat.le_of_ble_eq_true rfl) ⟨by show _ ≤ 600516; omega, by show _ ≤ 7280964; omega⟩ dL_law_38 (fun H locs hP hD hS => ?_)
    refine W.widen (k := (0 + 114)) (n := (0 + 1034)) (by omega) (by omega) ?_
    refine lv_bipush (v := 60) hx hb dL_law_41 (by decide) ?_
    refine lv_icmp_eq (tgt := 48) hx hb dL_law_43 (by decide) (fun _ => ?_) (fun q => absurd rfl q) 
    refine lv_iconst (v := 0) hx hb dL_law_48 (by decide) ?_
    refine lv_istore_n (lv' := [(2, .int 0), (1, .ref (ad1 0)), (0, .ref b)]) hx hb dL_law_49 rfl hl (by decide) rfl (fun ls hl => ?_)
    have c140 : ∀ (q k : Nat) (hqk : q + k = 8) (w : OS) (hE : ES 60 (eL k) (eH k) w eC3) (H : Heap) (locs : List Loc) (hP : va_P D vwCl (OW ca en ai1 ad1 bd1 w) H) (hD : va_D A (OW ca en ai1 ad1 bd1 w)) (hS : va_S A s.heap H locs) (ls : Array Slot) (hl : lv_has ls 11 [(2, .int (nI k)), (1, .ref (ad1 0)), (0, .ref b)]), W p l e room_1 s m #[Value.ref b] below meth c H locs (400 + 2 * k) (4000 + 12 * k) (lw_Z below #[Value.ref b] s) (F0 m 140 ls []) := by
      intro q
      induction q with
      | zero =>
        intro k hqk w hE H locs hP hD hS ls hl
        obtain rfl : 8 = k := by omega
        obtain ⟨v1, y1, f1⟩ := es_place (x := 0) (y := 5) (r := 5) hE eH_8.2.1 eH_8.2.2
        obtain ⟨v2, y2, f2⟩ := es_place (x := 1) (y := 0) (r := 3) f1 eH_9.1 eH_9.2
        obtain ⟨v3, y3, f3⟩ := es_contest (x := 7) (y := 5) f2 eH_10.1 rfl eH_10.2
        have f3 : ES 60 [eH10, eH9, eH 8, eH 7, eH 6, eH 5, eH 4, eH 3] eH11 v3 eC3 := f3
        obtain ⟨v4, y4, f4⟩ := es_undo f3
        have y4 : wrp (fX5_undo v3) = (7, v4) := y4
        obtain ⟨v5, y5, f5⟩ := es_undo f4
        have y5 : wrp (fX5_undo v4) = (6, v5) := y5
        obtain ⟨v6, y6, f6⟩ := es_undo f5
        have y6 : wrp (fX5_undo v5) = (5, v6) := y6
        obtain ⟨v7, y7, f7⟩ := es_undo f6
        have y7 : wrp (fX5_undo v6) = (4, v7) := y7
        obtain ⟨v8, y8, f8⟩ := es_undo f7
        have y8 : wrp (fX5_undo v7) = (3, v8) := y8
        obtain ⟨v9, y9, f9⟩ := es_undo f8
        have y9 : wrp (fX5_undo v8) = (2, v9) := y9
        obtain ⟨v10, y10, f10⟩ := es_undo f9
        have y10 : wrp (fX5_undo v9) = (1, v10) := y10
        obtain ⟨v11, y11, f11⟩ := es_undo f10
        have y11 : wrp (fX5_undo v10) = (0, v11) := y11
        obtain ⟨v12, y12, f12⟩ := es_restore f11 (by decide)
        refine lv_iload_n hx hb dL_law_140 rfl (lv_at hl 0 rfl) ?_
        refine lv_bipush (v := 8) hx hb dL_law_141 (by decide) ?_
        refine lv_icmp_ge (tgt := 164) hx hb dL_law_143 (by decide) (fun _ => ?_) (fun q => absurd (by decide) q) 
        refine lv_aload_n hx hb dL_law_164 rfl (lv_at hl 1 rfl) ?_
        refine lv_iconst (v := 0) hx hb dL_law_165 (by decide) ?_
        refine lv_iconst (v := 0) hx hb dL_law_166 (by decide) ?_
        refine hcLi (wr := []) (u := w) (G := ((-1002), w)) (As := [.ref (ad1 0), .int 0, .int 0]) (rest := []) ⟨hx, hb, hml, hown, hts⟩ (by rw [← es_no8 hE eH_8.1]; exact kL_addGuest l hfl D ca en ks vs ai1 ad1 bd1 _ w 0 0 hE.1.1) (vx_cwSW 3 hts mL_law_L_addGuest rfl rfl rfl (by decide +kernel) ⟨Nat.le_of_ble_eq_true rfl, Nat.le_of_ble_eq_true rfl⟩) hK hP hD hS hA hX (List.Perm.refl _) rfl hl.1 rfl (Nat.le_of_ble_eq_true rfl) ⟨by show _ ≤ 600516; omega, by show _ ≤ 7280964; omega⟩ dL_law_167 (fun H locs hP hD hS => ?_)
        refine W.widen (k := ((400 + 2 * 8) + 2)) (n := ((4000 + 12 * 8) + 12)) (by omega) (by omega) ?_
        refine lv_sipush (v := (-1002)) hx hb dL_law_170 (by decide) ?_
        refine lv_icmp_ne (tgt := 226) hx hb dL_law_173 (by decide) (fun q => absurd rfl q) (fun _ => ?_)
        refine lv_aload_n hx hb dL_law_176 rfl (lv_at hl 1 rfl) ?_
        refine lv_iconst (v := 0) hx hb dL_law_177 (by decide) ?_
        refine lv_iconst (v := 5) hx hb dL_law_178 (by decide) ?_
        refine hcLi (wr := []) (u := w) (G := (5, v1)) (As := [.ref (ad1 0), .int 0, .int 5]) (rest := []) ⟨hx, hb, hml, hown, hts⟩ (by rw [← y1]; exact kL_placeHat l hfl D ca en ks vs ai1 ad1 bd1 _ w 0 5 hE.1.1) (vx_cwSW 3 hts mL_law_L_placeHat rfl rfl rfl (by decide +kernel) ⟨Nat.le_of_ble_eq_true rfl, Nat.le_of_ble_eq_true rfl⟩) hK hP hD hS hA hX (List.Perm.refl _) rfl hl.1 rfl (Nat.le_of_ble_eq_true rfl) ⟨by show _ ≤ 600516; omega, by show _ ≤ 7280964; omega⟩ dL_law_179 (fun H locs hP hD hS => ?_)
        refine W.widen (k := ((400 + 2 * 8) + 4)) (n := ((4000 + 12 * 8) + 24)) (by omega) (by omega) ?_
        refine lv_iconst (v := 5) hx hb dL_law_182 (by decide) ?_
        refine lv_icmp_ne (tgt := 226) hx hb dL_law_183 (by decide) (fun q => absurd rfl q) (fun _ => ?_)
        refine lv_aload_n hx hb dL_law_186 rfl (lv_at hl 1 rfl) ?_
        refine lv_iconst (v := 1) hx hb dL_law_187 (by decide) ?_
        refine lv_iconst (v := 0) hx hb dL_law_188 (by decide) ?_
        refine hcLi (wr := []) (u := v1) (G := (3, v2)) (As := [.ref (ad1 0), .int 1, .int 0]) (rest := []) ⟨hx, hb, hml, hown, hts⟩ (by rw [← y2]; exact kL_placeHat l hfl D ca en ks vs ai1 ad1 bd1 _ v1 1 0 f1.1.1) (vx_cwSW 3 hts mL_law_L_placeHat rfl rfl rfl (by decide +kernel) ⟨Nat.le_of_ble_eq_true rfl, Nat.le_of_ble_eq_true rfl⟩) hK hP hD hS hA hX (List.Perm.refl _) rfl hl.1 rfl (Nat.le_of_ble_eq_true rfl) ⟨by show _ ≤ 600516; omega, by show _ ≤ 7280964; omega⟩ dL_law_189 (fun H locs hP hD hS => ?_)
        refine W.widen (k := ((400 + 2 * 8) + 6)) (n := ((4000 + 12 * 8) + 36)) (by omega) (by omega) ?_
        refine lv_iconst (v := 3) hx hb dL_law_192 (by decide) ?_
        refine lv_icmp_ne (tgt := 226) hx hb dL_law_193 (by decide) (fun q => absurd rfl q) (fun _ => ?_)
        refine lv_aload_n hx hb dL_law_196 rfl (lv_at hl 1 rfl) ?_
        refine lv_bipush (v := 7) hx hb dL_law_197 (by decide) ?_
        refine lv_iconst (v := 5) hx hb dL_law_199 (by decide) ?_
        refine hcLi (wr := []) (u := v2) (G := (1, v3)) (As := [.ref (ad1 0), .int 7, .int 5]) (rest := []) ⟨hx, hb, hml, hown, hts⟩ (by rw [← y3]; exact kL_contest l hfl D ca en ks vs ai1 ad1 bd1 _ v2 7 5 f2.1.1) (vx_cwSW 3 hts mL_law_L_contest rfl rfl rfl (by decide +kernel) ⟨Nat.le_of_ble_eq_true rfl, Nat.le_of_ble_eq_true rfl⟩) hK hP hD hS hA hX (List.Perm.refl _) rfl hl.1 rfl (Nat.le_of_ble_eq_true rfl) ⟨by show _ ≤ 600516; omega, by show _ ≤ 7280964; omega⟩ dL_law_200 (fun H locs hP hD hS => ?_)
        refine W.widen (k := ((400 + 2 * 8) + 8)) (n := ((4000 + 12 * 8) + 48)) (by omega) (by omega) ?_
        refine lv_iconst (v := 1) hx hb dL_law_203 (by decide) ?_
        refine lv_icmp_ne (tgt := 226) hx hb dL_law_204 (by decide) (fun q => absurd rfl q) (fun _ => ?_)
        refine lv_aload_n hx hb dL_law_207 rfl (lv_at hl 1 rfl) ?_
        refine lv_bipush (v := 7) hx hb dL_law_208 (by decide) ?_
        refine hcLi (wr := []) (u := v3) (G := (7, v3)) (As := [.ref (ad1 0), .int 7]) (rest := []) ⟨hx, hb, hml, hown, hts⟩ (by rw [← es_feathers f3 eH_11.1]; exact kL_feathers l hfl D ca en ks vs ai1 ad1 bd1 _ v3 7 f3.1.1) (vx_cwSW 2 hts mL_law_L_feathers rfl rfl rfl (by decide +kernel) ⟨Nat.le_of_ble_eq_true rfl, Nat.le_of_ble_eq_true rfl⟩) hK hP hD hS hA hX (List.Perm.refl _) rfl hl.1 rfl (Nat.le_of_ble_eq_true rfl) ⟨by show _ ≤ 600516; omega, by show _ ≤ 7280964; omega⟩ dL_law_210 (fun H locs hP hD hS => ?_)
        refine W.widen (k := ((400 + 2 * 8) + 10)) (n := ((4000 + 12 * 8) + 60)) (by omega) (by omega) ?_
        refine lv_bipush (v := 7) hx hb dL_law_213 (by decide) ?_
        refine lv_icmp_ne (tgt := 226) hx hb dL_law_215 (by decide) (fun q => absurd rfl q) (fun _ => ?_)
        refine lv_aload_n hx hb dL_law_218 rfl (lv_at hl 1 rfl) ?_
        refine lv_iconst (v := 0) hx hb dL_law_219 (by decide) ?_
        refine hcLi (wr := []) (u := v3) (G := (0, v3)) (As := [.ref (ad1 0), .int 0]) (rest := []) ⟨hx, hb, hml, hown, hts⟩ (by rw [← es_isPlaced f3 eH_11.2]; exact kL_isPlaced l hfl D ca en ks vs ai1 ad1 bd1 _ v3 0 f3.1.1) (vx_cwSW 2 hts mL_law_L_isPlaced rfl rfl rfl (by decide +kernel) ⟨Nat.le_of_ble_eq_true rfl, Nat.le_of_ble_eq_true rfl⟩) hK hP hD hS hA hX (List.Perm.refl _) rfl hl.1 rfl (Nat.le_of_ble_eq_true rfl) ⟨by show _ ≤ 600516; omega, by show _ ≤ 7280964; omega⟩ dL_law_220 (fun H locs hP hD hS => ?_)
        refine W.widen (k := ((400 + 2 * 8) + 12)) (n := ((4000 + 12 * 8) + 72)) (by omega) (by omega) ?_
        refine lv_if_eq (tgt := 228) hx hb dL_law_223 (by decide) (fun _ => ?_) (fun q => absurd rfl q) 
        refine lv_aload_n hx hb dL_law_228 rfl (lv_at hl 1 rfl) ?_
        refine hcLi (wr := []) (u := v3) (G := ((7), v4)) (As := [.ref (ad1 0)]) (rest := []) ⟨hx, hb, hml, hown, hts⟩ (by rw [← y4]; exact kL_undo l hfl D ca en ks vs ai1 ad1 bd1 _ v3 f3.1.1) (vx_cwSW 1 hts mL_law_L_undo rfl rfl rfl (by decide +kernel) ⟨Nat.le_of_ble_eq_true rfl, Nat.le_of_ble_eq_true rfl⟩) hK hP hD hS hA hX (List.Perm.refl _) rfl hl.1 rfl (Nat.le_of_ble_eq_true rfl) ⟨by show _ ≤ 600516; omega, by show _ ≤ 7280964; omega⟩ dL_law_229 (fun H locs hP hD hS => ?_)
        refine W.widen (k := ((400 + 2 * 8) + 14)) (n := ((4000 + 12 * 8) + 84)) (by omega) (by omega) ?_
        refine lv_bipush (v := 7) hx hb dL_law_232 (by decide) ?_
        refine lv_icmp_ne (tgt := 351) hx hb dL_law_234 (by decide) (fun q => absurd rfl q) (fun _ => ?_)
        refine lv_aload_n hx hb dL_law_237 rfl (lv_at hl 1 rfl) ?_
        refine lv_iconst (v := 0) hx hb dL_law_238 (by decide) ?_
        refine hcLi (wr := []) (u := v4) (G := (1, v4)) (As := [.ref (ad1 0), .int 0]) (rest := []) ⟨hx, hb, hml, hown, hts⟩ (by rw [← es_isPlaced f4 eH_u.1]; exact kL_isPlaced l hfl D ca en ks vs ai1 ad1 bd1 _ v4 0 f4.1.1) (vx_cwSW 2 hts mL_law_L_isPlaced rfl rfl rfl (by decide +kernel) ⟨Nat.le_of_ble_eq_true rfl, Nat.le_of_ble_eq_true rfl⟩) hK hP hD hS hA hX (List.Perm.refl _) rfl hl.1 rfl (Nat.le_of_ble_eq_true rfl) ⟨by show _ ≤ 600516; omega, by show _ ≤ 7280964; omega⟩ dL_law_239 (fun H locs hP hD hS => ?_)
        refine W.widen (k := ((400 + 2 * 8) + 16)) (n := ((4000 + 12 * 8) + 96)) (by omega) (by omega) ?_
        refine lv_iconst (v := 1) hx hb dL_law_242 (by decide) ?_
        refine lv_icmp_ne (tgt := 351) hx hb dL_law_243 (by decide) (fun q => absurd rfl q) (fun _ => ?_)
        refine lv_aload_n hx hb dL_law_246 rfl (lv_at hl 1 rfl) ?_
        refine hcRi (v := (fX5_contestsWon v4)) (As := []) (rest := []) 0 6 ⟨hx, hb, hml, hown, hts⟩ (kX5_contestsWon l D ca en ks vs ai1 ad1 bd1 v4) (cwV 0 hts mL_law_X5_contestsWon rfl rfl rfl (by decide +kernel) ⟨Nat.le_of_ble_eq_true rfl, Nat.le_of_ble_eq_true rfl⟩) hK (P_right (w1 := []) hP) rfl rfl rfl hl.1 rfl (Nat.le_of_ble_eq_true rfl) ⟨by show _ ≤ 600516; omega, by show _ ≤ 7280964; omega⟩ dL_law_247 ?_
        refine lv_to (y := 0) (by show h14 (og0 v4) = 0; rw [f4.2.1]; exact eH_u.2.1) ?_
        refine lv_if_ne (tgt := 351) hx hb dL_law_250 (by decide) (fun q => absurd rfl q) (fun _ => ?_)
        refine lv_aload_n hx hb dL_law_253 rfl (lv_at hl 1 rfl) ?_
        refine hcLi (wr := []) (u := v4) (G := ((6), v5)) (As := [.ref (ad1 0)]) (rest := []) ⟨hx, hb, hml, hown, hts⟩ (by rw [← y5]; exact kL_undo l hfl D ca en ks vs ai1 ad1 bd1 _ v4 f4.1.1) (vx_cwSW 1 hts mL_law_L_undo rfl rfl rfl (by decide +kernel) ⟨Nat.le_of_ble_eq_true rfl, Nat.le_of_ble_eq_true rfl⟩) hK hP hD hS hA hX (List.Perm.refl _) rfl hl.1 rfl (Nat.le_of_ble_eq_true rfl) ⟨by show _ ≤ 600516; omega, by show _ ≤ 7280964; omega⟩ dL_law_254 (fun H locs hP hD hS => ?_)
        refine W.widen (k := ((400 + 2 * 8) + 18)) (n := ((4000 + 12 * 8) + 108)) (by omega) (by omega) ?_
        refine lv_bipush (v := 6) hx hb dL_law_257 (by decide) ?_
        refine lv_icmp_ne (tgt := 351) hx hb dL_law_259 (by decide) (fun q => absurd rfl q) (fun _ => ?_)
        refine lv_aload_n hx hb dL_law_262 rfl (lv_at hl 1 rfl) ?_
        refine lv_iconst (v := 1) hx hb dL_law_263 (by decide) ?_
        refine hcLi (wr := []) (u := v5) (G := (0, v5)) (As := [.ref (ad1 0), .int 1]) (rest := []) ⟨hx, hb, hml, hown, hts⟩ (by rw [← es_isPlaced f5 eH_u.2.2.1]; exact kL_isPlaced l hfl D ca en ks vs ai1 ad1 bd1 _ v5 1 f5.1.1) (vx_cwSW 2 hts mL_law_L_isPlaced rfl rfl rfl (by decide +kernel) ⟨Nat.le_of_ble_eq_true rfl, Nat.le_of_ble_eq_true rfl⟩) hK hP hD hS hA hX (List.Perm.refl _) rfl hl.1 rfl (Nat.le_of_ble_eq_true rfl) ⟨by show _ ≤ 600516; omega, by show _ ≤ 7280964; omega⟩ dL_law_264 (fun H locs hP hD hS => ?_)
        refine W.widen (k := ((400 + 2 * 8) + 20)) (n := ((4000 + 12 * 8) + 120)) (by omega) (by omega) ?_
        refine lv_if_ne (tgt := 351) hx hb dL_law_267 (by decide) (fun q => absurd rfl q) (fun _ => ?_)
        refine lv_aload_n hx hb dL_law_270 rfl (lv_at hl 1 rfl) ?_
        refine hcLi (wr := []) (u := v5) (G := ((5), v6)) (As := [.ref (ad1 0)]) (rest := []) ⟨hx, hb, hml, hown, hts⟩ (by rw [← y6]; exact kL_undo l hfl D ca en ks vs ai1 ad1 bd1 _ v5 f5.1.1) (vx_cwSW 1 hts mL_law_L_undo rfl rfl rfl (by decide +kernel) ⟨Nat.le_of_ble_eq_true rfl, Nat.le_of_ble_eq_true rfl⟩) hK hP hD hS hA hX (List.Perm.refl _) rfl hl.1 rfl (Nat.le_of_ble_eq_true rfl) ⟨by show _ ≤ 600516; omega, by show _ ≤ 7280964; omega⟩ dL_law_271 (fun H locs hP hD hS => ?_)
        refine W.widen (k := ((400 + 2 * 8) + 22)) (n := ((4000 + 12 * 8) + 132)) (by omega) (by omega) ?_
        refine lv_iconst (v := 5) hx hb dL_law_274 (by decide) ?_
        refine lv_icmp_ne (tgt := 351) hx hb dL_law_275 (by decide) (fun q => absurd rfl q) (fun _ => ?_)
        refine lv_aload_n hx hb dL_law_278 rfl (lv_at hl 1 rfl) ?_
        refine hcRi (v := (fX5_coveredCount v6)) (As := []) (rest := []) 0 6 ⟨hx, hb, hml, hown, hts⟩ (kX5_coveredCount l D ca en ks vs ai1 ad1 bd1 v6) (cwV 0 hts mL_law_X5_coveredCount rfl rfl rfl (by decide +kernel) ⟨Nat.le_of_ble_eq_true rfl, Nat.le_of_ble_eq_true rfl⟩) hK (P_right (w1 := []) hP) rfl rfl rfl hl.1 rfl (Nat.le_of_ble_eq_true rfl) ⟨by show _ ≤ 600516; omega, by show _ ≤ 7280964; omega⟩ dL_law_279 ?_
        refine lv_to (y := 0) (eH_c v6 f6.2.1) ?_
        refine lv_if_ne (tgt := 351) hx hb dL_law_282 (by decide) (fun q => absurd rfl q) (fun _ => ?_)
        refine lv_aload_n hx hb dL_law_285 rfl (lv_at hl 1 rfl) ?_
        refine hcLi (wr := []) (u := v6) (G := ((4), v7)) (As := [.ref (ad1 0)]) (rest := []) ⟨hx, hb, hml, hown, hts⟩ (by rw [← y7]; exact kL_undo l hfl D ca en ks vs ai1 ad1 bd1 _ v6 f6.1.1) (vx_cwSW 1 hts mL_law_L_undo rfl rfl rfl (by decide +kernel) ⟨Nat.le_of_ble_eq_true rfl, Nat.le_of_ble_eq_true rfl⟩) hK hP hD hS hA hX (List.Perm.refl _) rfl hl.1 rfl (Nat.le_of_ble_eq_true rfl) ⟨by show _ ≤ 600516; omega, by show _ ≤ 7280964; omega⟩ dL_law_286 (fun H locs hP hD hS => ?_)
        refine W.widen (k := ((400 + 2 * 8) + 24)) (n := ((4000 + 12 * 8) + 144)) (by omega) (by omega) ?_
        refine lv_iconst (v := 4) hx hb dL_law_289 (by decide) ?_
        refine lv_icmp_ne (tgt := 351) hx hb dL_law_290 (by decide) (fun q => absurd rfl q) (fun _ => ?_)
        refine lv_aload_n hx hb dL_law_293 rfl (lv_at hl 1 rfl) ?_
        refine hcRi (v := (fX5_guestCount v7)) (As := []) (rest := []) 0 6 ⟨hx, hb, hml, hown, hts⟩ (kX5_guestCount l D ca en ks vs ai1 ad1 bd1 v7) (cwV 0 hts mL_law_X5_guestCount rfl rfl rfl (by decide +kernel) ⟨Nat.le_of_ble_eq_true rfl, Nat.le_of_ble_eq_true rfl⟩) hK (P_right (w1 := []) hP) rfl rfl rfl hl.1 rfl (Nat.le_of_ble_eq_true rfl) ⟨by show _ ≤ 600516; omega, by show _ ≤ 7280964; omega⟩ dL_law_294 ?_
        refine lv_to (y := 7) (by show h9 (og0 v7) = 7; rw [f7.2.1]; exact eH_u.2.2.2.1) ?_
        refine lv_bipush (v := 7) hx hb dL_law_297 (by decide) ?_
        refine lv_icmp_ne (tgt := 351) hx hb dL_law_299 (by decide) (fun q => absurd rfl q) (fun _ => ?_)
        refine lv_aload_n hx hb dL_law_302 rfl (lv_at hl 1 rfl) ?_
        refine hcLi (wr := []) (u := v7) (G := ((3), v8)) (As := [.ref (ad1 0)]) (rest := []) ⟨hx, hb, hml, hown, hts⟩ (by rw [← y8]; exact kL_undo l hfl D ca en ks vs ai1 ad1 bd1 _ v7 f7.1.1) (vx_cwSW 1 hts mL_law_L_undo rfl rfl rfl (by decide +kernel) ⟨Nat.le_of_ble_eq_true rfl, Nat.le_of_ble_eq_true rfl⟩) hK hP hD hS hA hX (List.Perm.refl _) rfl hl.1 rfl (Nat.le_of_ble_eq_true rfl) ⟨by show _ ≤ 600516; omega, by show _ ≤ 7280964; omega⟩ dL_law_303 (fun H locs hP hD hS => ?_)
        refine W.widen (k := ((400 + 2 * 8) + 26)) (n := ((4000 + 12 * 8) + 156)) (by omega) (by omega) ?_
        refine lv_iconst (v := 3) hx hb dL_law_306 (by decide) ?_
        refine lv_icmp_ne (tgt := 351) hx hb dL_law_307 (by decide) (fun q => absurd rfl q) (fun _ => ?_)
        refine lv_aload_n hx hb dL_law_310 rfl (lv_at hl 1 rfl) ?_
        refine hcLi (wr := []) (u := v8) (G := ((2), v9)) (As := [.ref (ad1 0)]) (rest := []) ⟨hx, hb, hml, hown, hts⟩ (by rw [← y9]; exact kL_undo l hfl D ca en ks vs ai1 ad1 bd1 _ v8 f8.1.1) (vx_cwSW 1 hts mL_law_L_undo rfl rfl rfl (by decide +kernel) ⟨Nat.le_of_ble_eq_true rfl, Nat.le_of_ble_eq_true rfl⟩) hK hP hD hS hA hX (List.Perm.refl _) rfl hl.1 rfl (Nat.le_of_ble_eq_true rfl) ⟨by show _ ≤ 600516; omega, by show _ ≤ 7280964; omega⟩ dL_law_311 (fun H locs hP hD hS => ?_)
        refine W.widen (k := ((400 + 2 * 8) + 28)) (n := ((4000 + 12 * 8) + 168)) (by omega) (by omega) ?_
        refine lv_iconst (v := 2) hx hb dL_law_314 (by decide) ?_
        refine lv_icmp_ne (tgt := 351) hx hb dL_law_315 (by decide) (fun q => absurd rfl q) (fun _ => ?_)
        refine lv_aload_n hx hb dL_law_318 rfl (lv_at hl 1 rfl) ?_
        refine hcLi (wr := []) (u := v9) (G := ((1), v10)) (As := [.ref (ad1 0)]) (rest := []) ⟨hx, hb, hml, hown, hts⟩ (by rw [← y10]; exact kL_undo l hfl D ca en ks vs ai1 ad1 bd1 _ v9 f9.1.1) (vx_cwSW 1 hts mL_law_L_undo rfl rfl rfl (by decide +kernel) ⟨Nat.le_of_ble_eq_true rfl, Nat.le_of_ble_eq_true rfl⟩) hK hP hD hS hA hX (List.Perm.refl _) rfl hl.1 rfl (Nat.le_of_ble_eq_true rfl) ⟨by show _ ≤ 600516; omega, by show _ ≤ 7280964; omega⟩ dL_law_319 (fun H locs hP hD hS => ?_)
        refine W.widen (k := ((400 + 2 * 8) + 30)) (n := ((4000 + 12 * 8) + 180)) (by omega) (by omega) ?_
        refine lv_iconst (v := 1) hx hb dL_law_322 (by decide) ?_
        refine lv_icmp_ne (tgt := 351) hx hb dL_law_323 (by decide) (fun q => absurd rfl q) (fun _ => ?_)
        refine lv_aload_n hx hb dL_law_326 rfl (lv_at hl 1 rfl) ?_
        refine hcLi (wr := []) (u := v10) (G := (0, v11)) (As := [.ref (ad1 0)]) (rest := []) ⟨hx, hb, hml, hown, hts⟩ (by rw [← y11]; exact kL_undo l hfl D ca en ks vs ai1 ad1 bd1 _ v10 f10.1.1) (vx_cwSW 1 hts mL_law_L_undo rfl rfl rfl (by decide +kernel) ⟨Nat.le_of_ble_eq_true rfl, Nat.le_of_ble_eq_true rfl⟩) hK hP hD hS hA hX (List.Perm.refl _) rfl hl.1 rfl (Nat.le_of_ble_eq_true rfl) ⟨by show _ ≤ 600516; omega, by show _ ≤ 7280964; omega⟩ dL_law_327 (fun H locs hP hD hS => ?_)
        refine W.widen (k := ((400 + 2 * 8) + 32)) (n := ((4000 + 12 * 8) + 192)) (by omega) (by omega) ?_
        refine lv_if_ne (tgt := 351) hx hb dL_law_330 (by decide) (fun q => absurd rfl q) (fun _ => ?_)
        refine lv_aload_n hx hb dL_law_333 rfl (lv_at hl 1 rfl) ?_
        refine hcRi (v := (fX5_guestCount v11)) (As := []) (rest := []) 0 6 ⟨hx, hb, hml, hown, hts⟩ (kX5_guestCount l D ca en ks vs ai1 ad1 bd1 v11) (cwV 0 hts mL_law_X5_guestCount rfl rfl rfl (by decide +kernel) ⟨Nat.le_of_ble_eq_true rfl, Nat.le_of_ble_eq_true rfl⟩) hK (P_right (w1 := []) hP) rfl rfl rfl hl.1 rfl (Nat.le_of_ble_eq_true rfl) ⟨by show _ ≤ 600516; omega, by show _ ≤ 7280964; omega⟩ dL_law_334 ?_
        refine lv_to (y := 3) (by show h9 (og0 v11) = 3; rw [f11.2.1]; exact eH_u.2.2.2.2) ?_
        refine lv_iconst (v := 3) hx hb dL_law_337 (by decide) ?_
        refine lv_icmp_ne (tgt := 351) hx hb dL_law_338 (by decide) (fun q => absurd rfl q) (fun _ => ?_)
        refine lv_aload_n hx hb dL_law_341 rfl (lv_at hl 1 rfl) ?_
        refine hcLi (wr := []) (u := v11) (G := ((-1001), v11)) (As := [.ref (ad1 0)]) (rest := []) ⟨hx, hb, hml, hown, hts⟩ (by rw [← es_undo0 f11]; exact kL_undo l hfl D ca en ks vs ai1 ad1 bd1 _ v11 f11.1.1) (vx_cwSW 1 hts mL_law_L_undo rfl rfl rfl (by decide +kernel) ⟨Nat.le_of_ble_eq_true rfl, Nat.le_of_ble_eq_true rfl⟩) hK hP hD hS hA hX (List.Perm.refl _) rfl hl.1 rfl (Nat.le_of_ble_eq_true rfl) ⟨by show _ ≤ 600516; omega, by show _ ≤ 7280964; omega⟩ dL_law_342 (fun H locs hP hD hS => ?_)
        refine W.widen (k := ((400 + 2 * 8) + 34)) (n := ((4000 + 12 * 8) + 204)) (by omega) (by omega) ?_
        refine lv_sipush (v := (-1001)) hx hb dL_law_345 (by decide) ?_
        refine lv_icmp_eq (tgt := 353) hx hb dL_law_348 (by decide) (fun _ => ?_) (fun q => absurd rfl q) 
        refine lv_aload_n hx hb dL_law_353 rfl (lv_at hl 1 rfl) ?_
        refine hcLi (wr := []) (u := v11) (G := ((fX3_countPlaced Hnew), v12)) (As := [.ref (ad1 0)]) (rest := []) ⟨hx, hb, hml, hown, hts⟩ (by rw [← y12]; exact kL_restore l hfl D ca en ks vs ai1 ad1 bd1 _ v11 f11.1.1) (vx_cwSW 1 hts mL_law_L_restore rfl rfl rfl (by decide +kernel) ⟨Nat.le_of_ble_eq_true rfl, Nat.le_of_ble_eq_true rfl⟩) hK hP hD hS hA hX (List.Perm.refl _) rfl hl.1 rfl (Nat.le_of_ble_eq_true rfl) ⟨by show _ ≤ 600516; omega, by show _ ≤ 7280964; omega⟩ dL_law_354 (fun H locs hP hD hS => ?_)
        refine W.widen (k := ((400 + 2 * 8) + 36)) (n := ((4000 + 12 * 8) + 216)) (by omega) (by omega) ?_
        refine lv_to (y := 0) ((by decide +kernel : fX3_countPlaced Hnew = 0)) ?_
        refine lv_if_ne (tgt := 384) hx hb dL_law_357 (by decide) (fun q => absurd rfl q) (fun _ => ?_)
        refine lv_aload_n hx hb dL_law_360 rfl (lv_at hl 1 rfl) ?_
        refine hcRi (v := (fX5_guestCount v12)) (As := []) (rest := []) 0 6 ⟨hx, hb, hml, hown, hts⟩ (kX5_guestCount l D ca en ks vs ai1 ad1 bd1 v12) (cwV 0 hts mL_law_X5_guestCount rfl rfl rfl (by decide +kernel) ⟨Nat.le_of_ble_eq_true rfl, Nat.le_of_ble_eq_true rfl⟩) hK (P_right (w1 := []) hP) rfl rfl rfl hl.1 rfl (Nat.le_of_ble_eq_true rfl) ⟨by show _ ≤ 600516; omega, by show _ ≤ 7280964; omega⟩ dL_law_361 ?_
        refine lv_to (y := 0) (by show h9 (og0 v12) = 0; rw [f12.2.1]; rfl) ?_
        refine lv_if_ne (tgt := 384) hx hb dL_law_364 (by decide) (fun q => absurd rfl q) (fun _ => ?_)
        refine lv_aload_n hx hb dL_law_367 rfl (lv_at hl 1 rfl) ?_
        refine hcRi (v := (fX5_now v12)) (As := []) (rest := []) 0 6 ⟨hx, hb, hml, hown, hts⟩ (kX5_now l D ca en ks vs ai1 ad1 bd1 v12) (cwV 0 hts mL_law_X5_now rfl rfl rfl (by decide +kernel) ⟨Nat.le_of_ble_eq_true rfl, Nat.le_of_ble_eq_true rfl⟩) hK (P_right (w1 := []) hP) rfl rfl rfl hl.1 rfl (Nat.le_of_ble_eq_true rfl) ⟨by show _ ≤ 600516; omega, by show _ ≤ 7280964; omega⟩ dL_law_368 ?_
        refine lv_to (y := 0) (by show h10 (og0 v12) = 0; rw [f12.2.1]; rfl) ?_
        refine lv_if_ne (tgt := 384) hx hb dL_law_371 (by decide) (fun q => absurd rfl q) (fun _ => ?_)
        refine lv_aload_n hx hb dL_law_374 rfl (lv_at hl 1 rfl) ?_
        refine hcLi (wr := []) (u := v12) (G := ((-1001), v12)) (As := [.ref (ad1 0)]) (rest := []) ⟨hx, hb, hml, hown, hts⟩ (by rw [← es_undo0 f12]; exact kL_undo l hfl D ca en ks vs ai1 ad1 bd1 _ v12 f12.1.1) (vx_cwSW 1 hts mL_law_L_undo rfl rfl rfl (by decide +kernel) ⟨Nat.le_of_ble_eq_true rfl, Nat.le_of_ble_eq_true rfl⟩) hK hP hD hS hA hX (List.Perm.refl _) rfl hl.1 rfl (Nat.le_of_ble_eq_true rfl) ⟨by show _ ≤ 600516; omega, by show _ ≤ 7280964; omega⟩ dL_law_375 (fun H locs hP hD hS => ?_)
        refine W.widen (k := ((400 + 2 * 8) + 38)) (n := ((4000 + 12 * 8) + 228)) (by omega) (by omega) ?_
        refine lv_sipush (v := (-1001)) hx hb dL_law_378 (by decide) ?_
        refine lv_icmp_eq (tgt := 386) hx hb dL_law_381 (by decide) (fun _ => ?_) (fun q => absurd rfl q) 
        refine W.widen (k := 1000) (n := 7000) (by omega) (by omega) ?_
        exact c386 _ _ hS ls (lv_sub hl [2] rfl)
      | succ q ih =>
        intro k hqk w hE H locs hP hD hS ls hl
        obtain ⟨v, y, hE2⟩ := es_add (x := nI k) (y := 2) (r := nI k) hE (eH_add k (by omega)).1 (eH_add k (by omega)).2
        refine lv_iload_n hx hb dL_law_140 rfl (lv_at hl 0 rfl) ?_
        refine lv_bipush (v := 8) hx hb dL_law_141 (by decide) ?_
        refine lv_icmp_ge (tgt := 164) hx hb dL_law_143 (by decide) (fun q => absurd q (show ¬ (8 : Int32) ≤ nI k from nI_ge (b := 8) (by omega) (by decide))) (fun _ => ?_)
        refine lv_aload_n hx hb dL_law_146 rfl (lv_at hl 1 rfl) ?_
        refine lv_iload_n hx hb dL_law_147 rfl (lv_at hl 0 rfl) ?_
        refine lv_iconst (v := 2) hx hb dL_law_148 (by decide) ?_
        refine hcLi (wr := []) (u := w) (G := ((nI k), v)) (As := [.ref (ad1 0), .int (nI k), .int 2]) (rest := []) ⟨hx, hb, hml, hown, hts⟩ (by rw [← y]; exact kL_addGuest l hfl D ca en ks vs ai1 ad1 bd1 _ w (nI k) 2 hE.1.1) (vx_cwSW 3 hts mL_law_L_addGuest rfl rfl rfl (by decide +kernel) ⟨Nat.le_of_ble_eq_true rfl, Nat.le_of_ble_eq_true rfl⟩) hK hP hD hS hA hX (List.Perm.refl _) rfl hl.1 rfl (Nat.le_of_ble_eq_true rfl) ⟨by show _ ≤ 600516; omega, by show _ ≤ 7280964; omega⟩ dL_law_149 (fun H locs hP hD hS => ?_)
        refine W.widen (k := ((400 + 2 * k) + 2)) (n := ((4000 + 12 * k) + 12)) (by omega) (by omega) ?_
        refine lv_iload_n hx hb dL_law_152 rfl (lv_at hl 0 rfl) ?_
        refine lv_icmp_eq (tgt := 158) hx hb dL_law_153 (by decide) (fun _ => ?_) (fun q => absurd rfl q) 
        refine lv_iinc (v := nI (k + 1)) (lv' := [(2, .int (nI (k + 1))), (1, .ref (ad1 0)), (0, .ref b)]) hx hb dL_law_158 hl (k := 0) rfl (nI_1 k) (by decide) rfl (fun ls hl => ?_)
        refine lv_goto (tgt := 140) hx hb dL_law_161 (by decide) ?_
        refine W.widen (k := (400 + 2 * (k + 1))) (n := (4000 + 12 * (k + 1))) (by omega) (by omega) ?_
        exact ih (k + 1) (by omega) v hE2 _ _ hP hD hS ls (lv_sub hl [0, 1, 2] rfl)
    have c50 : ∀ (q k : Nat) (hqk : q + k = 60) (w : OS) (hE : ES 60 [Hnew] (eH 0) w (eC k)) (H : Heap) (locs : List Loc) (hP : va_P D vwCl (OW ca en ai1 ad1 bd1 w) H) (hD : va_D A (OW ca en ai1 ad1 bd1 w)) (hS : va_S A s.heap H locs) (ls : Array Slot) (hl : lv_has ls 11 [(2, .int (nI k)), (1, .ref (ad1 0)), (0, .ref b)]), W p l e room_1 s m #[Value.ref b] below meth c H locs (200 + 2 * k) (2000 + 12 * k) (lw_Z below #[Value.ref b] s) (F0 m 50 ls []) := by
      intro q
      induction q with
      | zero =>
        intro k hqk w hE H locs hP hD hS ls hl
        obtain rfl : 60 = k := by omega
        obtain ⟨v1, y1, f1, g1⟩ := es_run hE (by decide) eC_read.1 eC_read.2
        have p2 := es_app (x := 112) f1 (by decide) (by decide) eC1_len.1 (by decide)
        obtain ⟨y2, f2⟩ := p2
        obtain ⟨v3, y3, f3, g3⟩ := es_run f2 (by decide) eC2_read.1 eC2_read.2
        refine lv_iload_n hx hb dL_law_50 rfl (lv_at hl 0 rfl) ?_
        refine lv_bipush (v := 60) hx hb dL_law_51 (by decide) ?_
        refine lv_icmp_ge (tgt := 79) hx hb dL_law_53 (by decide) (fun _ => ?_) (fun q => absurd (by decide) q) 
        refine lv_aload_n hx hb dL_law_79 rfl (lv_at hl 1 rfl) ?_
        refine lv_bipush (v := 112) hx hb dL_law_80 (by decide) ?_
        refine hcLi (wr := []) (u := w) (G := ((-1002), w)) (As := [.ref (ad1 0), .int 112]) (rest := []) ⟨hx, hb, hml, hown, hts⟩ (by rw [← es_full (x := 112) hE (by decide) (by decide) (by rw [eC_len 60 (by decide)]; decide)]; exact kL_append l hfl D ca en ks vs ai1 ad1 bd1 _ w 112 hE.1.1) (vx_cwSW 2 hts mL_law_L_append rfl rfl rfl (by decide +kernel) ⟨Nat.le_of_ble_eq_true rfl, Nat.le_of_ble_eq_true rfl⟩) hK hP hD hS hA hX (List.Perm.refl _) rfl hl.1 rfl (Nat.le_of_ble_eq_true rfl) ⟨by show _ ≤ 600516; omega, by show _ ≤ 7280964; omega⟩ dL_law_82 (fun H locs hP hD hS => ?_)
        refine W.widen (k := ((200 + 2 * 60) + 2)) (n := ((2000 + 12 * 60) + 12)) (by omega) (by omega) ?_
        refine lv_sipush (v := (-1002)) hx hb dL_law_85 (by decide) ?_
        refine lv_icmp_ne (tgt := 136) hx hb dL_law_88 (by decide) (fun q => absurd rfl q) (fun _ => ?_)
        refine lv_aload_n hx hb dL_law_91 rfl (lv_at hl 1 rfl) ?_
        refine hcLi (wr := []) (u := w) (G := ((-1001), v1)) (As := [.ref (ad1 0)]) (rest := []) ⟨hx, hb, hml, hown, hts⟩ (by rw [← y1]; exact kL_run l hfl D ca en ks vs ai1 ad1 bd1 _ w hE.1.1) (vx_cwSW 1 hts mL_law_L_run rfl rfl rfl (by decide +kernel) ⟨Nat.le_of_ble_eq_true rfl, Nat.le_of_ble_eq_true rfl⟩) hK hP hD hS hA hX (List.Perm.refl _) rfl hl.1 rfl (Nat.le_of_ble_eq_true rfl) ⟨by show _ ≤ 600516; omega, by show _ ≤ 7280964; omega⟩ dL_law_92 (fun H locs hP hD hS => ?_)
        refine W.widen (k := ((200 + 2 * 60) + 4)) (n := ((2000 + 12 * 60) + 24)) (by omega) (by omega) ?_
        refine lv_sipush (v := (-1001)) hx hb dL_law_95 (by decide) ?_
        refine lv_icmp_ne (tgt := 136) hx hb dL_law_98 (by decide) (fun q => absurd rfl q) (fun _ => ?_)
        refine lv_aload_n hx hb dL_law_101 rfl (lv_at hl 1 rfl) ?_
        refine hcLi (wr := []) (u := v1) (G := ((nI 0), v1)) (As := [.ref (ad1 0)]) (rest := []) ⟨hx, hb, hml, hown, hts⟩ (by rw [← ep_at g1 (by decide)]; exact kL_errorPosition l hfl D ca en ks vs ai1 ad1 bd1 _ v1 f1.1.1) (vx_cwSW 1 hts mL_law_L_errorPosition rfl rfl rfl (by decide +kernel) ⟨Nat.le_of_ble_eq_true rfl, Nat.le_of_ble_eq_true rfl⟩) hK hP hD hS hA hX (List.Perm.refl _) rfl hl.1 rfl (Nat.le_of_ble_eq_true rfl) ⟨by show _ ≤ 600516; omega, by show _ ≤ 7280964; omega⟩ dL_law_102 (fun H locs hP hD hS => ?_)
        refine W.widen (k := ((200 + 2 * 60) + 6)) (n := ((2000 + 12 * 60) + 36)) (by omega) (by omega) ?_
        refine lv_to (y := 0) (rfl) ?_
        refine lv_if_ne (tgt := 136) hx hb dL_law_105 (by decide) (fun q => absurd rfl q) (fun _ => ?_)
        refine lv_aload_n hx hb dL_law_108 rfl (lv_at hl 1 rfl) ?_
        refine lv_bipush (v := 112) hx hb dL_law_109 (by decide) ?_
        refine hcLi (wr := []) (u := v1) (G := ((nI (0 + 1)), (appO v1 112))) (As := [.ref (ad1 0), .int 112]) (rest := []) ⟨hx, hb, hml, hown, hts⟩ (by rw [← y2]; exact kL_append l hfl D ca en ks vs ai1 ad1 bd1 _ v1 112 f1.1.1) (vx_cwSW 2 hts mL_law_L_append rfl rfl rfl (by decide +kernel) ⟨Nat.le_of_ble_eq_true rfl, Nat.le_of_ble_eq_true rfl⟩) hK hP hD hS hA hX (List.Perm.refl _) rfl hl.1 rfl (Nat.le_of_ble_eq_true rfl) ⟨by show _ ≤ 600516; omega, by show _ ≤ 7280964; omega⟩ dL_law_111 (fun H locs hP hD hS => ?_)
        refine W.widen (k := ((200 + 2 * 60) + 8)) (n := ((2000 + 12 * 60) + 48)) (by omega) (by omega) ?_
        refine lv_to (y := 1) (rfl) ?_
        refine lv_iconst (v := 1) hx hb dL_law_114 (by decide) ?_
        refine lv_icmp_ne (tgt := 136) hx hb dL_law_115 (by decide) (fun q => absurd rfl q) (fun _ => ?_)
        refine lv_aload_n hx hb dL_law_118 rfl (lv_at hl 1 rfl) ?_
        refine hcLi (wr := []) (u := (appO v1 112)) (G := ((-1001), v3)) (As := [.ref (ad1 0)]) (rest := []) ⟨hx, hb, hml, hown, hts⟩ (by rw [← y3]; exact kL_run l hfl D ca en ks vs ai1 ad1 bd1 _ (appO v1 112) f2.1.1) (vx_cwSW 1 hts mL_law_L_run rfl rfl rfl (by decide +kernel) ⟨Nat.le_of_ble_eq_true rfl, Nat.le_of_ble_eq_true rfl⟩) hK hP hD hS hA hX (List.Perm.refl _) rfl hl.1 rfl (Nat.le_of_ble_eq_true rfl) ⟨by show _ ≤ 600516; omega, by show _ ≤ 7280964; omega⟩ dL_law_119 (fun H locs hP hD hS => ?_)
        refine W.widen (k := ((200 + 2 * 60) + 10)) (n := ((2000 + 12 * 60) + 60)) (by omega) (by omega) ?_
        refine lv_sipush (v := (-1001)) hx hb dL_law_122 (by decide) ?_
        refine lv_icmp_ne (tgt := 136) hx hb dL_law_125 (by decide) (fun q => absurd rfl q) (fun _ => ?_)
        refine lv_aload_n hx hb dL_law_128 rfl (lv_at hl 1 rfl) ?_
        refine hcLi (wr := []) (u := v3) (G := ((nI 1), v3)) (As := [.ref (ad1 0)]) (rest := []) ⟨hx, hb, hml, hown, hts⟩ (by rw [← ep_at g3 (by decide)]; exact kL_errorPosition l hfl D ca en ks vs ai1 ad1 bd1 _ v3 f3.1.1) (vx_cwSW 1 hts mL_law_L_errorPosition rfl rfl rfl (by decide +kernel) ⟨Nat.le_of_ble_eq_true rfl, Nat.le_of_ble_eq_true rfl⟩) hK hP hD hS hA hX (List.Perm.refl _) rfl hl.1 rfl (Nat.le_of_ble_eq_true rfl) ⟨by show _ ≤ 600516; omega, by show _ ≤ 7280964; omega⟩ dL_law_129 (fun H locs hP hD hS => ?_)
        refine W.widen (k := ((200 + 2 * 60) + 12)) (n := ((2000 + 12 * 60) + 72)) (by omega) (by omega) ?_
        refine lv_to (y := 1) (rfl) ?_
        refine lv_iconst (v := 1) hx hb dL_law_132 (by decide) ?_
        refine lv_icmp_eq (tgt := 138) hx hb dL_law_133 (by decide) (fun _ => ?_) (fun q => absurd rfl q) 
        refine lv_iconst (v := 0) hx hb dL_law_138 (by decide) ?_
        refine lv_istore_n (lv' := [(2, .int 0), (1, .ref (ad1 0)), (0, .ref b)]) hx hb dL_law_139 rfl hl (by decide) rfl (fun ls hl => ?_)
        refine W.widen (k := (400 + 2 * 0)) (n := (4000 + 12 * 0)) (by omega) (by omega) ?_
        exact c140 8 0 rfl v3 f3 _ _ hP hD hS ls (lv_sub hl [0, 1, 2] rfl)
      | succ q ih =>
        intro k hqk w hE H locs hP hD hS ls hl
        obtain ⟨t1, t2, t3⟩ := eC_chr k (by omega)
        obtain ⟨y, hE2⟩ := es_app hE t1 t2 (eC_len k (by omega)) (by omega)
        refine lv_iload_n hx hb dL_law_50 rfl (lv_at hl 0 rfl) ?_
        refine lv_bipush (v := 60) hx hb dL_law_51 (by decide) ?_
        refine lv_icmp_ge (tgt := 79) hx hb dL_law_53 (by decide) (fun q => absurd q (show ¬ (60 : Int32) ≤ nI k from nI_ge (b := 60) (by omega) (by decide))) (fun _ => ?_)
        refine lv_aload_n hx hb dL_law_56 rfl (lv_at hl 1 rfl) ?_
        refine lv_bipush (v := 65) hx hb dL_law_57 (by decide) ?_
        refine lv_iload_n hx hb dL_law_59 rfl (lv_at hl 0 rfl) ?_
        refine lv_iadd hx hb dL_law_60 ?_
        refine lv_i2c (v := nI (65 + k)) hx hb dL_law_61 t3 ?_
        refine hcLi (wr := []) (u := w) (G := ((nI (k + 1)), (appO w (nI (65 + k))))) (As := [.ref (ad1 0), .int (nI (65 + k))]) (rest := []) ⟨hx, hb, hml, hown, hts⟩ (by rw [← y]; exact kL_append l hfl D ca en ks vs ai1 ad1 bd1 _ w (nI (65 + k)) hE.1.1) (vx_cwSW 2 hts mL_law_L_append rfl rfl rfl (by decide +kernel) ⟨Nat.le_of_ble_eq_true rfl, Nat.le_of_ble_eq_true rfl⟩) hK hP hD hS hA hX (List.Perm.refl _) rfl hl.1 rfl (Nat.le_of_ble_eq_true rfl) ⟨by show _ ≤ 600516; omega, by show _ ≤ 7280964; omega⟩ dL_law_62 (fun H locs hP hD hS => ?_)
        refine W.widen (k := ((200 + 2 * k) + 2)) (n := ((2000 + 12 * k) + 12)) (by omega) (by omega) ?_
        refine lv_iload_n hx hb dL_law_65 rfl (lv_at hl 0 rfl) ?_
        refine lv_iconst (v := 1) hx hb dL_law_66 (by decide) ?_
        refine lv_iadd hx hb dL_law_67 ?_
        refine lv_to (y := (nI (k + 1))) (nI_1 k) ?_
        refine lv_icmp_eq (tgt := 73) hx hb dL_law_68 (by decide) (fun _ => ?_) (fun q => absurd rfl q) 
        refine lv_iinc (v := nI (k + 1)) (lv' := [(2, .int (nI (k + 1))), (1, .ref (ad1 0)), (0, .ref b)]) hx hb dL_law_73 hl (k := 0) rfl (nI_1 k) (by decide) rfl (fun ls hl => ?_)
        refine lv_goto (tgt := 50) hx hb dL_law_76 (by decide) ?_
        refine W.widen (k := (200 + 2 * (k + 1))) (n := (2000 + 12 * (k + 1))) (by omega) (by omega) ?_
        exact ih (k + 1) (by omega) _ hE2 _ _ hP hD hS ls (lv_sub hl [0, 1, 2] rfl)
    refine W.widen (k := (200 + 2 * 0)) (n := (2000 + 12 * 0)) (by omega) (by omega) ?_
    exact c50 60 0 rfl w1 z1 _ _ hP hD hS ls (lv_sub hl [0, 1, 2] rfl)
  rw [← hH]
  exact go
