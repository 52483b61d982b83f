/-! runs -/
def TXX (en ks vs : Nat → Nat) (t tv tn : Nat) (tf : Nat → Int32) (A : Nat → Prop) (U : State) (H : Heap) : Prop := HX en ks vs A U H ∧ TX t tv tn tf A U H
theorem TXX_ok (en ks vs : Nat → Nat) (t tv tn : Nat) (tf : Nat → Int32) : SXok (TXX en ks vs t tv tn tf) := ⟨fun A u U H hW h => ⟨(HX_ok en ks vs).1 _ _ _ _ hW h.1, TX.moved hW.alike h.2⟩, fun A u U H hv h => ⟨(HX_ok en ks vs).2.1 _ _ _ _ hv h.1, TX.moved (alike_of_same hv) h.2⟩, fun A U H H1 h hq => ⟨(HX_ok en ks vs).2.2.1 _ _ _ _ h.1 hq, h.2.kept hq⟩, fun A B U H h hAB => ⟨(HX_ok en ks vs).2.2.2 _ _ _ _ h.1 hAB, h.2.narrow hAB⟩⟩
/-- the world after k appends -/
def appK (tf : Nat → Int32) : Nat → OS → OS
  | 0, u => u
  | k + 1, u => appO (appK tf k u) (tf k &&& 255)
theorem appK_LI {n : Int} {L : List HS} {u : OS} (tf : Nat → Int32) (h : LI n L u) (h0 : q1 (og5 u) = 0) : ∀ k, k ≤ 60 → LI n L (appK tf k u) ∧ og0 (appK tf k u) = og0 u ∧ og1 (appK tf k u) = og1 u ∧ q1 (og5 (appK tf k u)) = k ∧ og8 (appK tf k u) = og8 u := by
  intro k
  induction k with
  | zero => intro _; exact ⟨h, rfl, rfl, h0, rfl⟩
  | succ k ih =>
    intro hk
    obtain ⟨a1, a2, a3, a4, a5⟩ := ih (by omega)
    obtain ⟨b1, b2, b3, b4, b5⟩ := app_LI (x := tf k &&& 255) a1 (by omega)
    exact ⟨b1, b2.trans a2, b3.trans a3, by show q1 (og5 (appO (appK tf k u) (tf k &&& 255))) = _; omega, b5.trans a5⟩
/-- a text of printable letters -/
def okT (tn : Nat) (tf : Nat → Int32) : Prop := tn ≤ 60 ∧ ∀ k, k < tn → ¬ (tf k &&& 255) < 32 ∧ (tf k &&& 255) ≤ 126
def wmL_runs : List Cond := .code yL_runs cL_runs 3 (some .int) :: (wsV RL 148 RJ0 yJ0_length_8abf5 wsJ0_length_8abf5 ++ (wsV RL 153 RJ0 yJ0_charAt_5068e wsJ0_charAt_5068e ++ (va_wsS RL 156 yL_append wmL_append ++ (va_wsS RL 161 yL_run wmL_run))))
theorem mL_runs_J0_length_8abf5 : GoodIn wmL_runs (wsV RL 148 RJ0 yJ0_length_8abf5 wsJ0_length_8abf5) := goodIn_sub (fun w h => List.mem_cons_of_mem _ (List.mem_append_left _ h)) (by decide +kernel)
theorem mL_runs_J0_charAt_5068e : GoodIn wmL_runs (wsV RL 153 RJ0 yJ0_charAt_5068e wsJ0_charAt_5068e) := goodIn_sub (fun w h => List.mem_cons_of_mem _ (List.mem_append_right _ (List.mem_append_left _ h))) (by decide +kernel)
theorem mL_runs_L_append : GoodIn wmL_runs (va_wsS RL 156 yL_append wmL_append) := goodIn_sub (fun w h => List.mem_cons_of_mem _ (List.mem_append_right _ (List.mem_append_right _ (List.mem_append_left _ h)))) (by decide +kernel)
theorem mL_runs_L_run : GoodIn wmL_runs (va_wsS RL 161 yL_run wmL_run) := goodIn_sub (fun w h => List.mem_cons_of_mem _ (List.mem_append_right _ (List.mem_append_right _ (List.mem_append_right _ (h))))) (by decide +kernel)
set_option maxHeartbeats 4000000 in
set_option maxRecDepth 100000 in
theorem kL_runs (l : Launch) (hfl : l.stackTraces = false) (D : va_G) (ca : Nat → ClassId) (en ks vs : Nat → Nat) (ai : Nat → Nat → Nat) (ad bd : Nat → Nat) (sz : Nat) (u : OS) (t tv tn : Nat) (tf : Nat → Int32) (hok : okT tn tf) (n : Int) (L : List HS) (hu : LI n L u) (h0 : q1 (og5 u) = 0) : Met l yL_runs wmL_runs ({ frames := 10, cells := 122, slots := 732, locals := 226 }) (MGPc D ca (TXX en ks vs t tv tn tf) sz (OW ca en ai ad bd u) [.ref (ad 0), .ref t]) (va_Qi (fun r v => (r, v) = wrp (fX5_run (appK tf tn u))) (MB D ca (va_A (OW ca en ai ad bd u) sz) (fun v => OW ca en ai ad bd v)) (va_A (OW ca en ai ad bd u) sz)) 122 732 (va_A (OW ca en ai ad bd u) sz) := by
  refine Met.ofW (cc := cL_runs) (maxL := 3) (ret := some .int) (by decide) rfl ?_
  intro p e s m args below meth c s₁ B hml hv
  obtain ⟨rfl, hsz, hP, hK, hD0, hXT⟩ := hv
  have hx := B.exec
  have hb := B.bytes
  have hr := B.returns
  have hts := atoms_spec (ws := wmL_runs) B.pre
  have hown : s.vm.findClass RL = some m.cls := findClass_of_methodNamed B.named
  have hlocks := B.notSynchronized
  subst hsz
  have hD := hD0.self (sz := s.heap.size)
  have htn := hok.1
  have hK1 := appK_LI tf hu h0
  generalize hAe : va_A (OW ca en ai ad bd u) s.heap.size = A at hD hXT ⊢
  have hX := hXT.1
  have hT := hXT.2
  have hA : ∀ q : Nat, s.heap.size ≤ q → A q := fun q h => by rw [← hAe]; exact Or.inr h
  have hS : va_S A s.heap s.heap [] := va_S.rf
  have c2 : ∀ (q k : Nat) (hqk : q + k = tn) (H : Heap) (locs : List Loc) (hP : va_P D vwCl (OW ca en ai ad bd (appK tf k u)) H) (hD : va_D A (OW ca en ai ad bd (appK tf k u))) (hS : va_S A s.heap H locs) (ls : Array Slot) (hl : lv_has ls 3 [(2, .int (nI k)), (1, .ref t), (0, .ref (ad 0))]), W p l e (headSpec wmL_runs ({ frames := 10, cells := 122, slots := 732, locals := 226 })).room s m ([.ref (ad 0), .ref t] : List Value).toArray below meth c H locs (2 * k) (12 * k) (MQ below (va_Qi (fun r v => (r, v) = wrp (fX5_run (appK tf tn u))) (MB D ca A (fun v => OW ca en ai ad bd v)) A) ([.ref (ad 0), .ref t] : List Value).toArray s 122 732 A) (F0 m 2 ls []) := by
    intro q
    induction q with
    | zero =>
      intro k hqk H locs hP hD hS ls hl
      have hkt : k = tn := by omega
      obtain ⟨r9, v9, hw9⟩ : ∃ r v, wrp (fX5_run (appK tf k u)) = (r, v) := ⟨_, _, rfl⟩
      refine lv_iload_n hx hb dL_runs_2 rfl (lv_at hl 0 rfl) ?_
      refine lv_aload_n hx hb dL_runs_3 rfl (lv_at hl 1 rfl) ?_
      refine hcXi (v := (nI tn)) (As := []) (rest := [.int (nI k)]) ⟨hx, hb, hml, hown, hts⟩ (kJ0_length_8abf5 l t tv tn tf (by omega)) (cwV 0 hts mL_runs_J0_length_8abf5 rfl rfl rfl (by decide +kernel) ⟨Nat.le_of_ble_eq_true rfl, Nat.le_of_ble_eq_true rfl⟩) hS hT hX.1.1 rfl hl.1 rfl (Nat.le_of_ble_eq_true rfl) ⟨by show _ ≤ 122; omega, by show _ ≤ 732; omega⟩ dL_runs_4 ?_
      refine lv_icmp_ge (tgt := 35) hx hb dL_runs_7 (by decide) (fun _ => ?_) (fun q => absurd (show nI tn ≤ nI k from nI_le (by omega) (by omega)) q) 
      refine lv_aload_n hx hb dL_runs_35 rfl (lv_at hl 2 rfl) ?_
      refine hcLi (wr := []) (u := (appK tf k u)) (G := (r9, v9)) (As := [.ref (ad 0)]) (rest := []) ⟨hx, hb, hml, hown, hts⟩ (by rw [← hw9]; exact kL_run l hfl D ca en ks vs ai ad bd _ (appK tf k u) (hK1 k (by omega)).1.1) (vx_cwSW 1 hts mL_runs_L_run rfl rfl rfl (by decide +kernel) ⟨Nat.le_of_ble_eq_true rfl, Nat.le_of_ble_eq_true rfl⟩) hK hP hD hS hA hX (List.Perm.refl _) rfl hl.1 rfl (Nat.le_of_ble_eq_true rfl) ⟨by show _ ≤ 122; omega, by show _ ≤ 732; omega⟩ dL_runs_36 (fun H locs hP hD hS => ?_)
      refine W.widen (k := (2 * k + 2)) (n := (12 * k + 12)) (by omega) (by omega) ?_
      refine W.widen (k := 122) (n := 732) (by omega) (by omega) ?_
      exact W.iret hx hb hr (fun t ht hW => ⟨⟨r9, v9, rfl, (by rw [← hkt]; exact hw9.symm), by rw [ht]; exact hP, va_K.moved hW.alike hK, hD⟩, hS.F ht⟩) hS.2.2 dL_runs_39
    | succ q ih =>
      intro k hqk H locs hP hD hS ls hl
      have hw9 : wrp (fX5_append (appK tf k u) (tf k &&& 255)) = (nI (k + 1), appK tf (k + 1) u) := by
        have h4 := (hK1 k (by omega)).2.2.2.1
        have h5 := app_yes (w := appK tf k u) (x := tf k &&& 255) (hok.2 k (by omega)).1 (hok.2 k (by omega)).2 (by omega)
        rw [h4] at h5
        exact h5
      refine lv_iload_n hx hb dL_runs_2 rfl (lv_at hl 0 rfl) ?_
      refine lv_aload_n hx hb dL_runs_3 rfl (lv_at hl 1 rfl) ?_
      refine hcXi (v := (nI tn)) (As := []) (rest := [.int (nI k)]) ⟨hx, hb, hml, hown, hts⟩ (kJ0_length_8abf5 l t tv tn tf (by omega)) (cwV 0 hts mL_runs_J0_length_8abf5 rfl rfl rfl (by decide +kernel) ⟨Nat.le_of_ble_eq_true rfl, Nat.le_of_ble_eq_true rfl⟩) hS hT hX.1.1 rfl hl.1 rfl (Nat.le_of_ble_eq_true rfl) ⟨by show _ ≤ 122; omega, by show _ ≤ 732; omega⟩ dL_runs_4 ?_
      refine lv_icmp_ge (tgt := 35) hx hb dL_runs_7 (by decide) (fun q => absurd q (show ¬ nI tn ≤ nI k from nI_ge (by omega) (by omega))) (fun _ => ?_)
      refine lv_aload_n hx hb dL_runs_10 rfl (lv_at hl 2 rfl) ?_
      refine lv_aload_n hx hb dL_runs_11 rfl (lv_at hl 1 rfl) ?_
      refine lv_iload_n hx hb dL_runs_12 rfl (lv_at hl 0 rfl) ?_
      refine hcXi (v := (tf k &&& 255)) (As := [.int (nI k)]) (rest := [.ref (ad 0)]) ⟨hx, hb, hml, hown, hts⟩ (kJ0_charAt_5068e l t tv tn tf k (by omega) (by omega)) (cwV 1 hts mL_runs_J0_charAt_5068e rfl rfl rfl (by decide +kernel) ⟨Nat.le_of_ble_eq_true rfl, Nat.le_of_ble_eq_true rfl⟩) hS hT hX.1.1 rfl hl.1 rfl (Nat.le_of_ble_eq_true rfl) ⟨by show _ ≤ 122; omega, by show _ ≤ 732; omega⟩ dL_runs_13 ?_
      refine hcLi (wr := []) (u := (appK tf k u)) (G := ((nI (k + 1)), (appK tf (k + 1) u))) (As := [.ref (ad 0), .int (tf k &&& 255)]) (rest := []) ⟨hx, hb, hml, hown, hts⟩ (by rw [← hw9]; exact kL_append l hfl D ca en ks vs ai ad bd _ (appK tf k u) (tf k &&& 255) (hK1 k (by omega)).1.1) (vx_cwSW 2 hts mL_runs_L_append rfl rfl rfl (by decide +kernel) ⟨Nat.le_of_ble_eq_true rfl, Nat.le_of_ble_eq_true rfl⟩) hK hP hD hS hA hX (List.Perm.refl _) rfl hl.1 rfl (Nat.le_of_ble_eq_true rfl) ⟨by show _ ≤ 122; omega, by show _ ≤ 732; omega⟩ dL_runs_16 (fun H locs hP hD hS => ?_)
      refine W.widen (k := (2 * k + 2)) (n := (12 * k + 12)) (by omega) (by omega) ?_
      refine lv_iload_n hx hb dL_runs_19 rfl (lv_at hl 0 rfl) ?_
      refine lv_iconst (v := 1) hx hb dL_runs_20 (by decide) ?_
      refine lv_iadd hx hb dL_runs_21 ?_
      refine lv_to (y := (nI (k + 1))) (nI_add k 1) ?_
      refine lv_icmp_eq (tgt := 29) hx hb dL_runs_22 (by decide) (fun _ => ?_) (fun q => absurd rfl q) 
      refine lv_iinc (v := nI (k + 1)) (lv' := [(2, .int (nI (k + 1))), (1, .ref t), (0, .ref (ad 0))]) hx hb dL_runs_29 hl (k := 0) rfl (nI_1 k) (by decide) rfl (fun ls hl => ?_)
      refine lv_goto (tgt := 2) hx hb dL_runs_32 (by decide) ?_
      refine W.widen (k := (2 * (k + 1))) (n := (12 * (k + 1))) (by omega) (by omega) ?_
      exact ih (k + 1) (by omega) _ _ hP hD hS ls (lv_sub hl [0, 1, 2] rfl)
  refine W_entry (Nat.le_of_ble_eq_true rfl) (fun ls hl => ?_)
  have hl : lv_has ls 3 [(0, .ref (ad 0)), (1, .ref t)] := hl
  refine lv_iconst (v := 0) hx hb dL_runs_0 (by decide) ?_
  refine lv_istore_n (lv' := [(2, .int 0), (0, .ref (ad 0)), (1, .ref t)]) hx hb dL_runs_1 rfl hl (by decide) rfl (fun ls hl => ?_)
  refine W.widen (k := (2 * 0)) (n := (12 * 0)) (by omega) (by omega) ?_
  exact c2 tn 0 rfl _ _ hP hD hS ls (lv_sub hl [0, 2, 1] rfl)
