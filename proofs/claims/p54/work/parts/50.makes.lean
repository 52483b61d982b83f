/-! makes -/
theorem mk_n (x : Int32) : ∃ N, 3 ≤ N ∧ N ≤ 8 ∧ 3 + fSome x 6 = nI N := by
  obtain ⟨k, hk, e, -⟩ := vp_nI (some_in (v := x) (n := 6) (N := 6) (by decide) (by decide) (by decide))
  refine ⟨3 + k, by omega, by omega, ?_⟩
  rw [e]
  exact nI_add 3 k
def wmL_makes : List Cond := .code yL_makes cL_makes 6 (some .boolean) :: (va_wsS RL 170 yL_at wsL_at ++ (va_wsS RL 174 yL_some wsL_some ++ (va_wsS RL 177 yL_addGuest wmL_addGuest ++ (va_wsS RL 180 yL_placeHat wmL_placeHat ++ (va_wsS RL 182 yL_leaveCoat wmL_leaveCoat ++ (va_wsS RL 184 yL_pass wmL_pass))))))
theorem mL_makes_L_at : GoodIn wmL_makes (va_wsS RL 170 yL_at wsL_at) := goodIn_sub (fun w h => List.mem_cons_of_mem _ (List.mem_append_left _ h)) (by decide +kernel)
theorem mL_makes_L_some : GoodIn wmL_makes (va_wsS RL 174 yL_some wsL_some) := goodIn_sub (fun w h => List.mem_cons_of_mem _ (List.mem_append_right _ (List.mem_append_left _ h))) (by decide +kernel)
theorem mL_makes_L_addGuest : GoodIn wmL_makes (va_wsS RL 177 yL_addGuest wmL_addGuest) := goodIn_sub (fun w h => List.mem_cons_of_mem _ (List.mem_append_right _ (List.mem_append_right _ (List.mem_append_left _ h)))) (by decide +kernel)
theorem mL_makes_L_placeHat : GoodIn wmL_makes (va_wsS RL 180 yL_placeHat wmL_placeHat) := goodIn_sub (fun w h => List.mem_cons_of_mem _ (List.mem_append_right _ (List.mem_append_right _ (List.mem_append_right _ (List.mem_append_left _ h))))) (by decide +kernel)
theorem mL_makes_L_leaveCoat : GoodIn wmL_makes (va_wsS RL 182 yL_leaveCoat wmL_leaveCoat) := goodIn_sub (fun w h => List.mem_cons_of_mem _ (List.mem_append_right _ (List.mem_append_right _ (List.mem_append_right _ (List.mem_append_right _ (List.mem_append_left _ h)))))) (by decide +kernel)
theorem mL_makes_L_pass : GoodIn wmL_makes (va_wsS RL 184 yL_pass wmL_pass) := goodIn_sub (fun w h => List.mem_cons_of_mem _ (List.mem_append_right _ (List.mem_append_right _ (List.mem_append_right _ (List.mem_append_right _ (List.mem_append_right _ (h))))))) (by decide +kernel)
set_option maxHeartbeats 4000000 in
set_option maxRecDepth 100000 in
theorem kL_makes (l : Launch) (hfl : l.stackTraces = false) (D : va_G) (ca : Nat → ClassId) (en ks vs : Nat → Nat) (ai : Nat → Nat → Nat) (ad bd : Nat → Nat) (sz : Nat) (u : OS) (T0 : CS) (b nn : Nat) (f : Nat → Int32) (hnn : nn ≤ 260) (hu : LX 0 u ∧ h9 (og0 u) = nI 0 ∧ og5 u = T0) : Met l yL_makes wmL_makes ({ frames := 8, cells := 52, slots := 312, locals := 128 }) (MGPc D ca (SXX en ks vs b nn f) sz (OW ca en ai ad bd u) [.ref (ad 0), .ref b]) (va_Qi (fun r v => r = 1 ∧ LX 60 v ∧ og5 v = T0) (MB D ca (va_A (OW ca en ai ad bd u) sz) (fun v => OW ca en ai ad bd v)) (va_A (OW ca en ai ad bd u) sz)) 52 312 (va_A (OW ca en ai ad bd u) sz) := by
  refine Met.ofW (cc := cL_makes) (maxL := 6) (ret := some .boolean) (by decide) rfl ?_
  intro p e s m args below meth c s₁ B hml hv
  obtain ⟨rfl, hsz, hP, hK, hD0, hXS⟩ := hv
  have hx := B.exec
  have hb := B.bytes
  have hr := B.returns
  have hts := atoms_spec (ws := wmL_makes) B.pre
  have hown : s.vm.findClass RL = some m.cls := findClass_of_methodNamed B.named
  have hlocks := B.notSynchronized
  subst hsz
  have hD := hD0.self (sz := s.heap.size)
  generalize hAe : va_A (OW ca en ai ad bd u) s.heap.size = A at hD hXS ⊢
  have hX := hXS.1
  have hSX := hXS.2
  have hA : ∀ q : Nat, s.heap.size ≤ q → A q := fun q h => by rw [← hAe]; exact Or.inr h
  have hS : va_S A s.heap s.heap [] := va_S.rf
  obtain ⟨N, hN3, hN8, hN⟩ := mk_n (fAt nn f 0)
  have c118 : ∀ (q k : Nat) (hqk : q + k = 9) (u : OS) (hu : LX 0 u ∧ h9 (og0 u) = nI N ∧ og5 u = T0) (H : Heap) (locs : List Loc) (hP : va_P D vwCl (OW ca en ai ad bd u) H) (hD : va_D A (OW ca en ai ad bd u)) (hS : va_S A s.heap H locs) (ls : Array Slot) (hl : lv_has ls 6 [(3, .int (nI k)), (2, .int (nI N)), (1, .ref b), (0, .ref (ad 0))]), W p l e (headSpec wmL_makes ({ frames := 8, cells := 52, slots := 312, locals := 128 })).room s m ([.ref (ad 0), .ref b] : List Value).toArray below meth c H locs (32 + 2 * k) (192 + 12 * k) (MQ below (va_Qi (fun r v => r = 1 ∧ LX 60 v ∧ og5 v = T0) (MB D ca A (fun v => OW ca en ai ad bd v)) A) ([.ref (ad 0), .ref b] : List Value).toArray s 52 312 A) (F0 m 118 ls []) := by
    intro q
    induction q with
    | zero =>
      intro k hqk u hu H locs hP hD hS ls hl
      obtain rfl : 9 = k := by omega
      obtain ⟨r, v, hw, hr0, hv, h5⟩ := mk_pass (x := fSome (fAt nn f 26) 60) hu.1 (some_in (by decide) (by decide) (by decide))
      refine lv_iload_n hx hb dL_makes_118 rfl (lv_at hl 0 rfl) ?_
      refine lv_bipush (v := 9) hx hb dL_makes_119 (by decide) ?_
      refine lv_icmp_ge (tgt := 171) hx hb dL_makes_121 (by decide) (fun _ => ?_) (fun q => absurd (by decide) q) 
      refine lv_aload_n hx hb dL_makes_171 rfl (lv_at hl 3 rfl) ?_
      refine lv_iconst (v := 1) hx hb dL_makes_172 (by decide) ?_
      refine lv_aload_n hx hb dL_makes_173 rfl (lv_at hl 2 rfl) ?_
      refine lv_bipush (v := 26) hx hb dL_makes_174 (by decide) ?_
      refine hcTSi (v := fAt nn f 26) (As := [.ref b, .int (nI 26)]) (rest := [.int 1, .ref (ad 0)]) ⟨hx, hb, hml, hown, hts⟩ (kL_at2 l b nn f 26 (by omega) (by omega)) (va_cwS 2 hts mL_makes_L_at rfl rfl rfl (by decide +kernel) ⟨Nat.le_of_ble_eq_true rfl, Nat.le_of_ble_eq_true rfl⟩) (SX_pre hS hSX) rfl hl.1 rfl (Nat.le_of_ble_eq_true rfl) ⟨by show _ ≤ 52; omega, by show _ ≤ 312; omega⟩ dL_makes_176 ?_
      refine lv_bipush (v := 60) hx hb dL_makes_179 (by decide) ?_
      refine hcSi (v := (fSome (fAt nn f 26) 60)) (As := [.int (fAt nn f 26), .int 60]) (rest := [.int 1, .ref (ad 0)]) ⟨hx, hb, hml, hown, hts⟩ (kL_some l (fAt nn f 26) 60 (by decide)) (va_cwS 2 hts mL_makes_L_some rfl rfl rfl (by decide +kernel) ⟨Nat.le_of_ble_eq_true rfl, Nat.le_of_ble_eq_true rfl⟩) rfl hl.1 rfl (Nat.le_of_ble_eq_true rfl) ⟨by show _ ≤ 52; omega, by show _ ≤ 312; omega⟩ dL_makes_181 ?_
      refine lv_iadd hx hb dL_makes_184 ?_
      refine hcLi (wr := []) (u := u) (G := (r, v)) (As := [.ref (ad 0), .int (1 + (fSome (fAt nn f 26) 60))]) (rest := []) ⟨hx, hb, hml, hown, hts⟩ (by rw [← hw]; exact kL_pass l hfl D ca en ks vs ai ad bd _ u (1 + (fSome (fAt nn f 26) 60)) (LX_OI hu.1)) (vx_cwSW 2 hts mL_makes_L_pass rfl rfl rfl (by decide +kernel) ⟨Nat.le_of_ble_eq_true rfl, Nat.le_of_ble_eq_true rfl⟩) hK hP hD hS hA hX (List.Perm.refl _) rfl hl.1 rfl (Nat.le_of_ble_eq_true rfl) ⟨by show _ ≤ 52; omega, by show _ ≤ 312; omega⟩ dL_makes_185 (fun H locs hP hD hS => ?_)
      refine W.widen (k := (32 + 20)) (n := (192 + 120)) (by omega) (by omega) ?_
      refine lv_if_le (tgt := 195) hx hb dL_makes_188 (by decide) (fun q => absurd q hr0) (fun _ => ?_)
      refine lv_iconst (v := 1) hx hb dL_makes_191 (by decide) ?_
      refine lv_goto (tgt := 196) hx hb dL_makes_192 (by decide) ?_
      refine W.widen (k := 52) (n := 312) (by omega) (by omega) ?_
      exact W.zret (ty := .boolean) (v := 1) hx hb hr (by decide) (fun t ht hW => ⟨⟨1, v, rfl, ⟨rfl, hv, by rw [h5]; exact hu.2.2⟩, by rw [ht]; exact hP, va_K.moved hW.alike hK, hD⟩, hS.F ht⟩) hS.2.2 dL_makes_196
    | succ q ih =>
      intro k hqk u hu H locs hP hD hS ls hl
      obtain ⟨r, v, hw, hr0, hv, h9v, h5⟩ := mk_leave (x := fSome (fAt nn f (17 + k)) (nI N)) (c := fSome (fAt nn f (17 + k) >>> (3 &&& 31)) 20) hu.1 hu.2.1 hN8 (some_in (nI_toInt (by omega)) (by omega) (by omega)) (some_in (by decide) (by decide) (by decide))
      refine lv_iload_n hx hb dL_makes_118 rfl (lv_at hl 0 rfl) ?_
      refine lv_bipush (v := 9) hx hb dL_makes_119 (by decide) ?_
      refine lv_icmp_ge (tgt := 171) hx hb dL_makes_121 (by decide) (fun q => absurd q (show ¬ (9 : Int32) ≤ nI k from nI_ge (b := 9) (by omega) (by decide))) (fun _ => ?_)
      refine lv_aload_n hx hb dL_makes_124 rfl (lv_at hl 2 rfl) ?_
      refine lv_bipush (v := 17) hx hb dL_makes_125 (by decide) ?_
      refine lv_iload_n hx hb dL_makes_127 rfl (lv_at hl 0 rfl) ?_
      refine lv_iadd hx hb dL_makes_128 ?_
      refine lv_to (y := (nI (17 + k))) (nI_add 17 k) ?_
      refine hcTSi (v := fAt nn f (17 + k)) (As := [.ref b, .int (nI (17 + k))]) (rest := []) ⟨hx, hb, hml, hown, hts⟩ (kL_at2 l b nn f (17 + k) (by omega) (by omega)) (va_cwS 2 hts mL_makes_L_at rfl rfl rfl (by decide +kernel) ⟨Nat.le_of_ble_eq_true rfl, Nat.le_of_ble_eq_true rfl⟩) (SX_pre hS hSX) rfl hl.1 rfl (Nat.le_of_ble_eq_true rfl) ⟨by show _ ≤ 52; omega, by show _ ≤ 312; omega⟩ dL_makes_129 ?_
      refine lv_istore (lv' := [(4, .int (fAt nn f (17 + k))), (3, .int (nI k)), (2, .int (nI N)), (1, .ref b), (0, .ref (ad 0))]) hx hb dL_makes_132 hl (by decide) rfl (fun ls hl => ?_)
      refine lv_aload_n hx hb dL_makes_134 rfl (lv_at hl 4 rfl) ?_
      refine lv_iload hx hb dL_makes_135 (lv_at hl 0 rfl) ?_
      refine lv_iload_n hx hb dL_makes_137 rfl (lv_at hl 2 rfl) ?_
      refine hcSi (v := (fSome (fAt nn f (17 + k)) (nI N))) (As := [.int (fAt nn f (17 + k)), .int (nI N)]) (rest := [.ref (ad 0)]) ⟨hx, hb, hml, hown, hts⟩ (kL_some l (fAt nn f (17 + k)) (nI N) (nI_ne0 (by omega) (by omega))) (va_cwS 2 hts mL_makes_L_some rfl rfl rfl (by decide +kernel) ⟨Nat.le_of_ble_eq_true rfl, Nat.le_of_ble_eq_true rfl⟩) rfl hl.1 rfl (Nat.le_of_ble_eq_true rfl) ⟨by show _ ≤ 52; omega, by show _ ≤ 312; omega⟩ dL_makes_138 ?_
      refine lv_iload hx hb dL_makes_141 (lv_at hl 0 rfl) ?_
      refine lv_iconst (v := 3) hx hb dL_makes_143 (by decide) ?_
      refine lv_ishr hx hb dL_makes_144 ?_
      refine lv_bipush (v := 20) hx hb dL_makes_145 (by decide) ?_
      refine hcSi (v := (fSome ((fAt nn f (17 + k)) >>> (3 &&& 31)) 20)) (As := [.int ((fAt nn f (17 + k)) >>> (3 &&& 31)), .int 20]) (rest := [.int (fSome (fAt nn f (17 + k)) (nI N)), .ref (ad 0)]) ⟨hx, hb, hml, hown, hts⟩ (kL_some l ((fAt nn f (17 + k)) >>> (3 &&& 31)) 20 (by decide)) (va_cwS 2 hts mL_makes_L_some rfl rfl rfl (by decide +kernel) ⟨Nat.le_of_ble_eq_true rfl, Nat.le_of_ble_eq_true rfl⟩) rfl hl.1 rfl (Nat.le_of_ble_eq_true rfl) ⟨by show _ ≤ 52; omega, by show _ ≤ 312; omega⟩ dL_makes_147 ?_
      refine hcLi (wr := []) (u := u) (G := (r, v)) (As := [.ref (ad 0), .int (fSome (fAt nn f (17 + k)) (nI N)), .int (fSome ((fAt nn f (17 + k)) >>> (3 &&& 31)) 20)]) (rest := []) ⟨hx, hb, hml, hown, hts⟩ (by rw [← hw]; exact kL_leaveCoat l hfl D ca en ks vs ai ad bd _ u (fSome (fAt nn f (17 + k)) (nI N)) (fSome ((fAt nn f (17 + k)) >>> (3 &&& 31)) 20) (LX_OI hu.1)) (vx_cwSW 3 hts mL_makes_L_leaveCoat rfl rfl rfl (by decide +kernel) ⟨Nat.le_of_ble_eq_true rfl, Nat.le_of_ble_eq_true rfl⟩) hK hP hD hS hA hX (List.Perm.refl _) rfl hl.1 rfl (Nat.le_of_ble_eq_true rfl) ⟨by show _ ≤ 52; omega, by show _ ≤ 312; omega⟩ dL_makes_150 (fun H locs hP hD hS => ?_)
      refine W.widen (k := (32 + 2 * k + 2)) (n := (192 + 12 * k + 12)) (by omega) (by omega) ?_
      refine lv_istore (lv' := [(5, .int r), (4, .int (fAt nn f (17 + k))), (3, .int (nI k)), (2, .int (nI N)), (1, .ref b), (0, .ref (ad 0))]) hx hb dL_makes_153 hl (by decide) rfl (fun ls hl => ?_)
      refine lv_iload hx hb dL_makes_155 (lv_at hl 0 rfl) ?_
      refine lv_sipush (v := (-1001)) hx hb dL_makes_157 (by decide) ?_
      refine lv_icmp_ne (tgt := 165) hx hb dL_makes_160 (by decide) (fun _ => ?_) (fun q => absurd q hr0) 
      refine lv_iinc (v := nI (k + 1)) (lv' := [(3, .int (nI (k + 1))), (5, .int r), (4, .int (fAt nn f (17 + k))), (2, .int (nI N)), (1, .ref b), (0, .ref (ad 0))]) hx hb dL_makes_165 hl (k := 2) rfl (nI_1 k) (by decide) rfl (fun ls hl => ?_)
      refine lv_goto (tgt := 118) hx hb dL_makes_168 (by decide) ?_
      refine W.widen (k := (32 + 2 * (k + 1))) (n := (192 + 12 * (k + 1))) (by omega) (by omega) ?_
      exact ih (k + 1) (by omega) v ⟨hv, h9v, by rw [h5]; exact hu.2.2⟩ _ _ hP hD hS ls (lv_sub hl [0, 3, 4, 5] rfl)
  have c63 : ∀ (q k : Nat) (hqk : q + k = 8) (u : OS) (hu : LX 0 u ∧ h9 (og0 u) = nI N ∧ og5 u = T0) (H : Heap) (locs : List Loc) (hP : va_P D vwCl (OW ca en ai ad bd u) H) (hD : va_D A (OW ca en ai ad bd u)) (hS : va_S A s.heap H locs) (ls : Array Slot) (hl : lv_has ls 6 [(3, .int (nI k)), (2, .int (nI N)), (1, .ref b), (0, .ref (ad 0))]), W p l e (headSpec wmL_makes ({ frames := 8, cells := 52, slots := 312, locals := 128 })).room s m ([.ref (ad 0), .ref b] : List Value).toArray below meth c H locs (16 + 2 * k) (96 + 12 * k) (MQ below (va_Qi (fun r v => r = 1 ∧ LX 60 v ∧ og5 v = T0) (MB D ca A (fun v => OW ca en ai ad bd v)) A) ([.ref (ad 0), .ref b] : List Value).toArray s 52 312 A) (F0 m 63 ls []) := by
    intro q
    induction q with
    | zero =>
      intro k hqk u hu H locs hP hD hS ls hl
      obtain rfl : 8 = k := by omega
      refine lv_iload_n hx hb dL_makes_63 rfl (lv_at hl 0 rfl) ?_
      refine lv_bipush (v := 8) hx hb dL_makes_64 (by decide) ?_
      refine lv_icmp_ge (tgt := 116) hx hb dL_makes_66 (by decide) (fun _ => ?_) (fun q => absurd (by decide) q) 
      refine lv_iconst (v := 0) hx hb dL_makes_116 (by decide) ?_
      refine lv_istore_n (lv' := [(3, .int 0), (2, .int (nI N)), (1, .ref b), (0, .ref (ad 0))]) hx hb dL_makes_117 rfl hl (by decide) rfl (fun ls hl => ?_)
      refine W.widen (k := (32 + 2 * 0)) (n := (192 + 12 * 0)) (by omega) (by omega) ?_
      exact c118 9 0 rfl u hu _ _ hP hD hS ls (lv_sub hl [0, 1, 2, 3] rfl)
    | succ q ih =>
      intro k hqk u hu H locs hP hD hS ls hl
      obtain ⟨r, v, hw, hr0, hv, h9v, h5⟩ := mk_place (x := fSome (fAt nn f (9 + k)) (nI N)) (c := fSome (fAt nn f (9 + k) >>> (3 &&& 31)) 20) hu.1 hu.2.1 hN8 (some_in (nI_toInt (by omega)) (by omega) (by omega)) (some_in (by decide) (by decide) (by decide))
      refine lv_iload_n hx hb dL_makes_63 rfl (lv_at hl 0 rfl) ?_
      refine lv_bipush (v := 8) hx hb dL_makes_64 (by decide) ?_
      refine lv_icmp_ge (tgt := 116) hx hb dL_makes_66 (by decide) (fun q => absurd q (show ¬ (8 : Int32) ≤ nI k from nI_ge (b := 8) (by omega) (by decide))) (fun _ => ?_)
      refine lv_aload_n hx hb dL_makes_69 rfl (lv_at hl 2 rfl) ?_
      refine lv_bipush (v := 9) hx hb dL_makes_70 (by decide) ?_
      refine lv_iload_n hx hb dL_makes_72 rfl (lv_at hl 0 rfl) ?_
      refine lv_iadd hx hb dL_makes_73 ?_
      refine lv_to (y := (nI (9 + k))) (nI_add 9 k) ?_
      refine hcTSi (v := fAt nn f (9 + k)) (As := [.ref b, .int (nI (9 + k))]) (rest := []) ⟨hx, hb, hml, hown, hts⟩ (kL_at2 l b nn f (9 + k) (by omega) (by omega)) (va_cwS 2 hts mL_makes_L_at rfl rfl rfl (by decide +kernel) ⟨Nat.le_of_ble_eq_true rfl, Nat.le_of_ble_eq_true rfl⟩) (SX_pre hS hSX) rfl hl.1 rfl (Nat.le_of_ble_eq_true rfl) ⟨by show _ ≤ 52; omega, by show _ ≤ 312; omega⟩ dL_makes_74 ?_
      refine lv_istore (lv' := [(4, .int (fAt nn f (9 + k))), (3, .int (nI k)), (2, .int (nI N)), (1, .ref b), (0, .ref (ad 0))]) hx hb dL_makes_77 hl (by decide) rfl (fun ls hl => ?_)
      refine lv_aload_n hx hb dL_makes_79 rfl (lv_at hl 4 rfl) ?_
      refine lv_iload hx hb dL_makes_80 (lv_at hl 0 rfl) ?_
      refine lv_iload_n hx hb dL_makes_82 rfl (lv_at hl 2 rfl) ?_
      refine hcSi (v := (fSome (fAt nn f (9 + k)) (nI N))) (As := [.int (fAt nn f (9 + k)), .int (nI N)]) (rest := [.ref (ad 0)]) ⟨hx, hb, hml, hown, hts⟩ (kL_some l (fAt nn f (9 + k)) (nI N) (nI_ne0 (by omega) (by omega))) (va_cwS 2 hts mL_makes_L_some rfl rfl rfl (by decide +kernel) ⟨Nat.le_of_ble_eq_true rfl, Nat.le_of_ble_eq_true rfl⟩) rfl hl.1 rfl (Nat.le_of_ble_eq_true rfl) ⟨by show _ ≤ 52; omega, by show _ ≤ 312; omega⟩ dL_makes_83 ?_
      refine lv_iload hx hb dL_makes_86 (lv_at hl 0 rfl) ?_
      refine lv_iconst (v := 3) hx hb dL_makes_88 (by decide) ?_
      refine lv_ishr hx hb dL_makes_89 ?_
      refine lv_bipush (v := 20) hx hb dL_makes_90 (by decide) ?_
      refine hcSi (v := (fSome ((fAt nn f (9 + k)) >>> (3 &&& 31)) 20)) (As := [.int ((fAt nn f (9 + k)) >>> (3 &&& 31)), .int 20]) (rest := [.int (fSome (fAt nn f (9 + k)) (nI N)), .ref (ad 0)]) ⟨hx, hb, hml, hown, hts⟩ (kL_some l ((fAt nn f (9 + k)) >>> (3 &&& 31)) 20 (by decide)) (va_cwS 2 hts mL_makes_L_some rfl rfl rfl (by decide +kernel) ⟨Nat.le_of_ble_eq_true rfl, Nat.le_of_ble_eq_true rfl⟩) rfl hl.1 rfl (Nat.le_of_ble_eq_true rfl) ⟨by show _ ≤ 52; omega, by show _ ≤ 312; omega⟩ dL_makes_92 ?_
      refine hcLi (wr := []) (u := u) (G := (r, v)) (As := [.ref (ad 0), .int (fSome (fAt nn f (9 + k)) (nI N)), .int (fSome ((fAt nn f (9 + k)) >>> (3 &&& 31)) 20)]) (rest := []) ⟨hx, hb, hml, hown, hts⟩ (by rw [← hw]; exact kL_placeHat l hfl D ca en ks vs ai ad bd _ u (fSome (fAt nn f (9 + k)) (nI N)) (fSome ((fAt nn f (9 + k)) >>> (3 &&& 31)) 20) (LX_OI hu.1)) (vx_cwSW 3 hts mL_makes_L_placeHat rfl rfl rfl (by decide +kernel) ⟨Nat.le_of_ble_eq_true rfl, Nat.le_of_ble_eq_true rfl⟩) hK hP hD hS hA hX (List.Perm.refl _) rfl hl.1 rfl (Nat.le_of_ble_eq_true rfl) ⟨by show _ ≤ 52; omega, by show _ ≤ 312; omega⟩ dL_makes_95 (fun H locs hP hD hS => ?_)
      refine W.widen (k := (16 + 2 * k + 2)) (n := (96 + 12 * k + 12)) (by omega) (by omega) ?_
      refine lv_istore (lv' := [(5, .int r), (4, .int (fAt nn f (9 + k))), (3, .int (nI k)), (2, .int (nI N)), (1, .ref b), (0, .ref (ad 0))]) hx hb dL_makes_98 hl (by decide) rfl (fun ls hl => ?_)
      refine lv_iload hx hb dL_makes_100 (lv_at hl 0 rfl) ?_
      refine lv_sipush (v := (-1001)) hx hb dL_makes_102 (by decide) ?_
      refine lv_icmp_ne (tgt := 110) hx hb dL_makes_105 (by decide) (fun _ => ?_) (fun q => absurd q hr0) 
      refine lv_iinc (v := nI (k + 1)) (lv' := [(3, .int (nI (k + 1))), (5, .int r), (4, .int (fAt nn f (9 + k))), (2, .int (nI N)), (1, .ref b), (0, .ref (ad 0))]) hx hb dL_makes_110 hl (k := 2) rfl (nI_1 k) (by decide) rfl (fun ls hl => ?_)
      refine lv_goto (tgt := 63) hx hb dL_makes_113 (by decide) ?_
      refine W.widen (k := (16 + 2 * (k + 1))) (n := (96 + 12 * (k + 1))) (by omega) (by omega) ?_
      exact ih (k + 1) (by omega) v ⟨hv, h9v, by rw [h5]; exact hu.2.2⟩ _ _ hP hD hS ls (lv_sub hl [0, 3, 4, 5] rfl)
  have c15 : ∀ (q k : Nat) (hqk : q + k = N) (u : OS) (hu : LX 0 u ∧ h9 (og0 u) = nI k ∧ og5 u = T0) (H : Heap) (locs : List Loc) (hP : va_P D vwCl (OW ca en ai ad bd u) H) (hD : va_D A (OW ca en ai ad bd u)) (hS : va_S A s.heap H locs) (ls : Array Slot) (hl : lv_has ls 6 [(3, .int (nI k)), (2, .int (nI N)), (1, .ref b), (0, .ref (ad 0))]), W p l e (headSpec wmL_makes ({ frames := 8, cells := 52, slots := 312, locals := 128 })).room s m ([.ref (ad 0), .ref b] : List Value).toArray below meth c H locs (2 * k) (12 * k) (MQ below (va_Qi (fun r v => r = 1 ∧ LX 60 v ∧ og5 v = T0) (MB D ca A (fun v => OW ca en ai ad bd v)) A) ([.ref (ad 0), .ref b] : List Value).toArray s 52 312 A) (F0 m 15 ls []) := by
    intro q
    induction q with
    | zero =>
      intro k hqk u hu H locs hP hD hS ls hl
      obtain rfl : N = k := by omega
      refine lv_iload_n hx hb dL_makes_15 rfl (lv_at hl 0 rfl) ?_
      refine lv_iload_n hx hb dL_makes_16 rfl (lv_at hl 1 rfl) ?_
      refine lv_icmp_ge (tgt := 61) hx hb dL_makes_17 (by decide) (fun _ => ?_) (fun q => absurd (Int32.le_refl _) q) 
      refine lv_iconst (v := 0) hx hb dL_makes_61 (by decide) ?_
      refine lv_istore_n (lv' := [(3, .int 0), (2, .int (nI N)), (1, .ref b), (0, .ref (ad 0))]) hx hb dL_makes_62 rfl hl (by decide) rfl (fun ls hl => ?_)
      refine W.widen (k := (16 + 2 * 0)) (n := (96 + 12 * 0)) (by omega) (by omega) ?_
      exact c63 8 0 rfl u hu _ _ hP hD hS ls (lv_sub hl [0, 1, 2, 3] rfl)
    | succ q ih =>
      intro k hqk u hu H locs hP hD hS ls hl
      obtain ⟨v, hw, hv, h9v, h5⟩ := mk_add (x := fSome (fAt nn f (1 + k)) 10) (y := fSome (fAt nn f (1 + k) >>> (4 &&& 31)) 3) hu.1 hu.2.1 (by omega) (some_in (by decide) (by decide) (by decide)) (some_in (by decide) (by decide) (by decide))
      refine lv_iload_n hx hb dL_makes_15 rfl (lv_at hl 0 rfl) ?_
      refine lv_iload_n hx hb dL_makes_16 rfl (lv_at hl 1 rfl) ?_
      refine lv_icmp_ge (tgt := 61) hx hb dL_makes_17 (by decide) (fun q => absurd q (show ¬ nI N ≤ nI k from nI_ge (by omega) (by omega))) (fun _ => ?_)
      refine lv_aload_n hx hb dL_makes_20 rfl (lv_at hl 3 rfl) ?_
      refine lv_aload_n hx hb dL_makes_21 rfl (lv_at hl 2 rfl) ?_
      refine lv_iconst (v := 1) hx hb dL_makes_22 (by decide) ?_
      refine lv_iload_n hx hb dL_makes_23 rfl (lv_at hl 0 rfl) ?_
      refine lv_iadd hx hb dL_makes_24 ?_
      refine lv_to (y := (nI (1 + k))) (nI_add 1 k) ?_
      refine hcTSi (v := fAt nn f (1 + k)) (As := [.ref b, .int (nI (1 + k))]) (rest := [.ref (ad 0)]) ⟨hx, hb, hml, hown, hts⟩ (kL_at2 l b nn f (1 + k) (by omega) (by omega)) (va_cwS 2 hts mL_makes_L_at rfl rfl rfl (by decide +kernel) ⟨Nat.le_of_ble_eq_true rfl, Nat.le_of_ble_eq_true rfl⟩) (SX_pre hS hSX) rfl hl.1 rfl (Nat.le_of_ble_eq_true rfl) ⟨by show _ ≤ 52; omega, by show _ ≤ 312; omega⟩ dL_makes_25 ?_
      refine lv_bipush (v := 10) hx hb dL_makes_28 (by decide) ?_
      refine hcSi (v := (fSome (fAt nn f (1 + k)) 10)) (As := [.int (fAt nn f (1 + k)), .int 10]) (rest := [.ref (ad 0)]) ⟨hx, hb, hml, hown, hts⟩ (kL_some l (fAt nn f (1 + k)) 10 (by decide)) (va_cwS 2 hts mL_makes_L_some rfl rfl rfl (by decide +kernel) ⟨Nat.le_of_ble_eq_true rfl, Nat.le_of_ble_eq_true rfl⟩) rfl hl.1 rfl (Nat.le_of_ble_eq_true rfl) ⟨by show _ ≤ 52; omega, by show _ ≤ 312; omega⟩ dL_makes_30 ?_
      refine lv_aload_n hx hb dL_makes_33 rfl (lv_at hl 2 rfl) ?_
      refine lv_iconst (v := 1) hx hb dL_makes_34 (by decide) ?_
      refine lv_iload_n hx hb dL_makes_35 rfl (lv_at hl 0 rfl) ?_
      refine lv_iadd hx hb dL_makes_36 ?_
      refine lv_to (y := (nI (1 + k))) (nI_add 1 k) ?_
      refine hcTSi (v := fAt nn f (1 + k)) (As := [.ref b, .int (nI (1 + k))]) (rest := [.int (fSome (fAt nn f (1 + k)) 10), .ref (ad 0)]) ⟨hx, hb, hml, hown, hts⟩ (kL_at2 l b nn f (1 + k) (by omega) (by omega)) (va_cwS 2 hts mL_makes_L_at rfl rfl rfl (by decide +kernel) ⟨Nat.le_of_ble_eq_true rfl, Nat.le_of_ble_eq_true rfl⟩) (SX_pre hS hSX) rfl hl.1 rfl (Nat.le_of_ble_eq_true rfl) ⟨by show _ ≤ 52; omega, by show _ ≤ 312; omega⟩ dL_makes_37 ?_
      refine lv_iconst (v := 4) hx hb dL_makes_40 (by decide) ?_
      refine lv_ishr hx hb dL_makes_41 ?_
      refine lv_iconst (v := 3) hx hb dL_makes_42 (by decide) ?_
      refine hcSi (v := (fSome ((fAt nn f (1 + k)) >>> (4 &&& 31)) 3)) (As := [.int ((fAt nn f (1 + k)) >>> (4 &&& 31)), .int 3]) (rest := [.int (fSome (fAt nn f (1 + k)) 10), .ref (ad 0)]) ⟨hx, hb, hml, hown, hts⟩ (kL_some l ((fAt nn f (1 + k)) >>> (4 &&& 31)) 3 (by decide)) (va_cwS 2 hts mL_makes_L_some rfl rfl rfl (by decide +kernel) ⟨Nat.le_of_ble_eq_true rfl, Nat.le_of_ble_eq_true rfl⟩) rfl hl.1 rfl (Nat.le_of_ble_eq_true rfl) ⟨by show _ ≤ 52; omega, by show _ ≤ 312; omega⟩ dL_makes_43 ?_
      refine hcLi (wr := []) (u := u) (G := ((nI k), v)) (As := [.ref (ad 0), .int (fSome (fAt nn f (1 + k)) 10), .int (fSome ((fAt nn f (1 + k)) >>> (4 &&& 31)) 3)]) (rest := []) ⟨hx, hb, hml, hown, hts⟩ (by rw [← hw]; exact kL_addGuest l hfl D ca en ks vs ai ad bd _ u (fSome (fAt nn f (1 + k)) 10) (fSome ((fAt nn f (1 + k)) >>> (4 &&& 31)) 3) (LX_OI hu.1)) (vx_cwSW 3 hts mL_makes_L_addGuest rfl rfl rfl (by decide +kernel) ⟨Nat.le_of_ble_eq_true rfl, Nat.le_of_ble_eq_true rfl⟩) hK hP hD hS hA hX (List.Perm.refl _) rfl hl.1 rfl (Nat.le_of_ble_eq_true rfl) ⟨by show _ ≤ 52; omega, by show _ ≤ 312; omega⟩ dL_makes_46 (fun H locs hP hD hS => ?_)
      refine W.widen (k := (2 * k + 2)) (n := (12 * k + 12)) (by omega) (by omega) ?_
      refine lv_iload_n hx hb dL_makes_49 rfl (lv_at hl 0 rfl) ?_
      refine lv_icmp_eq (tgt := 55) hx hb dL_makes_50 (by decide) (fun _ => ?_) (fun q => absurd rfl q) 
      refine lv_iinc (v := nI (k + 1)) (lv' := [(3, .int (nI (k + 1))), (2, .int (nI N)), (1, .ref b), (0, .ref (ad 0))]) hx hb dL_makes_55 hl (k := 0) rfl (nI_1 k) (by decide) rfl (fun ls hl => ?_)
      refine lv_goto (tgt := 15) hx hb dL_makes_58 (by decide) ?_
      refine W.widen (k := (2 * (k + 1))) (n := (12 * (k + 1))) (by omega) (by omega) ?_
      exact ih (k + 1) (by omega) v ⟨hv, h9v, by rw [h5]; exact hu.2.2⟩ _ _ hP hD hS ls (lv_sub hl [0, 1, 2, 3] rfl)
  refine W_entry (Nat.le_of_ble_eq_true rfl) (fun ls hl => ?_)
  have hl : lv_has ls 6 [(0, .ref (ad 0)), (1, .ref b)] := hl
  refine lv_iconst (v := 3) hx hb dL_makes_0 (by decide) ?_
  refine lv_aload_n hx hb dL_makes_1 rfl (lv_at hl 1 rfl) ?_
  refine lv_iconst (v := 0) hx hb dL_makes_2 (by decide) ?_
  refine hcTSi (v := fAt nn f 0) (As := [.ref b, .int (nI 0)]) (rest := [.int 3]) ⟨hx, hb, hml, hown, hts⟩ (kL_at2 l b nn f 0 (by omega) (by omega)) (va_cwS 2 hts mL_makes_L_at rfl rfl rfl (by decide +kernel) ⟨Nat.le_of_ble_eq_true rfl, Nat.le_of_ble_eq_true rfl⟩) (SX_pre hS hSX) rfl hl.1 rfl (Nat.le_of_ble_eq_true rfl) ⟨by show _ ≤ 52; omega, by show _ ≤ 312; omega⟩ dL_makes_3 ?_
  refine lv_bipush (v := 6) hx hb dL_makes_6 (by decide) ?_
  refine hcSi (v := (fSome (fAt nn f 0) 6)) (As := [.int (fAt nn f 0), .int 6]) (rest := [.int 3]) ⟨hx, hb, hml, hown, hts⟩ (kL_some l (fAt nn f 0) 6 (by decide)) (va_cwS 2 hts mL_makes_L_some rfl rfl rfl (by decide +kernel) ⟨Nat.le_of_ble_eq_true rfl, Nat.le_of_ble_eq_true rfl⟩) rfl hl.1 rfl (Nat.le_of_ble_eq_true rfl) ⟨by show _ ≤ 52; omega, by show _ ≤ 312; omega⟩ dL_makes_8 ?_
  refine lv_iadd hx hb dL_makes_11 ?_
  refine lv_to (y := (nI N)) (hN) ?_
  refine lv_istore_n (lv' := [(2, .int (nI N)), (0, .ref (ad 0)), (1, .ref b)]) hx hb dL_makes_12 rfl hl (by decide) rfl (fun ls hl => ?_)
  refine lv_iconst (v := 0) hx hb dL_makes_13 (by decide) ?_
  refine lv_istore_n (lv' := [(3, .int 0), (2, .int (nI N)), (0, .ref (ad 0)), (1, .ref b)]) hx hb dL_makes_14 rfl hl (by decide) rfl (fun ls hl => ?_)
  refine W.widen (k := (2 * 0)) (n := (12 * 0)) (by omega) (by omega) ?_
  exact c15 N 0 rfl u hu _ _ hP hD hS ls (lv_sub hl [0, 1, 3, 2] rfl)
