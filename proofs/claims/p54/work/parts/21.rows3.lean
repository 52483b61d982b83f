/-! the commands' constants, their keywords, what stands still -/
def kNM : List String := ["GUEST", "HAT", "LIFT", "TOUCH", "COAT", "FETCH", "CONTEST", "PASS", "SWEEP", "FEATHER"]
def kFD : List Int32 := [1, 1, 1, 1, 1, 1, 1, 3, 3, 1]
def kSP : List Int32 := [0, 1, 0, 0, 1, 0, 1, 0, 0, 0]
def kSD : List Int32 := [1, 3, 0, 0, 3, 0, 3, 0, 0, 0]
def kOR : List Int32 := [0, 1, 2, 3, 4, 5, 6, 7, 8, 9]
def kSM : List Int32 := [1, 2, 3, 4, 5, 6, 7, 8, 9, 0]
def kWD : List (List Int32) := [[103, 117, 101, 115, 116, 32], [104, 97, 116, 32], [108, 105, 102, 116, 32], [116, 111, 117, 99, 104, 32], [99, 111, 97, 116, 32], [102, 101, 116, 99, 104, 32], [99, 111, 110, 116, 101, 115, 116, 32], [112, 97, 115, 115, 32], [115, 119, 101, 101, 112, 32], [102, 101, 97, 116, 104, 101, 114, 32]]
def kwL (i : Nat) : Nat := (kWD.getD i []).length
def kwF (i j : Nat) : Int32 := (kWD.getD i []).getD j 0
def kFL : List (String × String × String × List Int32) := [("java/lang/Enum", "ordinal", "I", kOR), ("HatReservations$Command", "firstDigits", "I", kFD), ("HatReservations$Command", "isSpaced", "Z", kSP), ("HatReservations$Command", "secondDigits", "I", kSD)]
theorem kwL_lt : ∀ i, kwL i < 10 := by
  intro i
  match i with
  | 0 | 1 | 2 | 3 | 4 | 5 | 6 | 7 | 8 | 9 => decide
  | n + 10 => exact Nat.lt_of_le_of_lt (Nat.le_of_eq (show kwL (n + 10) = 0 from rfl)) (by decide)
/-- what the commands' methods need of what stands still -/
def KX (en ks vs : Nat → Nat) (A : Nat → Prop) (U : State) (H : Heap) : Prop := XS A U H ∧ va_En "HatReservations$Command" "LHatReservations$Command;" kNM kFL en A U H ∧ (∀ i, i < 10 → va_OF "HatReservations$Command" "keyword" "Ljava/lang/String;" (.ref (ks i)) (en i) A U H ∧ TX (ks i) (vs i) (kwL i) (kwF i) A U H) ∧ (∃ t, va_Z "HatReservations" "COMMANDS" "[LHatReservations$Command;" (.ref t) A U H ∧ va_T (.object "HatReservations$Command") t 10 (fun j => .ref (en j)) A U H) ∧ (∃ t, va_Z "HatReservations$1" "$SwitchMap$HatReservations$Command" "[I" (.ref t) A U H ∧ va_T .int t 10 (fun j => .int (kSM.getD j 0)) A U H) ∧ va_Nw (.fieldLinkNest "HatReservations$CommandText" 68 "HatReservations" "COMMANDS" "[LHatReservations$Command;" "HatReservations") U
/-- a predicate on what stands still: it moves with the tables, keeps with the heap, narrows -/
def SXok (X : (Nat → Prop) → State → Heap → Prop) : Prop := (∀ (A : Nat → Prop) (u U : State) (H : Heap), u.WarmedH U.vm → X A u H → X A U H) ∧ (∀ (A : Nat → Prop) (u U : State) (H : Heap), U.vm = u.vm → X A u H → X A U H) ∧ (∀ (A : Nat → Prop) (U : State) (H H1 : Heap), X A U H → (∀ a : Nat, a < H.size → ¬ A a → H1[a]? = H[a]?) → X A U H1) ∧ ∀ (A B : Nat → Prop) (U : State) (H : Heap), X A U H → (∀ q, B q → A q) → X B U H
theorem alike_of_same {u U : State} (h : U.vm = u.vm) : u.vm.Alike U.vm := by rw [h]; exact Vm.Alike.refl _
theorem KX_ok (en ks vs : Nat → Nat) : SXok (KX en ks vs) := by
  refine ⟨fun A u U H hW h => ?_, fun A u U H hv h => ?_, fun A U H H1 h hq => ?_, fun A B U H h hAB => ?_⟩
  · obtain ⟨h1, h2, h3, ⟨t, h4, h5⟩, ⟨t', h6, h7⟩, h8⟩ := h
    exact ⟨h1.moved hW.alike, va_En.moved hW.alike h2, fun i hi => ⟨va_OF.moved hW.alike (h3 i hi).1, (h3 i hi).2.moved hW.alike⟩, ⟨t, va_Z.moved hW.alike h4, va_T.moved hW.alike h5⟩, ⟨t', va_Z.moved hW.alike h6, va_T.moved hW.alike h7⟩, va_Nw.warmF hW h8⟩
  · have ha := alike_of_same hv
    obtain ⟨h1, h2, h3, ⟨t, h4, h5⟩, ⟨t', h6, h7⟩, h8⟩ := h
    exact ⟨h1.moved ha, va_En.moved ha h2, fun i hi => ⟨va_OF.moved ha (h3 i hi).1, (h3 i hi).2.moved ha⟩, ⟨t, va_Z.moved ha h4, va_T.moved ha h5⟩, ⟨t', va_Z.moved ha h6, va_T.moved ha h7⟩, va_Nw.same rfl hv.symm h8⟩
  · obtain ⟨h1, h2, h3, ⟨t, h4, h5⟩, ⟨t', h6, h7⟩, h8⟩ := h
    exact ⟨h1.kept hq, h2.kept hq, fun i hi => ⟨(h3 i hi).1.kept hq, (h3 i hi).2.kept hq⟩, ⟨t, h4.kept hq, h5.kept hq⟩, ⟨t', h6.kept hq, h7.kept hq⟩, h8⟩
  · obtain ⟨h1, h2, h3, ⟨t, h4, h5⟩, ⟨t', h6, h7⟩, h8⟩ := h
    exact ⟨h1.narrow hAB, h2.narrow hAB, fun i hi => ⟨(h3 i hi).1.narrow hAB, (h3 i hi).2.narrow hAB⟩, ⟨t, h4.narrow hAB, h5.narrow hAB⟩, ⟨t', h6.narrow hAB, h7.narrow hAB⟩, h8⟩
/-! contracts with what stands still -/
def RGPc (D : va_G) (ca : Nat → ClassId) (X : (Nat → Prop) → State → Heap → Prop) (ws : va_W) (av : List Value) : Array Value → State → Prop := va_Pc av (fun U => va_P D vwCl ws U.heap ∧ va_K D vwCl (TYS ca) U ∧ X FF U U.heap)
def MGPc (D : va_G) (ca : Nat → ClassId) (X : (Nat → Prop) → State → Heap → Prop) (sz : Nat) (ws : va_W) (av : List Value) : Array Value → State → Prop := va_Pc av (fun U => U.heap.size = sz ∧ va_P D vwCl ws U.heap ∧ va_K D vwCl (TYS ca) U ∧ va_D (fun _ => True) ws ∧ X (va_A ws sz) U U.heap)
def RTPc (D : va_G) (ca : Nat → ClassId) (ws : va_W) (t v n : Nat) (f : Nat → Int32) (av : List Value) : Array Value → State → Prop := va_Pc av (fun U => va_P D vwCl ws U.heap ∧ va_K D vwCl (TYS ca) U ∧ TX t v n f FF U U.heap ∧ XS FF U U.heap)
theorem RGPc_blind {D : va_G} {ca : Nat → ClassId} {X : (Nat → Prop) → State → Heap → Prop} (hX : SXok X) {ws : va_W} {av : List Value} : FrameBlind (RGPc D ca X ws av) := fun a U g mk q => by
  obtain ⟨q0, qP, qK, qX⟩ := q
  exact ⟨q0, qP, va_K.moved (u := U) (U := U.calling g mk a) (Vm.Alike.refl U.vm) qK, hX.2.1 _ U (U.calling g mk a) _ rfl qX⟩
theorem MGPc_blind {D : va_G} {ca : Nat → ClassId} {X : (Nat → Prop) → State → Heap → Prop} (hX : SXok X) {sz : Nat} {ws : va_W} {av : List Value} : FrameBlind (MGPc D ca X sz ws av) := fun a U g mk q => by
  obtain ⟨q0, q1, qP, qK, qD, qX⟩ := q
  exact ⟨q0, q1, qP, va_K.moved (u := U) (U := U.calling g mk a) (Vm.Alike.refl U.vm) qK, qD, hX.2.1 _ U (U.calling g mk a) _ rfl qX⟩
theorem RTPc_blind {D : va_G} {ca : Nat → ClassId} {ws : va_W} {t v n : Nat} {f : Nat → Int32} {av : List Value} : FrameBlind (RTPc D ca ws t v n f av) := fun a U g mk q => by
  obtain ⟨q0, qP, qK, qT, qX⟩ := q
  exact ⟨q0, qP, va_K.moved (u := U) (U := U.calling g mk a) (Vm.Alike.refl U.vm) qK, TX.moved (u := U) (U := U.calling g mk a) (Vm.Alike.refl U.vm) qT, XS.moved (u := U) (U := U.calling g mk a) (Vm.Alike.refl U.vm) qX⟩
theorem X_at {X : (Nat → Prop) → State → Heap → Prop} (ok : SXok X) {A B : Nat → Prop} {s U : State} {H : Heap} {locs : List Loc} (hX : X A s s.heap) (hS : va_S A s.heap H locs) (hB : ∀ q, B q → A q) (hU : U.heap = H) (hW : s.WarmedH U.vm) : X B U U.heap := by
  rw [hU]
  exact ok.1 _ _ _ _ hW (ok.2.2.2 _ _ _ _ (ok.2.2.1 _ _ _ _ hX hS.2.1) hB)
section CALLG
variable {p : Program} {l : Launch} {e : Env} {R : Room} {s : State} {m : MethodId} {args : Array Value} {below : List Frame} {meth : Method} {c : Code} {H : Heap} {locs : List Loc} {cells slots : Nat} {Q : State → Prop}
variable {D : va_G} {ca : Nat → ClassId} {ws wc wr : va_W} {As rest st0 : List Value} {index n pc nL maxL mc ms b N : Nat} {y : MethodName} {bytes cc : ByteArray} {ret : Option FieldType} {wsy Ts : List Cond} {rm : Room} {own C : String} {T : u_T} {fs : List Value} {ls : Array Slot} {A0 : Nat → Prop} {H0 : Heap} {X : (Nat → Prop) → State → Heap → Prop}
theorem hcGMi {S0 : Type} {f : S0 → va_W} {F : Int32 × S0} (q0 ci : Nat) (ok : SXok X) (S : CallFix p m c cc nL s args Ts own) (hM : Met l y wsy rm (MGPc D ca X H.size wc (.ref b :: As)) (va_Qi (fun r v => (r, v) = F) (MB D ca (va_A wc H.size) f) (va_A wc H.size)) mc ms (va_A wc H.size)) (cw : CallW R s args own C index y bytes maxL ret wsy rm mc ms n) (hK : va_K D vwCl (TYS ca) s) (hP : va_P D vwCl ws H) (hD : va_D A0 ws) (hS : va_S A0 s.heap H locs) (hA : ∀ q, s.heap.size ≤ q → A0 q) (hX : X A0 s s.heap) (hperm : ws.Perm (wr ++ wc)) (he : wc[q0]? = some (b, .inr (ci, fs))) (hc : vwCl[ci]? = some (C, T, N)) (hn : As.length = n) (hsize : ls.size = nL) (hst : st0 = As.reverse ++ .ref b :: rest) (hW : (rest.map fun v => v.category).sum ≤ 8) (hf : cells + mc ≤ R.cells ∧ slots + ms ≤ R.slots) (hdg : decode cc pc = .ok (.invokevirtual index, 3))
    (kk : ∀ (H1 : Heap) (locs1 : List Loc), va_P D vwCl (wr ++ f F.2) H1 → va_D A0 (wr ++ f F.2) → va_S A0 s.heap H1 locs1 → W p l e R s m args below meth c H1 locs1 (cells + mc) (slots + ms) Q (F0 m (pc + 3) ls (.int F.1 :: rest))) : W p l e R s m args below meth c H locs cells slots Q (F0 m pc ls st0) := by
  have hPc := P_right (P_perm hperm hP)
  have hDc := D_right (D_perm hperm hD)
  have hF := J_free hperm hD hS hA
  refine va_calli (va_runV S hM cw ⟨MGPc_blind ok, P_recv hK hPc he hc, fun U hU hW => ⟨rfl, by rw [hU], by rw [hU]; exact hPc, va_K.moved hW.alike hK, hDc.weaken (fun _ _ _ _ => trivial), X_at ok hX hS hF hU hW⟩⟩ rfl hn hsize hst (lv_room hW) hdg hf) hS (fun q _ h => hF q h) hF (fun r u t H1 locs1 ht hvm hw hB hz hk hS1 => ?_)
  obtain ⟨hP1, -, hD1⟩ := hB
  rw [ht] at hP1
  obtain ⟨g1, g2⟩ := J_join hperm hP hD hk hF hP1 hD1
  cases hw
  exact kk H1 locs1 g1 g2 hS1
theorem hcGMl {S0 : Type} {f : S0 → va_W} {F : Int64 × S0} (q0 ci : Nat) (ok : SXok X) (S : CallFix p m c cc nL s args Ts own) (hM : Met l y wsy rm (MGPc D ca X H.size wc (.ref b :: As)) (va_Ql (fun r v => (r, v) = F) (MB D ca (va_A wc H.size) f) (va_A wc H.size)) mc ms (va_A wc H.size)) (cw : CallW R s args own C index y bytes maxL ret wsy rm mc ms n) (hK : va_K D vwCl (TYS ca) s) (hP : va_P D vwCl ws H) (hD : va_D A0 ws) (hS : va_S A0 s.heap H locs) (hA : ∀ q, s.heap.size ≤ q → A0 q) (hX : X A0 s s.heap) (hperm : ws.Perm (wr ++ wc)) (he : wc[q0]? = some (b, .inr (ci, fs))) (hc : vwCl[ci]? = some (C, T, N)) (hn : As.length = n) (hsize : ls.size = nL) (hst : st0 = As.reverse ++ .ref b :: rest) (hW : (rest.map fun v => v.category).sum ≤ 8) (hf : cells + mc ≤ R.cells ∧ slots + ms ≤ R.slots) (hdg : decode cc pc = .ok (.invokevirtual index, 3))
    (kk : ∀ (H1 : Heap) (locs1 : List Loc), va_P D vwCl (wr ++ f F.2) H1 → va_D A0 (wr ++ f F.2) → va_S A0 s.heap H1 locs1 → W p l e R s m args below meth c H1 locs1 (cells + mc) (slots + ms) Q (F0 m (pc + 3) ls (.long F.1 :: rest))) : W p l e R s m args below meth c H locs cells slots Q (F0 m pc ls st0) := by
  have hPc := P_right (P_perm hperm hP)
  have hDc := D_right (D_perm hperm hD)
  have hF := J_free hperm hD hS hA
  refine va_calll (va_runV S hM cw ⟨MGPc_blind ok, P_recv hK hPc he hc, fun U hU hW => ⟨rfl, by rw [hU], by rw [hU]; exact hPc, va_K.moved hW.alike hK, hDc.weaken (fun _ _ _ _ => trivial), X_at ok hX hS hF hU hW⟩⟩ rfl hn hsize hst (lv_room hW) hdg hf) hS (fun q _ h => hF q h) hF (fun r u t H1 locs1 ht hvm hw hB hz hk hS1 => ?_)
  obtain ⟨hP1, -, hD1⟩ := hB
  rw [ht] at hP1
  obtain ⟨g1, g2⟩ := J_join hperm hP hD hk hF hP1 hD1
  cases hw
  exact kk H1 locs1 g1 g2 hS1
theorem hcGMv {S0 : Type} {f : S0 → va_W} {F : S0} (q0 ci : Nat) (ok : SXok X) (S : CallFix p m c cc nL s args Ts own) (hM : Met l y wsy rm (MGPc D ca X H.size wc (.ref b :: As)) (va_Qv (fun v => v = F) (MB D ca (va_A wc H.size) f) (va_A wc H.size)) mc ms (va_A wc H.size)) (cw : CallW R s args own C index y bytes maxL ret wsy rm mc ms n) (hK : va_K D vwCl (TYS ca) s) (hP : va_P D vwCl ws H) (hD : va_D A0 ws) (hS : va_S A0 s.heap H locs) (hA : ∀ q, s.heap.size ≤ q → A0 q) (hX : X A0 s s.heap) (hperm : ws.Perm (wr ++ wc)) (he : wc[q0]? = some (b, .inr (ci, fs))) (hc : vwCl[ci]? = some (C, T, N)) (hn : As.length = n) (hsize : ls.size = nL) (hst : st0 = As.reverse ++ .ref b :: rest) (hW : (rest.map fun v => v.category).sum ≤ 8) (hf : cells + mc ≤ R.cells ∧ slots + ms ≤ R.slots) (hdg : decode cc pc = .ok (.invokevirtual index, 3))
    (kk : ∀ (H1 : Heap) (locs1 : List Loc), va_P D vwCl (wr ++ f F) H1 → va_D A0 (wr ++ f F) → va_S A0 s.heap H1 locs1 → W p l e R s m args below meth c H1 locs1 (cells + mc) (slots + ms) Q (F0 m (pc + 3) ls (rest))) : W p l e R s m args below meth c H locs cells slots Q (F0 m pc ls st0) := by
  have hPc := P_right (P_perm hperm hP)
  have hDc := D_right (D_perm hperm hD)
  have hF := J_free hperm hD hS hA
  refine va_callv (va_runV S hM cw ⟨MGPc_blind ok, P_recv hK hPc he hc, fun U hU hW => ⟨rfl, by rw [hU], by rw [hU]; exact hPc, va_K.moved hW.alike hK, hDc.weaken (fun _ _ _ _ => trivial), X_at ok hX hS hF hU hW⟩⟩ rfl hn hsize hst (lv_room hW) hdg hf) hS (fun q _ h => hF q h) hF (fun u t H1 locs1 ht hvm hw hB hz hk hS1 => ?_)
  obtain ⟨hP1, -, hD1⟩ := hB
  rw [ht] at hP1
  obtain ⟨g1, g2⟩ := J_join hperm hP hD hk hF hP1 hD1
  cases hw
  exact kk H1 locs1 g1 g2 hS1
theorem hcGMe {en : Nat → Nat} {S0 : Type} {f : S0 → va_W} {F : Option Nat × S0} (q0 ci : Nat) (ok : SXok X) (S : CallFix p m c cc nL s args Ts own) (hM : Met l y wsy rm (MGPc D ca X H.size wc (.ref b :: As)) (va_Qe en (fun r v => (r, v) = F) (MB D ca (va_A wc H.size) f) (va_A wc H.size)) mc ms (va_A wc H.size)) (cw : CallW R s args own C index y bytes maxL ret wsy rm mc ms n) (hK : va_K D vwCl (TYS ca) s) (hP : va_P D vwCl ws H) (hD : va_D A0 ws) (hS : va_S A0 s.heap H locs) (hA : ∀ q, s.heap.size ≤ q → A0 q) (hX : X A0 s s.heap) (hperm : ws.Perm (wr ++ wc)) (he : wc[q0]? = some (b, .inr (ci, fs))) (hc : vwCl[ci]? = some (C, T, N)) (hn : As.length = n) (hsize : ls.size = nL) (hst : st0 = As.reverse ++ .ref b :: rest) (hW : (rest.map fun v => v.category).sum ≤ 8) (hf : cells + mc ≤ R.cells ∧ slots + ms ≤ R.slots) (hdg : decode cc pc = .ok (.invokevirtual index, 3))
    (kk : ∀ (H1 : Heap) (locs1 : List Loc), va_P D vwCl (wr ++ f F.2) H1 → va_D A0 (wr ++ f F.2) → va_S A0 s.heap H1 locs1 → W p l e R s m args below meth c H1 locs1 (cells + mc) (slots + ms) Q (F0 m (pc + 3) ls (va_re en F.1 :: rest))) : W p l e R s m args below meth c H locs cells slots Q (F0 m pc ls st0) := by
  have hPc := P_right (P_perm hperm hP)
  have hDc := D_right (D_perm hperm hD)
  have hF := J_free hperm hD hS hA
  refine va_calle (va_runV S hM cw ⟨MGPc_blind ok, P_recv hK hPc he hc, fun U hU hW => ⟨rfl, by rw [hU], by rw [hU]; exact hPc, va_K.moved hW.alike hK, hDc.weaken (fun _ _ _ _ => trivial), X_at ok hX hS hF hU hW⟩⟩ rfl hn hsize hst (lv_room hW) hdg hf) hS (fun q _ h => hF q h) hF (fun r u t H1 locs1 ht hvm hw hB hz hk hS1 => ?_)
  obtain ⟨hP1, -, hD1⟩ := hB
  rw [ht] at hP1
  obtain ⟨g1, g2⟩ := J_join hperm hP hD hk hF hP1 hD1
  cases hw
  exact kk H1 locs1 g1 g2 hS1
/-- a reading call that takes a text -/
theorem hcRTi {v : Int32} {A : Nat → Prop} {t tv tn : Nat} {tf : Nat → Int32} (q0 ci : Nat) (S : CallFix p m c cc nL s args Ts own) (hM : Met l y wsy rm (RTPc D ca wc t tv tn tf (.ref b :: As)) (vp_Si (fun r => r = v)) 0 0 (fun _ => False)) (cw : CallW R s args own C index y bytes maxL ret wsy rm 0 0 n) (hK : va_K D vwCl (TYS ca) s) (hP : va_P D vwCl wc H) (hS : va_S A s.heap H locs) (hT : TX t tv tn tf A s s.heap) (hXS : XS A s s.heap) (he : wc[q0]? = some (b, .inr (ci, fs))) (hc : vwCl[ci]? = some (C, T, N)) (hn : As.length = n) (hsize : ls.size = nL) (hst : st0 = As.reverse ++ .ref b :: rest) (hW : (rest.map fun v => v.category).sum ≤ 8) (hf : cells ≤ R.cells ∧ slots ≤ R.slots) (hdg : decode cc pc = .ok (.invokevirtual index, 3))
    (kk : W p l e R s m args below meth c H locs cells slots Q (F0 m (pc + 3) ls (.int v :: rest))) : W p l e R s m args below meth c H locs cells slots Q (F0 m pc ls st0) :=
  vp_callSi (W.runV S hM cw ⟨RTPc_blind, P_recv hK hP he hc, fun U hU hW => ⟨rfl, by rw [hU]; exact hP, va_K.moved hW.alike hK, by rw [hU]; exact ((hT.kept hS.2.1).narrow (fun _ h => h.elim)).moved hW.alike, by rw [hU]; exact ((hXS.kept hS.2.1).narrow (fun _ h => h.elim)).moved hW.alike⟩⟩ rfl hn hsize hst (lv_room hW) hdg hf) (fun r h => by cases h; exact kk)
/-- a text's own methods, from any place -/
theorem hcXi {v : Int32} {A : Nat → Prop} {t tv tn : Nat} {tf : Nat → Int32} (S : CallFix p m c cc nL s args Ts own) (hM : Met l y wsy rm (TPc t tv tn tf (.ref t :: As)) (vp_Si (fun r => r = v)) 0 0 (fun _ => False)) (cw : CallW R s args own "java/lang/String" index y bytes maxL ret wsy rm 0 0 n) (hS : va_S A s.heap H locs) (hT : TX t tv tn tf A s s.heap) (hXS : XS A s s.heap) (hn : As.length = n) (hsize : ls.size = nL) (hst : st0 = As.reverse ++ .ref t :: rest) (hW : (rest.map fun v => v.category).sum ≤ 8) (hf : cells ≤ R.cells ∧ slots ≤ R.slots) (hdg : decode cc pc = .ok (.invokevirtual index, 3))
    (kk : W p l e R s m args below meth c H locs cells slots Q (F0 m (pc + 3) ls (.int v :: rest))) : W p l e R s m args below meth c H locs cells slots Q (F0 m pc ls st0) :=
  vp_callSi (W.runV S hM cw ⟨TPc_blind, va_Orecv hT.1 hS, fun U hU hW => ⟨rfl, by rw [hU]; exact ((hT.kept hS.2.1).narrow (fun _ h => h.elim)).moved hW.alike, by rw [hU]; exact ((hXS.kept hS.2.1).narrow (fun _ h => h.elim)).moved hW.alike⟩⟩ rfl hn hsize hst (lv_room hW) hdg hf) (fun r h => by cases h; exact kk)
/-! counters -/
theorem iaddN {a b : Nat} (hx : p.tables.exec = Jvm.exec) (hb : c.code = cc) (hdg : decode cc pc = .ok (.iadd, 1)) (kk : W p l e R s m args below meth c H locs cells slots Q (F0 m (pc + 1) ls (.int (nI (a + b)) :: rest))) : W p l e R s m args below meth c H locs cells slots Q (F0 m pc ls (.int (nI b) :: .int (nI a) :: rest)) := lv_iadd hx hb hdg (by rw [nI_add]; exact kk)
theorem icmpeqN {a b : Nat} {off : Int} {tgt : Nat} (hx : p.tables.exec = Jvm.exec) (hb : c.code = cc) (hdg : decode cc pc = .ok (.if_icmp .eq off, 3)) (ht : (pc : Int) + off = (tgt : Int)) (ha : a < 2 ^ 31) (hb9 : b < 2 ^ 31) (kt : a = b → W p l e R s m args below meth c H locs cells slots Q (F0 m tgt ls rest)) (kf : ¬ a = b → W p l e R s m args below meth c H locs cells slots Q (F0 m (pc + 3) ls rest)) : W p l e R s m args below meth c H locs cells slots Q (F0 m pc ls (.int (nI b) :: .int (nI a) :: rest)) := lv_icmp_eq hx hb hdg ht (fun h => kt ((nI_eq ha hb9).mp h)) (fun h => kf (fun g => h ((nI_eq ha hb9).mpr g)))
theorem icmpneN {a b : Nat} {off : Int} {tgt : Nat} (hx : p.tables.exec = Jvm.exec) (hb : c.code = cc) (hdg : decode cc pc = .ok (.if_icmp .ne off, 3)) (ht : (pc : Int) + off = (tgt : Int)) (ha : a < 2 ^ 31) (hb9 : b < 2 ^ 31) (kt : ¬ a = b → W p l e R s m args below meth c H locs cells slots Q (F0 m tgt ls rest)) (kf : a = b → W p l e R s m args below meth c H locs cells slots Q (F0 m (pc + 3) ls rest)) : W p l e R s m args below meth c H locs cells slots Q (F0 m pc ls (.int (nI b) :: .int (nI a) :: rest)) := lv_icmp_ne hx hb hdg ht (fun h => kt (fun g => h ((nI_eq ha hb9).mpr g))) (fun h => kf ((nI_eq ha hb9).mp h))
theorem icmpltN {a b : Nat} {off : Int} {tgt : Nat} (hx : p.tables.exec = Jvm.exec) (hb : c.code = cc) (hdg : decode cc pc = .ok (.if_icmp .lt off, 3)) (ht : (pc : Int) + off = (tgt : Int)) (ha : a < 2 ^ 31) (hb9 : b < 2 ^ 31) (kt : a < b → W p l e R s m args below meth c H locs cells slots Q (F0 m tgt ls rest)) (kf : ¬ a < b → W p l e R s m args below meth c H locs cells slots Q (F0 m (pc + 3) ls rest)) : W p l e R s m args below meth c H locs cells slots Q (F0 m pc ls (.int (nI b) :: .int (nI a) :: rest)) := lv_icmp_lt hx hb hdg ht (fun h => kt ((nI_ltI ha hb9).mp h)) (fun h => kf (fun g => h ((nI_ltI ha hb9).mpr g)))
theorem icmpgeN {a b : Nat} {off : Int} {tgt : Nat} (hx : p.tables.exec = Jvm.exec) (hb : c.code = cc) (hdg : decode cc pc = .ok (.if_icmp .ge off, 3)) (ht : (pc : Int) + off = (tgt : Int)) (ha : a < 2 ^ 31) (hb9 : b < 2 ^ 31) (kt : b ≤ a → W p l e R s m args below meth c H locs cells slots Q (F0 m tgt ls rest)) (kf : ¬ b ≤ a → W p l e R s m args below meth c H locs cells slots Q (F0 m (pc + 3) ls rest)) : W p l e R s m args below meth c H locs cells slots Q (F0 m pc ls (.int (nI b) :: .int (nI a) :: rest)) := lv_icmp_ge hx hb hdg ht (fun h => kt ((nI_leI hb9 ha).mp h)) (fun h => kf (fun g => h ((nI_leI hb9 ha).mpr g)))
theorem icmpgtN {a b : Nat} {off : Int} {tgt : Nat} (hx : p.tables.exec = Jvm.exec) (hb : c.code = cc) (hdg : decode cc pc = .ok (.if_icmp .gt off, 3)) (ht : (pc : Int) + off = (tgt : Int)) (ha : a < 2 ^ 31) (hb9 : b < 2 ^ 31) (kt : b < a → W p l e R s m args below meth c H locs cells slots Q (F0 m tgt ls rest)) (kf : ¬ b < a → W p l e R s m args below meth c H locs cells slots Q (F0 m (pc + 3) ls rest)) : W p l e R s m args below meth c H locs cells slots Q (F0 m pc ls (.int (nI b) :: .int (nI a) :: rest)) := lv_icmp_gt hx hb hdg ht (fun h => kt ((nI_ltI hb9 ha).mp h)) (fun h => kf (fun g => h ((nI_ltI hb9 ha).mpr g)))
theorem icmpleN {a b : Nat} {off : Int} {tgt : Nat} (hx : p.tables.exec = Jvm.exec) (hb : c.code = cc) (hdg : decode cc pc = .ok (.if_icmp .le off, 3)) (ht : (pc : Int) + off = (tgt : Int)) (ha : a < 2 ^ 31) (hb9 : b < 2 ^ 31) (kt : a ≤ b → W p l e R s m args below meth c H locs cells slots Q (F0 m tgt ls rest)) (kf : ¬ a ≤ b → W p l e R s m args below meth c H locs cells slots Q (F0 m (pc + 3) ls rest)) : W p l e R s m args below meth c H locs cells slots Q (F0 m pc ls (.int (nI b) :: .int (nI a) :: rest)) := lv_icmp_le hx hb hdg ht (fun h => kt ((nI_leI ha hb9).mp h)) (fun h => kf (fun g => h ((nI_leI ha hb9).mpr g)))
theorem maxN {a b : Nat} (hx : p.tables.exec = Jvm.exec) (hb : c.code = cc) (hml : c.maxLocals = ls.size) {own : String} {index : Nat} (hown : s.vm.findClass own = some m.cls) (hlink : (Cond.methodLink own index Lib.Math.max.name).before args s = true) (hstat : (Cond.static Lib.Math.max.name).before args s = true) (hini : (Cond.initialized "java/lang/Math").before args s = true) (hcode : (Cond.code Lib.Math.max.name Lib.Math.max.code 2 (some .int)).before args s = true) (hframes : 1 ≤ R.frames) (hlocals : (rest.map fun v => v.category).sum + 13 ≤ R.locals) (hc : cells ≤ R.cells) (hs : slots ≤ R.slots) (ha : a < 2 ^ 31) (hb9 : b < 2 ^ 31) (hdg : decode cc pc = .ok (.invokestatic index, 3))
    (kk : W p l e R s m args below meth c H locs cells slots Q (F0 m (pc + 3) ls (.int (nI (if a < b then b else a)) :: rest))) : W p l e R s m args below meth c H locs cells slots Q (F0 m pc ls (.int (nI b) :: .int (nI a) :: rest)) := by
  refine va_mmax hx hb hml hown hlink hstat hini hcode hframes hlocals hc hs hdg ?_
  have e : (if nI a < nI b then nI b else nI a) = nI (if a < b then b else a) := by
    by_cases h : a < b
    · rw [if_pos h, if_pos ((nI_ltI ha hb9).mpr h)]
    · rw [if_neg h, if_neg (fun g => h ((nI_ltI ha hb9).mp g))]
  rw [e]
  exact kk
theorem minN {a b : Nat} (hx : p.tables.exec = Jvm.exec) (hb : c.code = cc) (hml : c.maxLocals = ls.size) {own : String} {index : Nat} (hown : s.vm.findClass own = some m.cls) (hlink : (Cond.methodLink own index Lib.Math.min.name).before args s = true) (hstat : (Cond.static Lib.Math.min.name).before args s = true) (hini : (Cond.initialized "java/lang/Math").before args s = true) (hcode : (Cond.code Lib.Math.min.name Lib.Math.min.code 2 (some .int)).before args s = true) (hframes : 1 ≤ R.frames) (hlocals : (rest.map fun v => v.category).sum + 13 ≤ R.locals) (hc : cells ≤ R.cells) (hs : slots ≤ R.slots) (ha : a < 2 ^ 31) (hb9 : b < 2 ^ 31) (hdg : decode cc pc = .ok (.invokestatic index, 3))
    (kk : W p l e R s m args below meth c H locs cells slots Q (F0 m (pc + 3) ls (.int (nI (if b < a then b else a)) :: rest))) : W p l e R s m args below meth c H locs cells slots Q (F0 m pc ls (.int (nI b) :: .int (nI a) :: rest)) := by
  refine va_mmin hx hb hml hown hlink hstat hini hcode hframes hlocals hc hs hdg ?_
  have e : (if nI b < nI a then nI b else nI a) = nI (if b < a then b else a) := by
    by_cases h : b < a
    · rw [if_pos h, if_pos ((nI_ltI hb9 ha).mpr h)]
    · rw [if_neg h, if_neg (fun g => h ((nI_ltI hb9 ha).mp g))]
  rw [e]
  exact kk
theorem caldN {a : Nat} (q0 : Nat) {n k : Nat} {f : Nat → Int32} (hx : p.tables.exec = Jvm.exec) (hb : c.code = cc) (hK : va_K D vwCl (TYS ca) s) (hP : va_P D vwCl ws H) (ha : ws[q0]? = some (a, .inl (ca 2, n, .inl f))) (hk : k < n) (hn : n < 2 ^ 31) (hdg : decode cc pc = .ok (.caload, 1))
    (kk : W p l e R s m args below meth c H locs cells slots Q (F0 m (pc + 1) ls (.int (f k) :: rest))) : W p l e R s m args below meth c H locs cells slots Q (F0 m pc ls (.int (nI k) :: .ref a :: rest)) :=
  va_cald hx hb hK hP q0 2 ha rfl (vp_in_nI hk hn) hdg (by rw [nI_clamp (Nat.lt_trans hk hn)]; exact kk)
theorem castN {a : Nat} (q0 : Nat) {n k : Nat} {f : Nat → Int32} {x : Int32} (hx : p.tables.exec = Jvm.exec) (hb : c.code = cc) (hK : va_K D vwCl (TYS ca) s) (hP : va_P D vwCl ws H) (hD : va_D A0 ws) (hS : va_S A0 H0 H locs) (ha : ws[q0]? = some (a, .inl (ca 2, n, .inl f))) (hk : k < n) (hn : n < 2 ^ 31) (hdg : decode cc pc = .ok (.castore, 1))
    (kk : ∀ (H1 : Heap) (locs1 : List Loc), va_P D vwCl (ws.set q0 (a, .inl (ca 2, n, .inl (upd f k (vp_nar .char x))))) H1 → va_D A0 (ws.set q0 (a, .inl (ca 2, n, .inl (upd f k (vp_nar .char x))))) → va_S A0 H0 H1 locs1 → W p l e R s m args below meth c H1 locs1 cells slots Q (F0 m (pc + 1) ls rest)) : W p l e R s m args below meth c H locs cells slots Q (F0 m pc ls (.int x :: .int (nI k) :: .ref a :: rest)) :=
  va_cast hx hb hK hP hD hS q0 2 ha rfl (vp_in_nI hk hn) hdg (by rw [nI_clamp (Nat.lt_trans hk hn)]; exact kk)
theorem up_some {en f : Nat → Nat} {i j : Nat} : va_up (fun k => some (en (f k))) i (some (en j)) = fun k => some (en (va_up f i j k)) := by
  funext k
  unfold va_up
  split <;> rfl
/-- a command put into a row of commands -/
theorem astE {a : Nat} {A : Nat → Prop} {en : Nat → Nat} {E : String} (q0 t0 : Nat) {n i j : Nat} {f : Nat → Nat} {cA : ClassId} (hx : p.tables.exec = Jvm.exec) (hb : c.code = cc) (hK : va_K D vwCl (TYS ca) s) (hP : va_P D vwCl ws H) (hD : va_D A ws) (hS : va_S A s.heap H locs) (ha : ws[q0]? = some (a, .inl (cA, n, .inr (.inr (.inr (.inr (fun k => some (en (f k)))))))))
    (ht : (TYS ca)[t0]? = some (cA, .object E)) (hO : va_O E (en j) A s s.heap) (hk : i < n) (hn : n < 2 ^ 31) (hdg : decode cc pc = .ok (.aastore, 1))
    (kk : ∀ (H1 : Heap) (locs1 : List Loc), va_P D vwCl (ws.set q0 (a, .inl (cA, n, .inr (.inr (.inr (.inr (fun k => some (en (va_up f i j k))))))))) H1 → va_D A (ws.set q0 (a, .inl (cA, n, .inr (.inr (.inr (.inr (fun k => some (en (va_up f i j k))))))))) → va_S A s.heap H1 locs1 → W p l e R s m args below meth c H1 locs1 cells slots Q (F0 m (pc + 1) ls rest)) : W p l e R s m args below meth c H locs cells slots Q (F0 m pc ls (.ref (en j) :: .int (nI i) :: .ref a :: rest)) := by
  refine vb_astq (C := E) hx hb hK hP hD hS q0 t0 ha ht (va_Orecv hO hS) (fun comp c0 h1 h2 => by cases h1.symm.trans h2; exact va_asg _ _) (vp_in_nI hk hn) hdg ?_
  rw [nI_clamp (Nat.lt_trans hk hn), up_some]
  exact kk
end CALLG
/-! the command text -/
abbrev CS : Type := (Nat → Int32) × Nat × (Nat → Nat) × (Nat → Int32) × (Nat → Int32) × Nat × Nat
abbrev q0 (v : CS) : Nat → Int32 := v.1
abbrev q1 (v : CS) : Nat := v.2.1
abbrev q2 (v : CS) : Nat → Nat := v.2.2.1
abbrev q3 (v : CS) : Nat → Int32 := v.2.2.2.1
abbrev q4 (v : CS) : Nat → Int32 := v.2.2.2.2.1
abbrev q5 (v : CS) : Nat := v.2.2.2.2.2.1
abbrev q6 (v : CS) : Nat := v.2.2.2.2.2.2
abbrev r0 (x : Nat → Int32) (v : CS) : CS := (x, v.2)
abbrev r1 (x : Nat) (v : CS) : CS := (q0 v, x, v.2.2)
abbrev r2 (x : Nat → Nat) (v : CS) : CS := (q0 v, q1 v, x, v.2.2.2)
abbrev r3 (x : Nat → Int32) (v : CS) : CS := (q0 v, q1 v, q2 v, x, v.2.2.2.2)
abbrev r4 (x : Nat → Int32) (v : CS) : CS := (q0 v, q1 v, q2 v, q3 v, x, v.2.2.2.2.2)
abbrev r5 (x : Nat) (v : CS) : CS := (q0 v, q1 v, q2 v, q3 v, q4 v, x, v.2.2.2.2.2.2)
abbrev r6 (x : Nat) (v : CS) : CS := (q0 v, q1 v, q2 v, q3 v, q4 v, q5 v, x)
def CW (ca : Nat → ClassId) (en b : Nat → Nat) (v : CS) : va_W := [(b 4, .inr (3, [.ref (b 0), .int (nI (q1 v)), .ref (b 1), .ref (b 2), .ref (b 3), .int (nI (q5 v)), .int (nI (q6 v))])), (b 0, .inl (ca 2, 60, .inl (q0 v))), (b 1, .inl (ca 4, 10, .inr (.inr (.inr (.inr (fun k => some (en (q2 v k)))))))), (b 2, .inl (ca 0, 10, .inl (q3 v))), (b 3, .inl (ca 0, 10, .inl (q4 v)))]
/-- the text is at most 60 signs, the reading stands within it, at most 10 commands -/
abbrev CI (v : CS) : Prop := q1 v ≤ 60 ∧ q6 v ≤ q1 v ∧ q5 v ≤ 10 ∧ ∀ k, q2 v k < 10
