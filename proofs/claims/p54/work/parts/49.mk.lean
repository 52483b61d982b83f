/-! what the law's makes needs: the ring may be full -/
theorem HQ_full {w : OS} {L : List HS} (h : HQ w L) (hl : 8 ≤ L.length) : HQ (remO w) (og0 w :: L.take 7) := by
  obtain ⟨h1, h2, h3, h4⟩ := h
  have et : (L.take 7).length = 7 := by rw [List.length_take]; omega
  refine ⟨?_, ?_, ?_, fun i x hx => ?_⟩
  · rw [remO_4, List.length_cons, et, if_pos (by omega)]
  · rw [List.length_cons, et]; omega
  · rw [remO_3]; exact nx_lt _ h3
  · rw [remO_2, remO_3]
    match i, hx with
    | 0, hx =>
      cases hx
      have e : (nx (og3 w) + 8 - 0) % 9 = og3 w := by
        unfold nx
        split <;> omega
      rw [e]
      exact up_self
    | i + 1, hx =>
      have hx : (L.take 7)[i]? = some x := hx
      have hi : i < (L.take 7).length := (List.getElem?_eq_some_iff.mp hx).1
      rw [et] at hi
      rw [List.getElem?_take_of_lt hi] at hx
      have e : (nx (og3 w) + 8 - (i + 1)) % 9 = (og3 w + 8 - i) % 9 := by
        unfold nx
        split <;> omega
      rw [e, ← h4 i x hx]
      unfold va_up
      rw [if_neg (by omega)]
def LX (n : Int) (w : OS) : Prop := ∃ L, LI n L w
theorem LX_rem {n m : Int} {w : OS} {x : HS} (h : LX n w) (hm : n ≤ m) (hx : GI m x) : LX m (os0 x (remO w)) := by
  obtain ⟨L, h1, h2, h3, h4⟩ := h
  rcases Nat.lt_or_ge L.length 8 with hl | hl
  · exact ⟨_, LI_rem ⟨h1, h2, h3, h4⟩ hm hl hx⟩
  · refine ⟨og0 w :: L.take 7, hall_OI (remO_OI h1) hx.1, hx, fun y hy => ?_, HQ_0 (HQ_full h4 hl) x⟩
    rcases List.mem_cons.mp hy with e | e
    · subst e; exact GI_mono h2 hm
    · exact GI_mono (h3 y (List.mem_of_mem_take e)) hm
theorem LX_GI {n : Int} {w : OS} (h : LX n w) : GI n (og0 w) := by obtain ⟨L, h⟩ := h; exact h.2.1
theorem LX_OI {n : Int} {w : OS} (h : LX n w) : OI w := by obtain ⟨L, h⟩ := h; exact h.1
theorem LX_chg {n m : Int} {w : OS} {F : Nat × Int32 × OS} (h : LX n w) (hm : n ≤ m) (hc : Chg m w F) : LX m F.2.2 ∧ og1 F.2.2 = og1 w ∧ og5 F.2.2 = og5 w ∧ og8 F.2.2 = og8 w := by
  rcases hc with ⟨-, b⟩ | ⟨-, -, x, e, g⟩
  · rw [b]
    obtain ⟨L, h⟩ := h
    exact ⟨⟨L, LI_mono h hm⟩, rfl, rfl, rfl⟩
  · rw [e]
    exact ⟨LX_rem h hm g, rfl, rfl, rfl⟩
theorem wrp_ne1 {F : Nat × Int32 × OS} (h1 : F.1 ≠ 1) (h0 : F.1 = 0 → 0 ≤ F.2.1.toInt) : (wrp F).1 ≠ -1001 := by
  unfold wrp
  show (if F.1 = 0 then F.2.1 else if F.1 = 1 then -1001 else if F.1 = 2 then -1002 else -1003) ≠ -1001
  by_cases c : F.1 = 0
  · rw [if_pos c]
    intro e
    have := h0 c
    rw [e] at this
    exact absurd this (by decide)
  · rw [if_neg c, if_neg h1]
    split <;> decide
theorem chg_nn {n : Int} {w : OS} {F : Nat × Int32 × OS} (h : Chg n w F) : F.1 = 0 → 0 ≤ F.2.1.toInt := by
  intro e
  rcases h with ⟨a, -⟩ | ⟨-, b, -⟩
  · exact absurd e a
  · exact b
theorem fe_rng : ∀ k, k < 10 → ¬ nI k < 0 ∧ ¬ 9 < nI k := by decide +kernel
theorem br_rng : ∀ k, k < 3 → ¬ nI k < 0 ∧ nI k ≤ 2 := by decide +kernel
theorem nI_8 : ∀ k, k < 8 → nI k < 8 := by decide +kernel
theorem rg_ok {u : HS} {x y : Int32} {k : Nat} (hN : h9 u = nI k) (hk : k < 8) (hx : vp_in x 10) (hy : vp_in y 3) : fX3_refusalOfGuest u x y = 0 := by
  obtain ⟨a, ha, rfl, -⟩ := vp_nI hx
  obtain ⟨b, hb, rfl, -⟩ := vp_nI hy
  have e1 := fe_rng a ha
  have e2 := br_rng b hb
  unfold fX3_refusalOfGuest
  rw [if_neg e1.1, if_neg e1.2, if_neg e2.1, if_pos e2.2, hN, if_pos (nI_8 k hk)]
theorem mk_add {n : Int} {w : OS} {x y : Int32} {k : Nat} (h : LX n w) (hN : h9 (og0 w) = nI k) (hk : k < 8) (hx : vp_in x 10) (hy : vp_in y 3) : ∃ v, wrp (fX5_addGuest w x y) = (nI k, v) ∧ LX n v ∧ h9 (og0 v) = nI (k + 1) ∧ og5 v = og5 w := by
  have g := chg_addGuest (LX_GI h) x y
  have e := rg_ok hN hk hx hy
  obtain ⟨c1, -, c3, -⟩ := LX_chg h (Int.le_refl n) g
  have e2 : fX5_addGuest w x y = (0, h9 (og0 w), os0 (fX3_welcome (og0 w) x y).2 (remO w)) := by
    unfold fX5_addGuest
    rw [og0_remO, e, if_neg (by decide), if_pos rfl]
    rfl
  rw [e2] at c1 c3
  refine ⟨_, by rw [e2, hN]; rfl, c1, ?_, c3⟩
  show h9 (og0 w) + 1 = _
  rw [hN]
  exact nI_s k
theorem ho_place {w : OS} {x y : Int32} : h9 (og0 (fX5_placeHat w x y).2.2) = h9 (og0 w) := by
  unfold fX5_placeHat
  rw [og0_remO]
  split
  · rfl
  · split
    · rfl
    · split
      · exact h9_putHat _ _ _
      · rfl
theorem ho_leave {w : OS} {x y : Int32} : h9 (og0 (fX5_leaveCoat w x y).2.2) = h9 (og0 w) := by
  unfold fX5_leaveCoat
  rw [og0_remO]
  split
  · rfl
  · split
    · rfl
    · split
      · show h9 (fX3_putCoat (og0 w) x y).2 = _
        unfold fX3_putCoat
        rfl
      · rfl
theorem mk_hg {w : OS} {N k : Nat} (hN : h9 (og0 w) = nI N) (h8 : N ≤ 8) (hk : k < N) : ¬ fX3_hasGuest (og0 w) (nI k) = 0 := by
  refine hasG (by omega) ?_
  rw [hN]
  exact nI_ge hk (by omega)
theorem mk_place {n : Int} {w : OS} {x c : Int32} {N : Nat} (h : LX n w) (hN : h9 (og0 w) = nI N) (h8 : N ≤ 8) (hx : vp_in x N) (hc : vp_in c 20) : ∃ r v, wrp (fX5_placeHat w x c) = (r, v) ∧ r ≠ -1001 ∧ LX n v ∧ h9 (og0 v) = nI N ∧ og5 v = og5 w := by
  obtain ⟨k, hk, rfl, -⟩ := vp_nI hx
  obtain ⟨d, hd, rfl, -⟩ := vp_nI hc
  have hg := mk_hg hN h8 hk
  have g := chg_placeHat (LX_GI h) (nI k) (nI d)
  have e := z_rh (h := og0 w) (k := k) (c := d) (by omega) (by omega) hg
  have h1 : (fX5_placeHat w (nI k) (nI d)).1 ≠ 1 := by
    unfold fX5_placeHat
    have e1 : ¬ fX3_refusalOfHat (og0 w) (nI k) (nI d) = 1 := by
      rw [e]
      by_cases a1 : h2 (og0 w) k = -1
      · rw [if_pos a1]
        by_cases a2 : fX3_covererAt (og0 w) (nI d) = -1
        · rw [if_pos a2]; decide
        · rw [if_neg a2]; decide
      · rw [if_neg a1]; decide
    rw [if_neg e1]
    split
    · exact (by decide : (2 : Nat) ≠ 1)
    · split
      · exact (by decide : (0 : Nat) ≠ 1)
      · exact (by decide : (3 : Nat) ≠ 1)
  obtain ⟨c1, -, c3, -⟩ := LX_chg h (Int.le_refl n) g
  exact ⟨_, _, rfl, wrp_ne1 h1 (chg_nn g), c1, by rw [← hN]; exact ho_place, c3⟩
theorem mk_leave {n : Int} {w : OS} {x c : Int32} {N : Nat} (h : LX n w) (hN : h9 (og0 w) = nI N) (h8 : N ≤ 8) (hx : vp_in x N) (hc : vp_in c 20) : ∃ r v, wrp (fX5_leaveCoat w x c) = (r, v) ∧ r ≠ -1001 ∧ LX n v ∧ h9 (og0 v) = nI N ∧ og5 v = og5 w := by
  obtain ⟨k, hk, rfl, -⟩ := vp_nI hx
  obtain ⟨d, hd, rfl, -⟩ := vp_nI hc
  have hg := mk_hg hN h8 hk
  have g := chg_leaveCoat (LX_GI h) (nI k) (nI d)
  have h1 : (fX5_leaveCoat w (nI k) (nI d)).1 ≠ 1 := by
    unfold fX5_leaveCoat
    have e1 : ¬ fX3_refusalOfCoat (og0 w) (nI k) (nI d) = 1 := by
      unfold fX3_refusalOfCoat
      rw [if_neg hg, if_neg (hasC d (by omega))]
      by_cases a1 : h5 (og0 w) (nI k).toNatClampNeg = -1
      · rw [if_pos a1]
        by_cases a2 : fX3_covererAt (og0 w) (nI d) = -1
        · rw [if_pos a2]; decide
        · rw [if_neg a2]
          by_cases a3 : fX3_covererAt (og0 w) (nI d) = nI k
          · rw [if_pos a3]; decide
          · rw [if_neg a3]
            by_cases a4 : 3 ≤ fX3_coatsOn (og0 w) (nI d)
            · rw [if_pos a4]; decide
            · rw [if_neg a4]; decide
      · rw [if_neg a1]; decide
    rw [if_neg e1]
    split
    · exact (by decide : (2 : Nat) ≠ 1)
    · split
      · exact (by decide : (0 : Nat) ≠ 1)
      · exact (by decide : (3 : Nat) ≠ 1)
  obtain ⟨c1, -, c3, -⟩ := LX_chg h (Int.le_refl n) g
  exact ⟨_, _, rfl, wrp_ne1 h1 (chg_nn g), c1, by rw [← hN]; exact ho_leave, c3⟩
theorem ps_rng : ∀ k, k < 60 → ¬ (1 + nI k : Int32) < 1 ∧ (1 + nI k : Int32) ≤ 60 ∧ (1 + nI k : Int32).toInt = k + 1 := by decide +kernel
theorem mk_pass {w : OS} {x : Int32} (h : LX 0 w) (hx : vp_in x 60) : ∃ r v, wrp (fX5_pass w (1 + x)) = (r, v) ∧ ¬ r ≤ 0 ∧ LX 60 v ∧ og5 v = og5 w := by
  obtain ⟨k, hk, rfl, -⟩ := vp_nI hx
  have e := ps_rng k hk
  have g := chg_pass (LX_GI h) (by decide) (1 + nI k)
  have e1 : fX3_refusalOfPass (og0 w) (1 + nI k) = 0 := by
    unfold fX3_refusalOfPass
    rw [if_neg e.1, if_pos e.2.1]
  have e2 : fX5_pass w (1 + nI k) = (0, h10 (og0 w) + (1 + nI k), os0 (fX3_letPass (og0 w) (1 + nI k)).2 (remO w)) := by
    unfold fX5_pass
    rw [og0_remO, e1, if_pos rfl]
    rfl
  obtain ⟨c1, -, c3, -⟩ := LX_chg h (m := 0 + 60) (by decide) g
  rw [e2] at c1 c3
  refine ⟨h10 (og0 w) + (1 + nI k), _, by rw [e2]; rfl, ?_, c1, c3⟩
  obtain ⟨-, -, -, -, -, ⟨t1, t2⟩, -⟩ := LX_GI h
  have ez : (h10 (og0 w) + (1 + nI k)).toInt = k + 1 := by
    rw [Int32.toInt_add, e.2.2, bm_id (by omega) (by omega)]
    omega
  rw [Int32.le_iff_toInt_le, ez]
  have e0 : (0 : Int32).toInt = 0 := by decide
  rw [e0]
  omega
section ROWTO
variable {p : Program} {l : Launch} {e : Env} {R : Room} {s : State} {m : MethodId} {args : Array Value} {below : List Frame} {meth : Method} {c : Code} {H : Heap} {locs : List Loc} {cells slots : Nat} {Q : State → Prop} {pc : Nat} {ls : Array Slot} {rest : List Value}
theorem lv_to {x y : Int32} (h : x = y) (k : W p l e R s m args below meth c H locs cells slots Q (F0 m pc ls (.int y :: rest))) : W p l e R s m args below meth c H locs cells slots Q (F0 m pc ls (.int x :: rest)) := by
  rw [h]; exact k
end ROWTO
/-- the law's script -/
def SX (b nn : Nat) (f : Nat → Int32) (A : Nat → Prop) (U : State) (H : Heap) : Prop := va_X b nn f U H ∧ ¬ A b
theorem SX.lt {b nn : Nat} {f : Nat → Int32} {A : Nat → Prop} {U : State} {H : Heap} (h : SX b nn f A U H) : b < H.size := by
  obtain ⟨⟨scr, h1, -⟩, -⟩ := h
  exact (Array.getElem?_eq_some_iff.mp h1).1
def SXX (en ks vs : Nat → Nat) (b nn : Nat) (f : Nat → Int32) (A : Nat → Prop) (U : State) (H : Heap) : Prop := HX en ks vs A U H ∧ SX b nn f A U H
theorem SXX_ok (en ks vs : Nat → Nat) (b nn : Nat) (f : Nat → Int32) : SXok (SXX en ks vs b nn f) := ⟨fun A u U H hW h => ⟨(HX_ok en ks vs).1 _ _ _ _ hW h.1, h.2.1.moved hW.alike, h.2.2⟩, fun A u U H hv h => ⟨(HX_ok en ks vs).2.1 _ _ _ _ hv h.1, h.2.1.moved (alike_of_same hv), h.2.2⟩, fun A U H H1 h hq => ⟨(HX_ok en ks vs).2.2.1 _ _ _ _ h.1 hq, h.2.1.kept (hq b h.2.lt h.2.2), h.2.2⟩, fun A B U H h hAB => ⟨(HX_ok en ks vs).2.2.2 _ _ _ _ h.1 hAB, h.2.1, fun q => h.2.2 (hAB b q)⟩⟩
def XPc (b nn : Nat) (f : Nat → Int32) (av : List Value) : Array Value → State → Prop := va_Pc av (fun U => va_X b nn f U U.heap)
theorem XPc_blind {b nn : Nat} {f : Nat → Int32} {av : List Value} : FrameBlind (XPc b nn f av) := fun a U g mk q => by
  obtain ⟨q0, qX⟩ := q
  exact ⟨q0, va_X.moved (u := U) (U := U.calling g mk a) (Vm.Alike.refl U.vm) qX⟩
theorem SX_pre {b nn : Nat} {f : Nat → Int32} {A : Nat → Prop} {s : State} {H : Heap} {locs : List Loc} {As : List Value} (hS : va_S A s.heap H locs) (h : SX b nn f A s s.heap) : PreS s H (XPc b nn f As) As := ⟨XPc_blind, fun U hU hW => ⟨rfl, by show va_X b nn f U U.heap; rw [hU]; exact (h.1.kept (hS.2.1 b h.lt h.2)).moved hW.alike⟩⟩
set_option maxHeartbeats 4000000 in
set_option maxRecDepth 100000 in
theorem kL_at2 (l : Launch) (b nn : Nat) (f : Nat → Int32) (j : Nat) (hn : nn < 2 ^ 31) (hj : j < 2 ^ 31) : Met l yL_at wsL_at ({ frames := 0, cells := 0, slots := 0, locals := 0 }) (XPc b nn f [.ref b, .int (nI j)]) (vp_Si (fun r => r = fAt nn f j)) 0 0 (fun _ => False) := by
  refine Met.ofW (cc := cL_at) (maxL := 2) (ret := some .int) (by decide) rfl ?_
  intro p e s m args below meth c s₁ B hml hv
  obtain ⟨rfl, hX⟩ := hv
  have hx := B.exec
  have hb := B.bytes
  have hr := B.returns
  have hts := atoms_spec (ws := wsL_at) B.pre
  have hown : s.vm.findClass RL = some m.cls := findClass_of_methodNamed B.named
  have hbl : b < s.heap.size := SX.lt (A := fun _ => False) ⟨hX, fun h => h⟩
  have hS : va_S (fun _ => False) s.heap s.heap [] := va_S.rf
  refine W_entry (Nat.le_of_ble_eq_true rfl) (fun ls hl => ?_)
  have hl : lv_has ls 2 [(0, .ref b), (1, .int (nI j))] := hl
  refine lv_iload_n hx hb dL_at_0 rfl (lv_at hl 1 rfl) ?_
  refine lv_aload_n hx hb dL_at_1 rfl (lv_at hl 0 rfl) ?_
  refine va_slen hx hb hX hbl (fun h => h) hS dL_at_2 ?_
  refine icmpgeN (a := j) (b := nn) (tgt := 12) hx hb dL_at_3 (by decide) hj hn (fun c3 => ?_) (fun c3 => ?_)
  · refine lv_iconst (v := 0) hx hb dL_at_12 (by decide) ?_
    exact W.iret hx hb hr (fun t ht hW => ⟨_, rfl, (if_pos c3).symm, ht⟩) (fun _ h => by cases h) dL_at_13
  · refine lv_aload_n hx hb dL_at_6 rfl (lv_at hl 0 rfl) ?_
    refine lv_iload_n hx hb dL_at_7 rfl (lv_at hl 1 rfl) ?_
    refine va_sld hx hb hX hbl (fun h => h) hS (vp_in_nI (by omega) hn) dL_at_8 ?_
    refine lv_to (y := f j) (by rw [nI_clamp hj]) ?_
    refine lv_goto (tgt := 13) hx hb dL_at_9 (by decide) ?_
    exact W.iret hx hb hr (fun t ht hW => ⟨_, rfl, (if_neg c3).symm, ht⟩) (fun _ h => by cases h) dL_at_13
theorem X_now {X : (Nat → Prop) → State → Heap → Prop} (ok : SXok X) {A B : Nat → Prop} {s : State} {H : Heap} {locs : List Loc} (hX : X A s s.heap) (hS : va_S A s.heap H locs) (hB : ∀ q, B q → A q) : X B s H := ok.2.2.2 _ _ _ _ (ok.2.2.1 _ _ _ _ hX hS.2.1) hB
theorem lg_self (a : Int64) : lg_cmp a a = 0 := by
  unfold lg_cmp
  rw [if_neg Int64.lt_irrefl, if_pos rfl]
/-! a call on the whole of a world that hangs on the object -/
section ROWG
variable {p : Program} {l : Launch} {e : Env} {R : Room} {s : State} {m : MethodId} {args : Array Value} {below : List Frame} {meth : Method} {c : Code} {H : Heap} {locs : List Loc} {cells slots : Nat} {Q : State → Prop}
variable {D : va_G} {ca : Nat → ClassId} {X : (Nat → Prop) → State → Heap → Prop} {ws wr : va_W} {wc : OS → va_W} {u : OS} {As rest st0 : List Value} {index n pc nL maxL mc ms : Nat} {y : MethodName} {bytes cc : ByteArray} {ret : Option FieldType} {wsy Ts : List Cond} {rm : Room} {own : String} {ls : Array Slot} {A0 : Nat → Prop} {G : Int32 → OS → Prop} {GL : Int64 → OS → Prop}
theorem hcGi (ok : SXok X) (S : CallFix p m c cc nL s args Ts own) (hM : Met l y wsy rm (MGPc D ca X H.size (wc u) As) (va_Qi G (MB D ca (va_A (wc u) H.size) wc) (va_A (wc u) H.size)) mc ms (va_A (wc u) H.size)) (cw : CallB R s args own index y bytes maxL ret wsy rm mc ms n ∧ (Cond.static y).before args s = true) (hK : va_K D vwCl (TYS ca) s) (hP : va_P D vwCl ws H) (hD : va_D A0 ws) (hS : va_S A0 s.heap H locs) (hA : ∀ q, s.heap.size ≤ q → A0 q) (hX : X (va_A (wc u) H.size) s H) (hperm : ws.Perm (wr ++ wc u)) (hn : As.length = n) (hsize : ls.size = nL) (hst : st0 = As.reverse ++ rest) (hW : (rest.map fun v => v.category).sum ≤ 8) (hf : cells + mc ≤ R.cells ∧ slots + ms ≤ R.slots) (hdg : decode cc pc = .ok (.invokestatic index, 3))
    (kk : ∀ (H1 : Heap) (locs1 : List Loc) (r : Int32) (v : OS), G r v → va_P D vwCl (wr ++ wc v) H1 → va_D A0 (wr ++ wc v) → va_S A0 s.heap H1 locs1 → W p l e R s m args below meth c H1 locs1 (cells + mc) (slots + ms) Q (F0 m (pc + 3) ls (.int r :: rest))) : W p l e R s m args below meth c H locs cells slots Q (F0 m pc ls st0) := by
  have hPc := P_right (P_perm hperm hP)
  have hDc := D_right (D_perm hperm hD)
  have hF := J_free hperm hD hS hA
  refine va_calli (va_runS S hM cw ⟨MGPc_blind ok, fun U hU hW => ⟨rfl, by rw [hU], by rw [hU]; exact hPc, va_K.moved hW.alike hK, hDc.weaken (fun _ _ _ _ => trivial), by rw [hU]; exact ok.1 _ _ _ _ hW hX⟩⟩ rfl hn hsize hst (lv_room hW) hdg hf) hS (fun q _ h => hF q h) hF (fun r z t H1 locs1 ht hvm hw hB hz hk hS1 => ?_)
  obtain ⟨hP1, -, hD1⟩ := hB
  rw [ht] at hP1
  obtain ⟨g1, g2⟩ := J_join hperm hP hD hk hF hP1 hD1
  exact kk H1 locs1 r z hw g1 g2 hS1
theorem hcGl (ok : SXok X) (S : CallFix p m c cc nL s args Ts own) (hM : Met l y wsy rm (MGPc D ca X H.size (wc u) As) (va_Ql GL (MB D ca (va_A (wc u) H.size) wc) (va_A (wc u) H.size)) mc ms (va_A (wc u) H.size)) (cw : CallB R s args own index y bytes maxL ret wsy rm mc ms n ∧ (Cond.static y).before args s = true) (hK : va_K D vwCl (TYS ca) s) (hP : va_P D vwCl ws H) (hD : va_D A0 ws) (hS : va_S A0 s.heap H locs) (hA : ∀ q, s.heap.size ≤ q → A0 q) (hX : X (va_A (wc u) H.size) s H) (hperm : ws.Perm (wr ++ wc u)) (hn : As.length = n) (hsize : ls.size = nL) (hst : st0 = As.reverse ++ rest) (hW : (rest.map fun v => v.category).sum ≤ 8) (hf : cells + mc ≤ R.cells ∧ slots + ms ≤ R.slots) (hdg : decode cc pc = .ok (.invokestatic index, 3))
    (kk : ∀ (H1 : Heap) (locs1 : List Loc) (r : Int64) (v : OS), GL r v → va_P D vwCl (wr ++ wc v) H1 → va_D A0 (wr ++ wc v) → va_S A0 s.heap H1 locs1 → W p l e R s m args below meth c H1 locs1 (cells + mc) (slots + ms) Q (F0 m (pc + 3) ls (.long r :: rest))) : W p l e R s m args below meth c H locs cells slots Q (F0 m pc ls st0) := by
  have hPc := P_right (P_perm hperm hP)
  have hDc := D_right (D_perm hperm hD)
  have hF := J_free hperm hD hS hA
  refine va_calll (va_runS S hM cw ⟨MGPc_blind ok, fun U hU hW => ⟨rfl, by rw [hU], by rw [hU]; exact hPc, va_K.moved hW.alike hK, hDc.weaken (fun _ _ _ _ => trivial), by rw [hU]; exact ok.1 _ _ _ _ hW hX⟩⟩ rfl hn hsize hst (lv_room hW) hdg hf) hS (fun q _ h => hF q h) hF (fun r z t H1 locs1 ht hvm hw hB hz hk hS1 => ?_)
  obtain ⟨hP1, -, hD1⟩ := hB
  rw [ht] at hP1
  obtain ⟨g1, g2⟩ := J_join hperm hP hD hk hF hP1 hD1
  exact kk H1 locs1 r z hw g1 g2 hS1
theorem hcGp {G : Int32 × OS} (ok : SXok X) (S : CallFix p m c cc nL s args Ts own) (hM : Met l y wsy rm (MGPc D ca X H.size (wc u) As) (va_Qi (fun r v => (r, v) = G) (MB D ca (va_A (wc u) H.size) wc) (va_A (wc u) H.size)) mc ms (va_A (wc u) H.size)) (cw : CallB R s args own index y bytes maxL ret wsy rm mc ms n ∧ (Cond.static y).before args s = true) (hK : va_K D vwCl (TYS ca) s) (hP : va_P D vwCl ws H) (hD : va_D A0 ws) (hS : va_S A0 s.heap H locs) (hA : ∀ q, s.heap.size ≤ q → A0 q) (hX : X (va_A (wc u) H.size) s H) (hperm : ws.Perm (wr ++ wc u)) (hn : As.length = n) (hsize : ls.size = nL) (hst : st0 = As.reverse ++ rest) (hW : (rest.map fun v => v.category).sum ≤ 8) (hf : cells + mc ≤ R.cells ∧ slots + ms ≤ R.slots) (hdg : decode cc pc = .ok (.invokestatic index, 3))
    (kk : ∀ (H1 : Heap) (locs1 : List Loc), va_P D vwCl (wr ++ wc G.2) H1 → va_D A0 (wr ++ wc G.2) → va_S A0 s.heap H1 locs1 → W p l e R s m args below meth c H1 locs1 (cells + mc) (slots + ms) Q (F0 m (pc + 3) ls (.int G.1 :: rest))) : W p l e R s m args below meth c H locs cells slots Q (F0 m pc ls st0) :=
  hcGi ok S hM cw hK hP hD hS hA hX hperm hn hsize hst hW hf hdg (fun H1 locs1 r v hG h1 h2 h3 => by subst hG; exact kk H1 locs1 h1 h2 h3)
theorem hcGlp {G : Int64 × OS} (ok : SXok X) (S : CallFix p m c cc nL s args Ts own) (hM : Met l y wsy rm (MGPc D ca X H.size (wc u) As) (va_Ql (fun r v => (r, v) = G) (MB D ca (va_A (wc u) H.size) wc) (va_A (wc u) H.size)) mc ms (va_A (wc u) H.size)) (cw : CallB R s args own index y bytes maxL ret wsy rm mc ms n ∧ (Cond.static y).before args s = true) (hK : va_K D vwCl (TYS ca) s) (hP : va_P D vwCl ws H) (hD : va_D A0 ws) (hS : va_S A0 s.heap H locs) (hA : ∀ q, s.heap.size ≤ q → A0 q) (hX : X (va_A (wc u) H.size) s H) (hperm : ws.Perm (wr ++ wc u)) (hn : As.length = n) (hsize : ls.size = nL) (hst : st0 = As.reverse ++ rest) (hW : (rest.map fun v => v.category).sum ≤ 8) (hf : cells + mc ≤ R.cells ∧ slots + ms ≤ R.slots) (hdg : decode cc pc = .ok (.invokestatic index, 3))
    (kk : ∀ (H1 : Heap) (locs1 : List Loc), va_P D vwCl (wr ++ wc G.2) H1 → va_D A0 (wr ++ wc G.2) → va_S A0 s.heap H1 locs1 → W p l e R s m args below meth c H1 locs1 (cells + mc) (slots + ms) Q (F0 m (pc + 3) ls (.long G.1 :: rest))) : W p l e R s m args below meth c H locs cells slots Q (F0 m pc ls st0) :=
  hcGl ok S hM cw hK hP hD hS hA hX hperm hn hsize hst hW hf hdg (fun H1 locs1 r v hG h1 h2 h3 => by subst hG; exact kk H1 locs1 h1 h2 h3)
end ROWG
