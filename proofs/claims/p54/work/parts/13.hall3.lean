theorem reach_col : ∀ j, j < 40 → ∀ d : Bool, ¬ (nI j - nI j / 10 * 10 + nI 11 * (if d then (-1) else 1) < 0) → ¬ (nI j - nI j / 10 * 10 + nI 11 * (if d then (-1) else 1) < 10) := by decide +kernel
theorem reach_dead {x1 x2 : Int32} (hch : vp_in x1 40) (hd : x2 = -1 ∨ x2 = 1) (h1 : ¬ (x1 - x1 / 10 * 10 + nI 11 * x2 < 0)) : ¬ (x1 - x1 / 10 * 10 + nI 11 * x2 < 10) := by
  obtain ⟨j, hj, rfl⟩ := vp_in_of hch (by decide)
  rcases hd with rfl | rfl
  · exact reach_col j hj true h1
  · exact reach_col j hj false h1
def fX3_reach_12 : Nat → Nat → Int32 → Int32 → Int32 → Int64 → Int64 → Int32 → Int64
  | 0, k, x1, x2, x3, x4, y5, y7 => (if x3 < (nI 11) then y5 else (if (y7 + ((nI 11) * x2)) < 0 then y5 else (if (y7 + ((nI 11) * x2)) < 10 then y5 else y5)))
  | n + 1, k, x1, x2, x3, x4, y5, y7 => (if x3 < (nI k) then y5 else (if (y7 + ((nI k) * x2)) < 0 then y5 else (if (y7 + ((nI k) * x2)) < 10 then (if (lg_cmp (x4 &&& (lsh 1 (x1 + ((nI k) * x2)))) 0) = 0 then fX3_reach_12 n (k + 1) x1 x2 x3 x4 (y5 ||| (lsh 1 (x1 + ((nI k) * x2)))) y7 else y5) else y5)))
def fX3_reach (x1 : Int32) (x2 : Int32) (x3 : Int32) (x4 : Int64) : Int64 :=
  fX3_reach_12 10 1 x1 x2 x3 x4 0 (x1 - x1 / 10 * 10)
set_option maxHeartbeats 4000000 in
set_option maxRecDepth 100000 in
/-- reach -/
theorem kX3_reach (l : Launch) (x1 : Int32) (x2 : Int32) (x3 : Int32) (x4 : Int64) (hch : vp_in x1 40) (hd : x2 = -1 ∨ x2 = 1) : Met l yX3_reach wsX3_reach ({ frames := 0, cells := 0, slots := 0, locals := 0 }) (va_Pc [.int x1, .int x2, .int x3, .long x4] (fun _ => True)) (vp_Sl (fun r => r = fX3_reach x1 x2 x3 x4)) 0 0 (fun _ => False) := by
  refine Met.ofW (cc := cX3_reach) (maxL := 12) (ret := (some .long)) (by decide) rfl ?_
  intro p e s m args below meth c s₁ B hml hv
  obtain ⟨rfl, -⟩ := hv
  have hx := B.exec
  have hb := B.bytes
  have hr := B.returns
  have hts := atoms_spec (ws := wsX3_reach) B.pre
  have hown : s.vm.findClass RX3 = some m.cls := findClass_of_methodNamed B.named
  have hlocks := B.notSynchronized
  have cut_12 : ∀ (n k : Nat) (hnk : n + k = 11) (y5 : Int64) (y7 : Int32) (h7 : y7 = x1 - x1 / 10 * 10) (hf : fX3_reach x1 x2 x3 x4 = fX3_reach_12 n k x1 x2 x3 x4 y5 y7) (ls : Array Slot) (hl : lv_has ls 12 [(0, .int x1), (1, .int x2), (2, .int x3), (3, .long x4), (5, .long y5), (7, .int y7), (8, .int (nI k))]), W p l e (headSpec wsX3_reach ({ frames := 0, cells := 0, slots := 0, locals := 0 })).room s m ([.int x1, .int x2, .int x3, .long x4] : List Value).toArray below meth c s.heap [] 0 0 (MQ below (vp_Sl (fun r => r = fX3_reach x1 x2 x3 x4)) ([.int x1, .int x2, .int x3, .long x4] : List Value).toArray s 0 0 (fun _ => False)) (F0 m 12 ls []) := by
    intro n
    induction n with
    | zero =>
      intro k hnk y5 y7 h7 hf ls hl
      obtain rfl : k = 11 := by omega
      refine lv_iload hx hb dX3_reach_12 (lv_at hl 6 rfl) ?_
      refine lv_iload_n hx hb dX3_reach_14 rfl (lv_at hl 2 rfl) ?_
      refine lv_icmp_gt (tgt := 77) hx hb dX3_reach_15 (by decide) (fun c_15 => ?_) (fun c_15 => ?_)
      · have hf := hf.trans (if_pos c_15)
        refine lv_lload hx hb dX3_reach_77 (lv_at hl 4 rfl) ?_
        exact W.lret (v := y5) hx hb hr (fun t ht hW => ⟨y5, rfl, hf.symm, ht⟩) (fun _ h => by cases h) dX3_reach_79
      · have hf := hf.trans (if_neg c_15)
        refine lv_iload hx hb dX3_reach_18 (lv_at hl 5 rfl) ?_
        refine lv_iload hx hb dX3_reach_20 (lv_at hl 6 rfl) ?_
        refine lv_iload_n hx hb dX3_reach_22 rfl (lv_at hl 1 rfl) ?_
        refine lv_imul hx hb dX3_reach_23 ?_
        refine lv_iadd hx hb dX3_reach_24 ?_
        refine lv_istore (lv' := [(9, .int (y7 + ((nI 11) * x2))), (0, .int x1), (1, .int x2), (2, .int x3), (3, .long x4), (5, .long y5), (7, .int y7), (8, .int (nI 11))]) hx hb dX3_reach_25 hl (by decide) rfl (fun ls hl => ?_)
        refine lv_iload hx hb dX3_reach_27 (lv_at hl 0 rfl) ?_
        refine lv_if_lt (tgt := 39) hx hb dX3_reach_29 (by decide) (fun c_29 => ?_) (fun c_29 => ?_)
        · have hf := hf.trans (if_pos c_29)
          refine lv_lload hx hb dX3_reach_39 (lv_at hl 5 rfl) ?_
          exact W.lret (v := y5) hx hb hr (fun t ht hW => ⟨y5, rfl, hf.symm, ht⟩) (fun _ h => by cases h) dX3_reach_41
        · have hf := hf.trans (if_neg c_29)
          refine lv_iload hx hb dX3_reach_32 (lv_at hl 0 rfl) ?_
          refine lv_bipush (v := 10) hx hb dX3_reach_34 (by decide) ?_
          refine lv_icmp_lt (tgt := 42) hx hb dX3_reach_36 (by decide) (fun c_36 => ?_) (fun c_36 => ?_)
          · exact absurd (by subst h7; exact reach_dead hch hd c_29 c_36) id
          · have hf := hf.trans (if_neg c_36)
            refine lv_lload hx hb dX3_reach_39 (lv_at hl 5 rfl) ?_
            exact W.lret (v := y5) hx hb hr (fun t ht hW => ⟨y5, rfl, hf.symm, ht⟩) (fun _ h => by cases h) dX3_reach_41
    | succ n ih =>
      intro k hnk y5 y7 h7 hf ls hl
      refine lv_iload hx hb dX3_reach_12 (lv_at hl 6 rfl) ?_
      refine lv_iload_n hx hb dX3_reach_14 rfl (lv_at hl 2 rfl) ?_
      refine lv_icmp_gt (tgt := 77) hx hb dX3_reach_15 (by decide) (fun c_15 => ?_) (fun c_15 => ?_)
      · have hf := hf.trans (if_pos c_15)
        refine lv_lload hx hb dX3_reach_77 (lv_at hl 4 rfl) ?_
        exact W.lret (v := y5) hx hb hr (fun t ht hW => ⟨y5, rfl, hf.symm, ht⟩) (fun _ h => by cases h) dX3_reach_79
      · have hf := hf.trans (if_neg c_15)
        refine lv_iload hx hb dX3_reach_18 (lv_at hl 5 rfl) ?_
        refine lv_iload hx hb dX3_reach_20 (lv_at hl 6 rfl) ?_
        refine lv_iload_n hx hb dX3_reach_22 rfl (lv_at hl 1 rfl) ?_
        refine lv_imul hx hb dX3_reach_23 ?_
        refine lv_iadd hx hb dX3_reach_24 ?_
        refine lv_istore (lv' := [(9, .int (y7 + ((nI k) * x2))), (0, .int x1), (1, .int x2), (2, .int x3), (3, .long x4), (5, .long y5), (7, .int y7), (8, .int (nI k))]) hx hb dX3_reach_25 hl (by decide) rfl (fun ls hl => ?_)
        refine lv_iload hx hb dX3_reach_27 (lv_at hl 0 rfl) ?_
        refine lv_if_lt (tgt := 39) hx hb dX3_reach_29 (by decide) (fun c_29 => ?_) (fun c_29 => ?_)
        · have hf := hf.trans (if_pos c_29)
          refine lv_lload hx hb dX3_reach_39 (lv_at hl 5 rfl) ?_
          exact W.lret (v := y5) hx hb hr (fun t ht hW => ⟨y5, rfl, hf.symm, ht⟩) (fun _ h => by cases h) dX3_reach_41
        · have hf := hf.trans (if_neg c_29)
          refine lv_iload hx hb dX3_reach_32 (lv_at hl 0 rfl) ?_
          refine lv_bipush (v := 10) hx hb dX3_reach_34 (by decide) ?_
          refine lv_icmp_lt (tgt := 42) hx hb dX3_reach_36 (by decide) (fun c_36 => ?_) (fun c_36 => ?_)
          · have hf := hf.trans (if_pos c_36)
            refine lv_lconst (v := 1) hx hb dX3_reach_42 (by decide) ?_
            refine lv_iload_n hx hb dX3_reach_43 rfl (lv_at hl 1 rfl) ?_
            refine lv_iload hx hb dX3_reach_44 (lv_at hl 7 rfl) ?_
            refine lv_iload_n hx hb dX3_reach_46 rfl (lv_at hl 2 rfl) ?_
            refine lv_imul hx hb dX3_reach_47 ?_
            refine lv_iadd hx hb dX3_reach_48 ?_
            refine lv_lshl (v := lsh 1 (x1 + ((nI k) * x2))) hx hb dX3_reach_49 rfl ?_
            refine lv_lstore (lv' := [(10, .long (lsh 1 (x1 + ((nI k) * x2)))), (9, .int (y7 + ((nI k) * x2))), (0, .int x1), (1, .int x2), (2, .int x3), (3, .long x4), (5, .long y5), (7, .int y7), (8, .int (nI k))]) hx hb dX3_reach_50 hl (by decide) rfl (fun ls hl => ?_)
            refine lv_lload_n hx hb dX3_reach_52 rfl (lv_at hl 5 rfl) ?_
            refine lv_lload hx hb dX3_reach_53 (lv_at hl 0 rfl) ?_
            refine lv_land hx hb dX3_reach_55 ?_
            refine lv_lconst (v := 0) hx hb dX3_reach_56 (by decide) ?_
            refine W.lcmp hx hb dX3_reach_57 ?_
            refine lv_if_eq (tgt := 64) hx hb dX3_reach_58 (by decide) (fun c_58 => ?_) (fun c_58 => ?_)
            · have hf := hf.trans (if_pos c_58)
              refine lv_lload hx hb dX3_reach_64 (lv_at hl 6 rfl) ?_
              refine lv_lload hx hb dX3_reach_66 (lv_at hl 0 rfl) ?_
              refine lv_lor hx hb dX3_reach_68 ?_
              refine lv_lstore (lv' := [(5, .long (y5 ||| (lsh 1 (x1 + ((nI k) * x2))))), (10, .long (lsh 1 (x1 + ((nI k) * x2)))), (9, .int (y7 + ((nI k) * x2))), (0, .int x1), (1, .int x2), (2, .int x3), (3, .long x4), (7, .int y7), (8, .int (nI k))]) hx hb dX3_reach_69 hl (by decide) rfl (fun ls hl => ?_)
              refine lv_iinc (v := nI (k + 1)) (lv' := [(8, .int (nI (k + 1))), (5, .long (y5 ||| (lsh 1 (x1 + ((nI k) * x2))))), (10, .long (lsh 1 (x1 + ((nI k) * x2)))), (9, .int (y7 + ((nI k) * x2))), (0, .int x1), (1, .int x2), (2, .int x3), (3, .long x4), (7, .int y7)]) hx hb dX3_reach_71 hl (k := 8) rfl (nI_1 k) (by decide) rfl (fun ls hl => ?_)
              refine lv_goto (tgt := 12) hx hb dX3_reach_74 (by decide) ?_
              exact ih (k + 1) (by omega) (y5 ||| (lsh 1 (x1 + ((nI k) * x2)))) y7 (by first | exact h7 | rfl) hf ls (lv_sub hl [4, 5, 6, 7, 1, 8, 0] rfl)
            · have hf := hf.trans (if_neg c_58)
              refine lv_lload hx hb dX3_reach_61 (lv_at hl 6 rfl) ?_
              exact W.lret (v := y5) hx hb hr (fun t ht hW => ⟨y5, rfl, hf.symm, ht⟩) (fun _ h => by cases h) dX3_reach_63
          · have hf := hf.trans (if_neg c_36)
            refine lv_lload hx hb dX3_reach_39 (lv_at hl 5 rfl) ?_
            exact W.lret (v := y5) hx hb hr (fun t ht hW => ⟨y5, rfl, hf.symm, ht⟩) (fun _ h => by cases h) dX3_reach_41
  have hf : fX3_reach x1 x2 x3 x4 = fX3_reach x1 x2 x3 x4 := rfl
  refine W_entry (Nat.le_of_ble_eq_true rfl) (fun ls hl => ?_)
  have hl : lv_has ls 12 [(0, .int x1), (1, .int x2), (2, .int x3), (3, .long x4)] := hl
  refine lv_lconst (v := 0) hx hb dX3_reach_0 (by decide) ?_
  refine lv_lstore (lv' := [(5, .long 0), (0, .int x1), (1, .int x2), (2, .int x3), (3, .long x4)]) hx hb dX3_reach_1 hl (by decide) rfl (fun ls hl => ?_)
  refine lv_iload_n hx hb dX3_reach_3 rfl (lv_at hl 1 rfl) ?_
  refine lv_bipush (v := 10) hx hb dX3_reach_4 (by decide) ?_
  refine lv_irem hx hb dX3_reach_6 (by decide) ?_
  refine lv_istore (lv' := [(7, .int (x1 - x1 / 10 * 10)), (5, .long 0), (0, .int x1), (1, .int x2), (2, .int x3), (3, .long x4)]) hx hb dX3_reach_7 hl (by decide) rfl (fun ls hl => ?_)
  refine lv_iconst (v := 1) hx hb dX3_reach_9 (by decide) ?_
  refine lv_istore (lv' := [(8, .int 1), (7, .int (x1 - x1 / 10 * 10)), (5, .long 0), (0, .int x1), (1, .int x2), (2, .int x3), (3, .long x4)]) hx hb dX3_reach_10 hl (by decide) rfl (fun ls hl => ?_)
  exact cut_12 10 1 (by omega) 0 (x1 - x1 / 10 * 10) (by first | exact h7 | rfl) hf ls (lv_sub hl [3, 4, 5, 6, 2, 1, 0] rfl)
def fX3_putHat (u : HS) (x1 : Int32) (x2 : Int32) : Int32 × HS :=
  (fJ13_bitCount_95d88 ((vp_updL (h4 u) x1.toNatClampNeg (((lsh 1 x2) ||| (fX3_reach x2 (-1) ((h1 u) x1.toNatClampNeg) (fX3_coveredChairs u))) ||| (fX3_reach x2 1 ((h1 u) x1.toNatClampNeg) (fX3_coveredChairs u)))) x1.toNatClampNeg), s4 (vp_updL (h4 u) x1.toNatClampNeg (((lsh 1 x2) ||| (fX3_reach x2 (-1) ((h1 u) x1.toNatClampNeg) (fX3_coveredChairs u))) ||| (fX3_reach x2 1 ((h1 u) x1.toNatClampNeg) (fX3_coveredChairs u)))) (s3 (upd (h3 u) x1.toNatClampNeg (h10 u)) (s2 (upd (h2 u) x1.toNatClampNeg x2) u)))
set_option maxHeartbeats 4000000 in
set_option maxRecDepth 100000 in
/-- putHat -/
theorem kX3_putHat (l : Launch) (D : va_G) (ca : Nat → ClassId) (a : Nat → Nat) (sz : Nat) (u : HS) (x1 : Int32) (x2 : Int32) (hg : vp_in x1 8) (hch : vp_in x2 40) : Met l yX3_putHat wsX3_putHat ({ frames := 1, cells := 0, slots := 0, locals := 31 }) (MPc D ca sz (HW ca a u) [.ref (a 8), .int x1, .int x2]) (va_Qi (fun r v => (r, v) = fX3_putHat u x1 x2) (MB D ca (va_A (HW ca a u) sz) (HW ca a)) (va_A (HW ca a u) sz)) 0 0 (va_A (HW ca a u) sz) := by
  refine Met.ofW (cc := cX3_putHat) (maxL := 5) (ret := (some .int)) (by decide) rfl ?_
  intro p e s m args below meth c s₁ B hml hv
  obtain ⟨rfl, hsz, hP, hK, hD0⟩ := hv
  have hx := B.exec
  have hb := B.bytes
  have hr := B.returns
  have hts := atoms_spec (ws := wsX3_putHat) B.pre
  have hown : s.vm.findClass RX3 = some m.cls := findClass_of_methodNamed B.named
  have hlocks := B.notSynchronized
  have hin3 : ∀ w ∈ wsX30, w ∈ wsX3_putHat := by decide +kernel
  subst hsz
  have hD := hD0.self (sz := s.heap.size)
  generalize hAe : va_A (HW ca a u) s.heap.size = A at hD ⊢
  have hA : ∀ q : Nat, s.heap.size ≤ q → A q := fun q h => by rw [← hAe]; exact Or.inr h
  have hS : va_S A s.heap s.heap [] := va_S.rf
  have hf : fX3_putHat u x1 x2 = fX3_putHat u x1 x2 := rfl
  refine W_entry (Nat.le_of_ble_eq_true rfl) (fun ls hl => ?_)
  have hl : lv_has ls 5 [(0, .ref (a 8)), (1, .int x1), (2, .int x2)] := hl
  refine lv_aload_n hx hb dX3_putHat_0 rfl (lv_at hl 0 rfl) ?_
  refine hcRl (As := []) (rest := []) 0 4 ⟨hx, hb, hml, hown, hts⟩ (kX3_coveredChairs l D ca a u  ) (cwV 0 hts gX3_putHat_X3_coveredChairs rfl rfl rfl (by decide +kernel) ⟨Nat.le_of_ble_eq_true rfl, Nat.le_of_ble_eq_true rfl⟩) hK hP rfl rfl rfl hl.1 rfl (Nat.le_of_ble_eq_true rfl) ⟨Nat.zero_le _, Nat.zero_le _⟩ dX3_putHat_1 ?_
  refine lv_lstore_n (lv' := [(3, .long (fX3_coveredChairs u)), (0, .ref (a 8)), (1, .int x1), (2, .int x2)]) hx hb dX3_putHat_4 rfl hl (by decide) rfl (fun ls hl => ?_)
  refine lv_aload_n hx hb dX3_putHat_5 rfl (lv_at hl 1 rfl) ?_
  refine va_get (D := D) (ci := 4) (v := .ref (a 2)) (C := RX3) (T := TX3) (N := 15) hx hb hts hin3 hown hK hP 0 rfl rfl 2 (by decide) (hts (.fieldLink RX3 18 "HatReservations$Hall" "hatChairs" "[I") (by decide +kernel)) (fun _ h9 => h9) rfl dX3_putHat_6 ?_
  refine lv_iload_n hx hb dX3_putHat_9 rfl (lv_at hl 2 rfl) ?_
  refine lv_iload_n hx hb dX3_putHat_10 rfl (lv_at hl 3 rfl) ?_
  refine va_iast (f := h2 u) hx hb hK hP hD hS 3 0 rfl rfl hg dX3_putHat_11 (fun H locs hP hD hS => ?_)
  have hP : va_P D vwCl (HW ca a (s2 (upd (h2 u) x1.toNatClampNeg x2) u)) H := hP
  have hD : va_D A (HW ca a (s2 (upd (h2 u) x1.toNatClampNeg x2) u)) := hD
  refine lv_aload_n hx hb dX3_putHat_12 rfl (lv_at hl 1 rfl) ?_
  refine va_get (D := D) (ci := 4) (v := .ref (a 3)) (C := RX3) (T := TX3) (N := 15) hx hb hts hin3 hown hK hP 0 rfl rfl 3 (by decide) (hts (.fieldLink RX3 21 "HatReservations$Hall" "touchTimes" "[I") (by decide +kernel)) (fun _ h9 => h9) rfl dX3_putHat_13 ?_
  refine lv_iload_n hx hb dX3_putHat_16 rfl (lv_at hl 2 rfl) ?_
  refine lv_aload_n hx hb dX3_putHat_17 rfl (lv_at hl 1 rfl) ?_
  refine va_get (D := D) (ci := 4) (v := .int (h10 u)) (C := RX3) (T := TX3) (N := 15) hx hb hts hin3 hown hK hP 0 rfl rfl 10 (by decide) (hts (.fieldLink RX3 44 "HatReservations$Hall" "time" "I") (by decide +kernel)) (fun _ h9 => h9) rfl dX3_putHat_18 ?_
  refine va_iast (f := h3 u) hx hb hK hP hD hS 4 0 rfl rfl hg dX3_putHat_21 (fun H locs hP hD hS => ?_)
  have hP : va_P D vwCl (HW ca a (s3 (upd (h3 u) x1.toNatClampNeg (h10 u)) (s2 (upd (h2 u) x1.toNatClampNeg x2) u))) H := hP
  have hD : va_D A (HW ca a (s3 (upd (h3 u) x1.toNatClampNeg (h10 u)) (s2 (upd (h2 u) x1.toNatClampNeg x2) u))) := hD
  refine lv_aload_n hx hb dX3_putHat_22 rfl (lv_at hl 1 rfl) ?_
  refine va_get (D := D) (ci := 4) (v := .ref (a 4)) (C := RX3) (T := TX3) (N := 15) hx hb hts hin3 hown hK hP 0 rfl rfl 4 (by decide) (hts (.fieldLink RX3 24 "HatReservations$Hall" "covers" "[J") (by decide +kernel)) (fun _ h9 => h9) rfl dX3_putHat_23 ?_
  refine lv_iload_n hx hb dX3_putHat_26 rfl (lv_at hl 2 rfl) ?_
  refine lv_lconst (v := 1) hx hb dX3_putHat_27 (by decide) ?_
  refine lv_iload_n hx hb dX3_putHat_28 rfl (lv_at hl 3 rfl) ?_
  refine lv_lshl (v := lsh 1 x2) hx hb dX3_putHat_29 rfl ?_
  refine lv_iload_n hx hb dX3_putHat_30 rfl (lv_at hl 3 rfl) ?_
  refine lv_iconst (v := (-1)) hx hb dX3_putHat_31 (by decide) ?_
  refine lv_aload_n hx hb dX3_putHat_32 rfl (lv_at hl 1 rfl) ?_
  refine va_get (D := D) (ci := 4) (v := .ref (a 1)) (C := RX3) (T := TX3) (N := 15) hx hb hts hin3 hown hK hP 0 rfl rfl 1 (by decide) (hts (.fieldLink RX3 15 "HatReservations$Hall" "brims" "[I") (by decide +kernel)) (fun _ h9 => h9) rfl dX3_putHat_33 ?_
  refine lv_iload_n hx hb dX3_putHat_36 rfl (lv_at hl 2 rfl) ?_
  refine va_iald (f := h1 u) hx hb hK hP 2 0 rfl rfl hg dX3_putHat_37 ?_
  refine lv_lload_n hx hb dX3_putHat_38 rfl (lv_at hl 0 rfl) ?_
  refine hcSl (As := [.int x2, .int (-1), .int ((h1 u) x1.toNatClampNeg), .long (fX3_coveredChairs u)]) (rest := [.long (lsh 1 x2), .int x1, .ref (a 4)]) ⟨hx, hb, hml, hown, hts⟩ (kX3_reach l x2 (-1) ((h1 u) x1.toNatClampNeg) (fX3_coveredChairs u) hch (Or.inl rfl)) (va_cwS 4 hts gX3_putHat_X3_reach rfl rfl rfl (by decide +kernel) ⟨Nat.le_of_ble_eq_true rfl, Nat.le_of_ble_eq_true rfl⟩) rfl hl.1 rfl (Nat.le_of_ble_eq_true rfl) ⟨Nat.zero_le _, Nat.zero_le _⟩ dX3_putHat_39 ?_
  refine lv_lor hx hb dX3_putHat_42 ?_
  refine lv_iload_n hx hb dX3_putHat_43 rfl (lv_at hl 3 rfl) ?_
  refine lv_iconst (v := 1) hx hb dX3_putHat_44 (by decide) ?_
  refine lv_aload_n hx hb dX3_putHat_45 rfl (lv_at hl 1 rfl) ?_
  refine va_get (D := D) (ci := 4) (v := .ref (a 1)) (C := RX3) (T := TX3) (N := 15) hx hb hts hin3 hown hK hP 0 rfl rfl 1 (by decide) (hts (.fieldLink RX3 15 "HatReservations$Hall" "brims" "[I") (by decide +kernel)) (fun _ h9 => h9) rfl dX3_putHat_46 ?_
  refine lv_iload_n hx hb dX3_putHat_49 rfl (lv_at hl 2 rfl) ?_
  refine va_iald (f := h1 u) hx hb hK hP 2 0 rfl rfl hg dX3_putHat_50 ?_
  refine lv_lload_n hx hb dX3_putHat_51 rfl (lv_at hl 0 rfl) ?_
  refine hcSl (As := [.int x2, .int 1, .int ((h1 u) x1.toNatClampNeg), .long (fX3_coveredChairs u)]) (rest := [.long ((lsh 1 x2) ||| (fX3_reach x2 (-1) ((h1 u) x1.toNatClampNeg) (fX3_coveredChairs u))), .int x1, .ref (a 4)]) ⟨hx, hb, hml, hown, hts⟩ (kX3_reach l x2 1 ((h1 u) x1.toNatClampNeg) (fX3_coveredChairs u) hch (Or.inr rfl)) (va_cwS 4 hts gX3_putHat_X3_reach rfl rfl rfl (by decide +kernel) ⟨Nat.le_of_ble_eq_true rfl, Nat.le_of_ble_eq_true rfl⟩) rfl hl.1 rfl (Nat.le_of_ble_eq_true rfl) ⟨Nat.zero_le _, Nat.zero_le _⟩ dX3_putHat_52 ?_
  refine lv_lor hx hb dX3_putHat_55 ?_
  refine va_last (f := h4 u) hx hb hK hP hD hS 5 1 rfl rfl hg dX3_putHat_56 (fun H locs hP hD hS => ?_)
  have hP : va_P D vwCl (HW ca a (s4 (vp_updL (h4 u) x1.toNatClampNeg (((lsh 1 x2) ||| (fX3_reach x2 (-1) ((h1 u) x1.toNatClampNeg) (fX3_coveredChairs u))) ||| (fX3_reach x2 1 ((h1 u) x1.toNatClampNeg) (fX3_coveredChairs u)))) (s3 (upd (h3 u) x1.toNatClampNeg (h10 u)) (s2 (upd (h2 u) x1.toNatClampNeg x2) u)))) H := hP
  have hD : va_D A (HW ca a (s4 (vp_updL (h4 u) x1.toNatClampNeg (((lsh 1 x2) ||| (fX3_reach x2 (-1) ((h1 u) x1.toNatClampNeg) (fX3_coveredChairs u))) ||| (fX3_reach x2 1 ((h1 u) x1.toNatClampNeg) (fX3_coveredChairs u)))) (s3 (upd (h3 u) x1.toNatClampNeg (h10 u)) (s2 (upd (h2 u) x1.toNatClampNeg x2) u)))) := hD
  refine lv_aload_n hx hb dX3_putHat_57 rfl (lv_at hl 1 rfl) ?_
  refine va_get (D := D) (ci := 4) (v := .ref (a 4)) (C := RX3) (T := TX3) (N := 15) hx hb hts hin3 hown hK hP 0 rfl rfl 4 (by decide) (hts (.fieldLink RX3 24 "HatReservations$Hall" "covers" "[J") (by decide +kernel)) (fun _ h9 => h9) rfl dX3_putHat_58 ?_
  refine lv_iload_n hx hb dX3_putHat_61 rfl (lv_at hl 2 rfl) ?_
  refine va_lald (f := vp_updL (h4 u) x1.toNatClampNeg (((lsh 1 x2) ||| (fX3_reach x2 (-1) ((h1 u) x1.toNatClampNeg) (fX3_coveredChairs u))) ||| (fX3_reach x2 1 ((h1 u) x1.toNatClampNeg) (fX3_coveredChairs u)))) hx hb hK hP 5 1 rfl rfl hg dX3_putHat_62 ?_
  refine hcSi (As := [.long ((vp_updL (h4 u) x1.toNatClampNeg (((lsh 1 x2) ||| (fX3_reach x2 (-1) ((h1 u) x1.toNatClampNeg) (fX3_coveredChairs u))) ||| (fX3_reach x2 1 ((h1 u) x1.toNatClampNeg) (fX3_coveredChairs u)))) x1.toNatClampNeg)]) (rest := []) ⟨hx, hb, hml, hown, hts⟩ (kJ13_bitCount_95d88 l ((vp_updL (h4 u) x1.toNatClampNeg (((lsh 1 x2) ||| (fX3_reach x2 (-1) ((h1 u) x1.toNatClampNeg) (fX3_coveredChairs u))) ||| (fX3_reach x2 1 ((h1 u) x1.toNatClampNeg) (fX3_coveredChairs u)))) x1.toNatClampNeg) ) (va_cwS 1 hts gX3_putHat_J13_bitCount_95d88 rfl rfl rfl (by decide +kernel) ⟨Nat.le_of_ble_eq_true rfl, Nat.le_of_ble_eq_true rfl⟩) rfl hl.1 rfl (Nat.le_of_ble_eq_true rfl) ⟨Nat.zero_le _, Nat.zero_le _⟩ dX3_putHat_63 ?_
  exact W.iret (v := fJ13_bitCount_95d88 ((vp_updL (h4 u) x1.toNatClampNeg (((lsh 1 x2) ||| (fX3_reach x2 (-1) ((h1 u) x1.toNatClampNeg) (fX3_coveredChairs u))) ||| (fX3_reach x2 1 ((h1 u) x1.toNatClampNeg) (fX3_coveredChairs u)))) x1.toNatClampNeg)) hx hb hr (fun t ht hW => ⟨⟨fJ13_bitCount_95d88 ((vp_updL (h4 u) x1.toNatClampNeg (((lsh 1 x2) ||| (fX3_reach x2 (-1) ((h1 u) x1.toNatClampNeg) (fX3_coveredChairs u))) ||| (fX3_reach x2 1 ((h1 u) x1.toNatClampNeg) (fX3_coveredChairs u)))) x1.toNatClampNeg), s4 (vp_updL (h4 u) x1.toNatClampNeg (((lsh 1 x2) ||| (fX3_reach x2 (-1) ((h1 u) x1.toNatClampNeg) (fX3_coveredChairs u))) ||| (fX3_reach x2 1 ((h1 u) x1.toNatClampNeg) (fX3_coveredChairs u)))) (s3 (upd (h3 u) x1.toNatClampNeg (h10 u)) (s2 (upd (h2 u) x1.toNatClampNeg x2) u)), rfl, hf.symm, by rw [ht]; exact hP, va_K.moved hW.alike hK, hD⟩, hS.F ht⟩) hS.2.2 dX3_putHat_66
def fX3_welcome (u : HS) (x1 : Int32) (x2 : Int32) : Int32 × HS :=
  (h9 u, s9 ((h9 u) + 1) (s1 (upd (h1 u) (h9 u).toNatClampNeg x2) (s0 (upd (h0 u) (h9 u).toNatClampNeg x1) u)))
set_option maxHeartbeats 4000000 in
set_option maxRecDepth 100000 in
/-- welcome -/
theorem kX3_welcome (l : Launch) (D : va_G) (ca : Nat → ClassId) (a : Nat → Nat) (sz : Nat) (u : HS) (x1 : Int32) (x2 : Int32) (hw : vp_in (h9 u) 8) : Met l yX3_welcome wsX3_welcome ({ frames := 0, cells := 0, slots := 0, locals := 0 }) (MPc D ca sz (HW ca a u) [.ref (a 8), .int x1, .int x2]) (va_Qi (fun r v => (r, v) = fX3_welcome u x1 x2) (MB D ca (va_A (HW ca a u) sz) (HW ca a)) (va_A (HW ca a u) sz)) 0 0 (va_A (HW ca a u) sz) := by
  refine Met.ofW (cc := cX3_welcome) (maxL := 4) (ret := (some .int)) (by decide) rfl ?_
  intro p e s m args below meth c s₁ B hml hv
  obtain ⟨rfl, hsz, hP, hK, hD0⟩ := hv
  have hx := B.exec
  have hb := B.bytes
  have hr := B.returns
  have hts := atoms_spec (ws := wsX3_welcome) B.pre
  have hown : s.vm.findClass RX3 = some m.cls := findClass_of_methodNamed B.named
  have hlocks := B.notSynchronized
  have hin3 : ∀ w ∈ wsX30, w ∈ wsX3_welcome := by decide +kernel
  subst hsz
  have hD := hD0.self (sz := s.heap.size)
  generalize hAe : va_A (HW ca a u) s.heap.size = A at hD ⊢
  have hA : ∀ q : Nat, s.heap.size ≤ q → A q := fun q h => by rw [← hAe]; exact Or.inr h
  have hS : va_S A s.heap s.heap [] := va_S.rf
  have hf : fX3_welcome u x1 x2 = fX3_welcome u x1 x2 := rfl
  refine W_entry (Nat.le_of_ble_eq_true rfl) (fun ls hl => ?_)
  have hl : lv_has ls 4 [(0, .ref (a 8)), (1, .int x1), (2, .int x2)] := hl
  refine lv_aload_n hx hb dX3_welcome_0 rfl (lv_at hl 0 rfl) ?_
  refine va_get (D := D) (ci := 4) (v := .int (h9 u)) (C := RX3) (T := TX3) (N := 15) hx hb hts hin3 hown hK hP 0 rfl rfl 9 (by decide) (hts (.fieldLink RX3 41 "HatReservations$Hall" "guests" "I") (by decide +kernel)) (fun _ h9 => h9) rfl dX3_welcome_1 ?_
  refine lv_istore_n (lv' := [(3, .int (h9 u)), (0, .ref (a 8)), (1, .int x1), (2, .int x2)]) hx hb dX3_welcome_4 rfl hl (by decide) rfl (fun ls hl => ?_)
  refine lv_aload_n hx hb dX3_welcome_5 rfl (lv_at hl 1 rfl) ?_
  refine va_get (D := D) (ci := 4) (v := .ref (a 0)) (C := RX3) (T := TX3) (N := 15) hx hb hts hin3 hown hK hP 0 rfl rfl 0 (by decide) (hts (.fieldLink RX3 9 "HatReservations$Hall" "feathers" "[I") (by decide +kernel)) (fun _ h9 => h9) rfl dX3_welcome_6 ?_
  refine lv_iload_n hx hb dX3_welcome_9 rfl (lv_at hl 0 rfl) ?_
  refine lv_iload_n hx hb dX3_welcome_10 rfl (lv_at hl 2 rfl) ?_
  refine va_iast (f := h0 u) hx hb hK hP hD hS 1 0 rfl rfl hw dX3_welcome_11 (fun H locs hP hD hS => ?_)
  have hP : va_P D vwCl (HW ca a (s0 (upd (h0 u) (h9 u).toNatClampNeg x1) u)) H := hP
  have hD : va_D A (HW ca a (s0 (upd (h0 u) (h9 u).toNatClampNeg x1) u)) := hD
  refine lv_aload_n hx hb dX3_welcome_12 rfl (lv_at hl 1 rfl) ?_
  refine va_get (D := D) (ci := 4) (v := .ref (a 1)) (C := RX3) (T := TX3) (N := 15) hx hb hts hin3 hown hK hP 0 rfl rfl 1 (by decide) (hts (.fieldLink RX3 15 "HatReservations$Hall" "brims" "[I") (by decide +kernel)) (fun _ h9 => h9) rfl dX3_welcome_13 ?_
  refine lv_iload_n hx hb dX3_welcome_16 rfl (lv_at hl 0 rfl) ?_
  refine lv_iload_n hx hb dX3_welcome_17 rfl (lv_at hl 3 rfl) ?_
  refine va_iast (f := h1 u) hx hb hK hP hD hS 2 0 rfl rfl hw dX3_welcome_18 (fun H locs hP hD hS => ?_)
  have hP : va_P D vwCl (HW ca a (s1 (upd (h1 u) (h9 u).toNatClampNeg x2) (s0 (upd (h0 u) (h9 u).toNatClampNeg x1) u))) H := hP
  have hD : va_D A (HW ca a (s1 (upd (h1 u) (h9 u).toNatClampNeg x2) (s0 (upd (h0 u) (h9 u).toNatClampNeg x1) u))) := hD
  refine lv_aload_n hx hb dX3_welcome_19 rfl (lv_at hl 1 rfl) ?_
  refine lv_dup hx hb dX3_welcome_20 rfl ?_
  refine va_get (D := D) (ci := 4) (v := .int (h9 u)) (C := RX3) (T := TX3) (N := 15) hx hb hts hin3 hown hK hP 0 rfl rfl 9 (by decide) (hts (.fieldLink RX3 41 "HatReservations$Hall" "guests" "I") (by decide +kernel)) (fun _ h9 => h9) rfl dX3_welcome_21 ?_
  refine lv_iconst (v := 1) hx hb dX3_welcome_24 (by decide) ?_
  refine lv_iadd hx hb dX3_welcome_25 ?_
  refine va_put (D := D) (ci := 4) (v := .int ((h9 u) + 1)) (ty := .int) (C := RX3) (T := TX3) (N := 15) hx hb hts hin3 tyX3 tyX3_ok nmX3 hown hK hP hD hS 0 rfl rfl 9 (by decide) (hts (.fieldLink RX3 41 "HatReservations$Hall" "guests" "I") (by decide +kernel)) (fun _ h9 => h9) rfl (by decide +kernel) rfl rfl (Nat.le_of_ble_eq_true rfl) dX3_welcome_26 (fun H locs hP hD hS => ?_)
  have hP : va_P D vwCl (HW ca a (s9 ((h9 u) + 1) (s1 (upd (h1 u) (h9 u).toNatClampNeg x2) (s0 (upd (h0 u) (h9 u).toNatClampNeg x1) u)))) H := hP
  have hD : va_D A (HW ca a (s9 ((h9 u) + 1) (s1 (upd (h1 u) (h9 u).toNatClampNeg x2) (s0 (upd (h0 u) (h9 u).toNatClampNeg x1) u)))) := hD
  refine lv_iload_n hx hb dX3_welcome_29 rfl (lv_at hl 0 rfl) ?_
  exact W.iret (v := h9 u) hx hb hr (fun t ht hW => ⟨⟨h9 u, s9 ((h9 u) + 1) (s1 (upd (h1 u) (h9 u).toNatClampNeg x2) (s0 (upd (h0 u) (h9 u).toNatClampNeg x1) u)), rfl, hf.symm, by rw [ht]; exact hP, va_K.moved hW.alike hK, hD⟩, hS.F ht⟩) hS.2.2 dX3_welcome_30
def fX3_gainFeather (u : HS) (x1 : Int32) : Int32 × HS :=
  ((upd (h0 u) x1.toNatClampNeg (((h0 u) x1.toNatClampNeg) + 1)) x1.toNatClampNeg, s0 (upd (h0 u) x1.toNatClampNeg (((h0 u) x1.toNatClampNeg) + 1)) u)
set_option maxHeartbeats 4000000 in
set_option maxRecDepth 100000 in
/-- gainFeather -/
theorem kX3_gainFeather (l : Launch) (D : va_G) (ca : Nat → ClassId) (a : Nat → Nat) (sz : Nat) (u : HS) (x1 : Int32) (hg : vp_in x1 8) : Met l yX3_gainFeather wsX3_gainFeather ({ frames := 0, cells := 0, slots := 0, locals := 0 }) (MPc D ca sz (HW ca a u) [.ref (a 8), .int x1]) (va_Qi (fun r v => (r, v) = fX3_gainFeather u x1) (MB D ca (va_A (HW ca a u) sz) (HW ca a)) (va_A (HW ca a u) sz)) 0 0 (va_A (HW ca a u) sz) := by
  refine Met.ofW (cc := cX3_gainFeather) (maxL := 2) (ret := (some .int)) (by decide) rfl ?_
  intro p e s m args below meth c s₁ B hml hv
  obtain ⟨rfl, hsz, hP, hK, hD0⟩ := hv
  have hx := B.exec
  have hb := B.bytes
  have hr := B.returns
  have hts := atoms_spec (ws := wsX3_gainFeather) B.pre
  have hown : s.vm.findClass RX3 = some m.cls := findClass_of_methodNamed B.named
  have hlocks := B.notSynchronized
  have hin3 : ∀ w ∈ wsX30, w ∈ wsX3_gainFeather := by decide +kernel
  subst hsz
  have hD := hD0.self (sz := s.heap.size)
  generalize hAe : va_A (HW ca a u) s.heap.size = A at hD ⊢
  have hA : ∀ q : Nat, s.heap.size ≤ q → A q := fun q h => by rw [← hAe]; exact Or.inr h
  have hS : va_S A s.heap s.heap [] := va_S.rf
  have hf : fX3_gainFeather u x1 = fX3_gainFeather u x1 := rfl
  refine W_entry (Nat.le_of_ble_eq_true rfl) (fun ls hl => ?_)
  have hl : lv_has ls 2 [(0, .ref (a 8)), (1, .int x1)] := hl
  refine lv_aload_n hx hb dX3_gainFeather_0 rfl (lv_at hl 0 rfl) ?_
  refine va_get (D := D) (ci := 4) (v := .ref (a 0)) (C := RX3) (T := TX3) (N := 15) hx hb hts hin3 hown hK hP 0 rfl rfl 0 (by decide) (hts (.fieldLink RX3 9 "HatReservations$Hall" "feathers" "[I") (by decide +kernel)) (fun _ h9 => h9) rfl dX3_gainFeather_1 ?_
  refine lv_iload_n hx hb dX3_gainFeather_4 rfl (lv_at hl 1 rfl) ?_
  refine lv_dup2_11 hx hb dX3_gainFeather_5 rfl rfl ?_
  refine va_iald (f := h0 u) hx hb hK hP 1 0 rfl rfl hg dX3_gainFeather_6 ?_
  refine lv_iconst (v := 1) hx hb dX3_gainFeather_7 (by decide) ?_
  refine lv_iadd hx hb dX3_gainFeather_8 ?_
  refine va_iast (f := h0 u) hx hb hK hP hD hS 1 0 rfl rfl hg dX3_gainFeather_9 (fun H locs hP hD hS => ?_)
  have hP : va_P D vwCl (HW ca a (s0 (upd (h0 u) x1.toNatClampNeg (((h0 u) x1.toNatClampNeg) + 1)) u)) H := hP
  have hD : va_D A (HW ca a (s0 (upd (h0 u) x1.toNatClampNeg (((h0 u) x1.toNatClampNeg) + 1)) u)) := hD
  refine lv_aload_n hx hb dX3_gainFeather_10 rfl (lv_at hl 0 rfl) ?_
  refine va_get (D := D) (ci := 4) (v := .ref (a 0)) (C := RX3) (T := TX3) (N := 15) hx hb hts hin3 hown hK hP 0 rfl rfl 0 (by decide) (hts (.fieldLink RX3 9 "HatReservations$Hall" "feathers" "[I") (by decide +kernel)) (fun _ h9 => h9) rfl dX3_gainFeather_11 ?_
  refine lv_iload_n hx hb dX3_gainFeather_14 rfl (lv_at hl 1 rfl) ?_
  refine va_iald (f := upd (h0 u) x1.toNatClampNeg (((h0 u) x1.toNatClampNeg) + 1)) hx hb hK hP 1 0 rfl rfl hg dX3_gainFeather_15 ?_
  exact W.iret (v := (upd (h0 u) x1.toNatClampNeg (((h0 u) x1.toNatClampNeg) + 1)) x1.toNatClampNeg) hx hb hr (fun t ht hW => ⟨⟨(upd (h0 u) x1.toNatClampNeg (((h0 u) x1.toNatClampNeg) + 1)) x1.toNatClampNeg, s0 (upd (h0 u) x1.toNatClampNeg (((h0 u) x1.toNatClampNeg) + 1)) u, rfl, hf.symm, by rw [ht]; exact hP, va_K.moved hW.alike hK, hD⟩, hS.F ht⟩) hS.2.2 dX3_gainFeather_16
def fX3_startIdleTimeAgain (u : HS) (x1 : Int32) : Int32 × HS :=
  (fX3_idleTime u x1, s3 (upd (h3 u) x1.toNatClampNeg (h10 u)) u)
set_option maxHeartbeats 4000000 in
set_option maxRecDepth 100000 in
/-- startIdleTimeAgain -/
theorem kX3_startIdleTimeAgain (l : Launch) (D : va_G) (ca : Nat → ClassId) (a : Nat → Nat) (sz : Nat) (u : HS) (x1 : Int32) (hg : vp_in x1 8) : Met l yX3_startIdleTimeAgain wsX3_startIdleTimeAgain ({ frames := 1, cells := 0, slots := 0, locals := 21 }) (MPc D ca sz (HW ca a u) [.ref (a 8), .int x1]) (va_Qi (fun r v => (r, v) = fX3_startIdleTimeAgain u x1) (MB D ca (va_A (HW ca a u) sz) (HW ca a)) (va_A (HW ca a u) sz)) 0 0 (va_A (HW ca a u) sz) := by
  refine Met.ofW (cc := cX3_startIdleTimeAgain) (maxL := 3) (ret := (some .int)) (by decide) rfl ?_
  intro p e s m args below meth c s₁ B hml hv
  obtain ⟨rfl, hsz, hP, hK, hD0⟩ := hv
  have hx := B.exec
  have hb := B.bytes
  have hr := B.returns
  have hts := atoms_spec (ws := wsX3_startIdleTimeAgain) B.pre
  have hown : s.vm.findClass RX3 = some m.cls := findClass_of_methodNamed B.named
  have hlocks := B.notSynchronized
  have hin3 : ∀ w ∈ wsX30, w ∈ wsX3_startIdleTimeAgain := by decide +kernel
  subst hsz
  have hD := hD0.self (sz := s.heap.size)
  generalize hAe : va_A (HW ca a u) s.heap.size = A at hD ⊢
  have hA : ∀ q : Nat, s.heap.size ≤ q → A q := fun q h => by rw [← hAe]; exact Or.inr h
  have hS : va_S A s.heap s.heap [] := va_S.rf
  have hf : fX3_startIdleTimeAgain u x1 = fX3_startIdleTimeAgain u x1 := rfl
  refine W_entry (Nat.le_of_ble_eq_true rfl) (fun ls hl => ?_)
  have hl : lv_has ls 3 [(0, .ref (a 8)), (1, .int x1)] := hl
  refine lv_aload_n hx hb dX3_startIdleTimeAgain_0 rfl (lv_at hl 0 rfl) ?_
  refine lv_iload_n hx hb dX3_startIdleTimeAgain_1 rfl (lv_at hl 1 rfl) ?_
  refine hcRi (As := [.int x1]) (rest := []) 0 4 ⟨hx, hb, hml, hown, hts⟩ (kX3_idleTime l D ca a u x1 hg) (cwV 1 hts gX3_startIdleTimeAgain_X3_idleTime rfl rfl rfl (by decide +kernel) ⟨Nat.le_of_ble_eq_true rfl, Nat.le_of_ble_eq_true rfl⟩) hK hP rfl rfl rfl hl.1 rfl (Nat.le_of_ble_eq_true rfl) ⟨Nat.zero_le _, Nat.zero_le _⟩ dX3_startIdleTimeAgain_2 ?_
  refine lv_istore_n (lv' := [(2, .int (fX3_idleTime u x1)), (0, .ref (a 8)), (1, .int x1)]) hx hb dX3_startIdleTimeAgain_5 rfl hl (by decide) rfl (fun ls hl => ?_)
  refine lv_aload_n hx hb dX3_startIdleTimeAgain_6 rfl (lv_at hl 1 rfl) ?_
  refine va_get (D := D) (ci := 4) (v := .ref (a 3)) (C := RX3) (T := TX3) (N := 15) hx hb hts hin3 hown hK hP 0 rfl rfl 3 (by decide) (hts (.fieldLink RX3 21 "HatReservations$Hall" "touchTimes" "[I") (by decide +kernel)) (fun _ h9 => h9) rfl dX3_startIdleTimeAgain_7 ?_
  refine lv_iload_n hx hb dX3_startIdleTimeAgain_10 rfl (lv_at hl 2 rfl) ?_
  refine lv_aload_n hx hb dX3_startIdleTimeAgain_11 rfl (lv_at hl 1 rfl) ?_
  refine va_get (D := D) (ci := 4) (v := .int (h10 u)) (C := RX3) (T := TX3) (N := 15) hx hb hts hin3 hown hK hP 0 rfl rfl 10 (by decide) (hts (.fieldLink RX3 44 "HatReservations$Hall" "time" "I") (by decide +kernel)) (fun _ h9 => h9) rfl dX3_startIdleTimeAgain_12 ?_
  refine va_iast (f := h3 u) hx hb hK hP hD hS 4 0 rfl rfl hg dX3_startIdleTimeAgain_15 (fun H locs hP hD hS => ?_)
  have hP : va_P D vwCl (HW ca a (s3 (upd (h3 u) x1.toNatClampNeg (h10 u)) u)) H := hP
  have hD : va_D A (HW ca a (s3 (upd (h3 u) x1.toNatClampNeg (h10 u)) u)) := hD
  refine lv_iload_n hx hb dX3_startIdleTimeAgain_16 rfl (lv_at hl 0 rfl) ?_
  exact W.iret (v := fX3_idleTime u x1) hx hb hr (fun t ht hW => ⟨⟨fX3_idleTime u x1, s3 (upd (h3 u) x1.toNatClampNeg (h10 u)) u, rfl, hf.symm, by rw [ht]; exact hP, va_K.moved hW.alike hK, hD⟩, hS.F ht⟩) hS.2.2 dX3_startIdleTimeAgain_17
def fX3_liftHat (u : HS) (x1 : Int32) : Int64 × HS :=
  ((h4 u) x1.toNatClampNeg, s4 (vp_updL (h4 u) x1.toNatClampNeg 0) (s2 (upd (h2 u) x1.toNatClampNeg (-1)) u))
set_option maxHeartbeats 4000000 in
set_option maxRecDepth 100000 in
/-- liftHat -/
theorem kX3_liftHat (l : Launch) (D : va_G) (ca : Nat → ClassId) (a : Nat → Nat) (sz : Nat) (u : HS) (x1 : Int32) (hg : vp_in x1 8) : Met l yX3_liftHat wsX3_liftHat ({ frames := 0, cells := 0, slots := 0, locals := 0 }) (MPc D ca sz (HW ca a u) [.ref (a 8), .int x1]) (va_Ql (fun r v => (r, v) = fX3_liftHat u x1) (MB D ca (va_A (HW ca a u) sz) (HW ca a)) (va_A (HW ca a u) sz)) 0 0 (va_A (HW ca a u) sz) := by
  refine Met.ofW (cc := cX3_liftHat) (maxL := 4) (ret := (some .long)) (by decide) rfl ?_
  intro p e s m args below meth c s₁ B hml hv
  obtain ⟨rfl, hsz, hP, hK, hD0⟩ := hv
  have hx := B.exec
  have hb := B.bytes
  have hr := B.returns
  have hts := atoms_spec (ws := wsX3_liftHat) B.pre
  have hown : s.vm.findClass RX3 = some m.cls := findClass_of_methodNamed B.named
  have hlocks := B.notSynchronized
  have hin3 : ∀ w ∈ wsX30, w ∈ wsX3_liftHat := by decide +kernel
  subst hsz
  have hD := hD0.self (sz := s.heap.size)
  generalize hAe : va_A (HW ca a u) s.heap.size = A at hD ⊢
  have hA : ∀ q : Nat, s.heap.size ≤ q → A q := fun q h => by rw [← hAe]; exact Or.inr h
  have hS : va_S A s.heap s.heap [] := va_S.rf
  have hf : fX3_liftHat u x1 = fX3_liftHat u x1 := rfl
  refine W_entry (Nat.le_of_ble_eq_true rfl) (fun ls hl => ?_)
  have hl : lv_has ls 4 [(0, .ref (a 8)), (1, .int x1)] := hl
  refine lv_aload_n hx hb dX3_liftHat_0 rfl (lv_at hl 0 rfl) ?_
  refine va_get (D := D) (ci := 4) (v := .ref (a 4)) (C := RX3) (T := TX3) (N := 15) hx hb hts hin3 hown hK hP 0 rfl rfl 4 (by decide) (hts (.fieldLink RX3 24 "HatReservations$Hall" "covers" "[J") (by decide +kernel)) (fun _ h9 => h9) rfl dX3_liftHat_1 ?_
  refine lv_iload_n hx hb dX3_liftHat_4 rfl (lv_at hl 1 rfl) ?_
  refine va_lald (f := h4 u) hx hb hK hP 5 1 rfl rfl hg dX3_liftHat_5 ?_
  refine lv_lstore_n (lv' := [(2, .long ((h4 u) x1.toNatClampNeg)), (0, .ref (a 8)), (1, .int x1)]) hx hb dX3_liftHat_6 rfl hl (by decide) rfl (fun ls hl => ?_)
  refine lv_aload_n hx hb dX3_liftHat_7 rfl (lv_at hl 1 rfl) ?_
  refine va_get (D := D) (ci := 4) (v := .ref (a 4)) (C := RX3) (T := TX3) (N := 15) hx hb hts hin3 hown hK hP 0 rfl rfl 4 (by decide) (hts (.fieldLink RX3 24 "HatReservations$Hall" "covers" "[J") (by decide +kernel)) (fun _ h9 => h9) rfl dX3_liftHat_8 ?_
  refine lv_iload_n hx hb dX3_liftHat_11 rfl (lv_at hl 2 rfl) ?_
  refine lv_lconst (v := 0) hx hb dX3_liftHat_12 (by decide) ?_
  refine va_last (f := h4 u) hx hb hK hP hD hS 5 1 rfl rfl hg dX3_liftHat_13 (fun H locs hP hD hS => ?_)
  have hP : va_P D vwCl (HW ca a (s4 (vp_updL (h4 u) x1.toNatClampNeg 0) u)) H := hP
  have hD : va_D A (HW ca a (s4 (vp_updL (h4 u) x1.toNatClampNeg 0) u)) := hD
  refine lv_aload_n hx hb dX3_liftHat_14 rfl (lv_at hl 1 rfl) ?_
  refine va_get (D := D) (ci := 4) (v := .ref (a 2)) (C := RX3) (T := TX3) (N := 15) hx hb hts hin3 hown hK hP 0 rfl rfl 2 (by decide) (hts (.fieldLink RX3 18 "HatReservations$Hall" "hatChairs" "[I") (by decide +kernel)) (fun _ h9 => h9) rfl dX3_liftHat_15 ?_
  refine lv_iload_n hx hb dX3_liftHat_18 rfl (lv_at hl 2 rfl) ?_
  refine lv_iconst (v := (-1)) hx hb dX3_liftHat_19 (by decide) ?_
  refine va_iast (f := h2 u) hx hb hK hP hD hS 3 0 rfl rfl hg dX3_liftHat_20 (fun H locs hP hD hS => ?_)
  have hP : va_P D vwCl (HW ca a (s4 (vp_updL (h4 u) x1.toNatClampNeg 0) (s2 (upd (h2 u) x1.toNatClampNeg (-1)) u))) H := hP
  have hD : va_D A (HW ca a (s4 (vp_updL (h4 u) x1.toNatClampNeg 0) (s2 (upd (h2 u) x1.toNatClampNeg (-1)) u))) := hD
  refine lv_lload_n hx hb dX3_liftHat_21 rfl (lv_at hl 0 rfl) ?_
  exact W.lret (v := (h4 u) x1.toNatClampNeg) hx hb hr (fun t ht hW => ⟨⟨(h4 u) x1.toNatClampNeg, s4 (vp_updL (h4 u) x1.toNatClampNeg 0) (s2 (upd (h2 u) x1.toNatClampNeg (-1)) u), rfl, hf.symm, by rw [ht]; exact hP, va_K.moved hW.alike hK, hD⟩, hS.F ht⟩) hS.2.2 dX3_liftHat_22
def fX3_putCoat (u : HS) (x1 : Int32) (x2 : Int32) : Int32 × HS :=
  (fX3_coatsOn u x2, s8 ((h8 u) + 1) (s7 (upd (h7 u) x1.toNatClampNeg ((h8 u) + 1)) (s6 (upd (h6 u) x1.toNatClampNeg (fX3_coatsOn u x2)) (s5 (upd (h5 u) x1.toNatClampNeg x2) u))))
set_option maxHeartbeats 4000000 in
set_option maxRecDepth 100000 in
/-- putCoat -/
theorem kX3_putCoat (l : Launch) (D : va_G) (ca : Nat → ClassId) (a : Nat → Nat) (sz : Nat) (u : HS) (x1 : Int32) (x2 : Int32) (hg : vp_in x1 8) : Met l yX3_putCoat wsX3_putCoat ({ frames := 1, cells := 0, slots := 0, locals := 23 }) (MPc D ca sz (HW ca a u) [.ref (a 8), .int x1, .int x2]) (va_Qi (fun r v => (r, v) = fX3_putCoat u x1 x2) (MB D ca (va_A (HW ca a u) sz) (HW ca a)) (va_A (HW ca a u) sz)) 0 0 (va_A (HW ca a u) sz) := by
  refine Met.ofW (cc := cX3_putCoat) (maxL := 4) (ret := (some .int)) (by decide) rfl ?_
  intro p e s m args below meth c s₁ B hml hv
  obtain ⟨rfl, hsz, hP, hK, hD0⟩ := hv
  have hx := B.exec
  have hb := B.bytes
  have hr := B.returns
  have hts := atoms_spec (ws := wsX3_putCoat) B.pre
  have hown : s.vm.findClass RX3 = some m.cls := findClass_of_methodNamed B.named
  have hlocks := B.notSynchronized
  have hin3 : ∀ w ∈ wsX30, w ∈ wsX3_putCoat := by decide +kernel
  subst hsz
  have hD := hD0.self (sz := s.heap.size)
  generalize hAe : va_A (HW ca a u) s.heap.size = A at hD ⊢
  have hA : ∀ q : Nat, s.heap.size ≤ q → A q := fun q h => by rw [← hAe]; exact Or.inr h
  have hS : va_S A s.heap s.heap [] := va_S.rf
  have hf : fX3_putCoat u x1 x2 = fX3_putCoat u x1 x2 := rfl
  refine W_entry (Nat.le_of_ble_eq_true rfl) (fun ls hl => ?_)
  have hl : lv_has ls 4 [(0, .ref (a 8)), (1, .int x1), (2, .int x2)] := hl
  refine lv_aload_n hx hb dX3_putCoat_0 rfl (lv_at hl 0 rfl) ?_
  refine lv_iload_n hx hb dX3_putCoat_1 rfl (lv_at hl 2 rfl) ?_
  refine hcRi (As := [.int x2]) (rest := []) 0 4 ⟨hx, hb, hml, hown, hts⟩ (kX3_coatsOn l D ca a u x2 ) (cwV 1 hts gX3_putCoat_X3_coatsOn rfl rfl rfl (by decide +kernel) ⟨Nat.le_of_ble_eq_true rfl, Nat.le_of_ble_eq_true rfl⟩) hK hP rfl rfl rfl hl.1 rfl (Nat.le_of_ble_eq_true rfl) ⟨Nat.zero_le _, Nat.zero_le _⟩ dX3_putCoat_2 ?_
  refine lv_istore_n (lv' := [(3, .int (fX3_coatsOn u x2)), (0, .ref (a 8)), (1, .int x1), (2, .int x2)]) hx hb dX3_putCoat_5 rfl hl (by decide) rfl (fun ls hl => ?_)
  refine lv_aload_n hx hb dX3_putCoat_6 rfl (lv_at hl 1 rfl) ?_
  refine lv_dup hx hb dX3_putCoat_7 rfl ?_
  refine va_get (D := D) (ci := 4) (v := .int (h8 u)) (C := RX3) (T := TX3) (N := 15) hx hb hts hin3 hown hK hP 0 rfl rfl 8 (by decide) (hts (.fieldLink RX3 37 "HatReservations$Hall" "coatsEverLeft" "I") (by decide +kernel)) (fun _ h9 => h9) rfl dX3_putCoat_8 ?_
  refine lv_iconst (v := 1) hx hb dX3_putCoat_11 (by decide) ?_
  refine lv_iadd hx hb dX3_putCoat_12 ?_
  refine va_put (D := D) (ci := 4) (v := .int ((h8 u) + 1)) (ty := .int) (C := RX3) (T := TX3) (N := 15) hx hb hts hin3 tyX3 tyX3_ok nmX3 hown hK hP hD hS 0 rfl rfl 8 (by decide) (hts (.fieldLink RX3 37 "HatReservations$Hall" "coatsEverLeft" "I") (by decide +kernel)) (fun _ h9 => h9) rfl (by decide +kernel) rfl rfl (Nat.le_of_ble_eq_true rfl) dX3_putCoat_13 (fun H locs hP hD hS => ?_)
  have hP : va_P D vwCl (HW ca a (s8 ((h8 u) + 1) u)) H := hP
  have hD : va_D A (HW ca a (s8 ((h8 u) + 1) u)) := hD
  refine lv_aload_n hx hb dX3_putCoat_16 rfl (lv_at hl 1 rfl) ?_
  refine va_get (D := D) (ci := 4) (v := .ref (a 7)) (C := RX3) (T := TX3) (N := 15) hx hb hts hin3 hown hK hP 0 rfl rfl 7 (by decide) (hts (.fieldLink RX3 34 "HatReservations$Hall" "coatOrders" "[I") (by decide +kernel)) (fun _ h9 => h9) rfl dX3_putCoat_17 ?_
  refine lv_iload_n hx hb dX3_putCoat_20 rfl (lv_at hl 2 rfl) ?_
  refine lv_aload_n hx hb dX3_putCoat_21 rfl (lv_at hl 1 rfl) ?_
  refine va_get (D := D) (ci := 4) (v := .int ((h8 u) + 1)) (C := RX3) (T := TX3) (N := 15) hx hb hts hin3 hown hK hP 0 rfl rfl 8 (by decide) (hts (.fieldLink RX3 37 "HatReservations$Hall" "coatsEverLeft" "I") (by decide +kernel)) (fun _ h9 => h9) rfl dX3_putCoat_22 ?_
  refine va_iast (f := h7 u) hx hb hK hP hD hS 8 0 rfl rfl hg dX3_putCoat_25 (fun H locs hP hD hS => ?_)
  have hP : va_P D vwCl (HW ca a (s8 ((h8 u) + 1) (s7 (upd (h7 u) x1.toNatClampNeg ((h8 u) + 1)) u))) H := hP
  have hD : va_D A (HW ca a (s8 ((h8 u) + 1) (s7 (upd (h7 u) x1.toNatClampNeg ((h8 u) + 1)) u))) := hD
  refine lv_aload_n hx hb dX3_putCoat_26 rfl (lv_at hl 1 rfl) ?_
  refine va_get (D := D) (ci := 4) (v := .ref (a 6)) (C := RX3) (T := TX3) (N := 15) hx hb hts hin3 hown hK hP 0 rfl rfl 6 (by decide) (hts (.fieldLink RX3 31 "HatReservations$Hall" "coatPositions" "[I") (by decide +kernel)) (fun _ h9 => h9) rfl dX3_putCoat_27 ?_
  refine lv_iload_n hx hb dX3_putCoat_30 rfl (lv_at hl 2 rfl) ?_
  refine lv_iload_n hx hb dX3_putCoat_31 rfl (lv_at hl 0 rfl) ?_
  refine va_iast (f := h6 u) hx hb hK hP hD hS 7 0 rfl rfl hg dX3_putCoat_32 (fun H locs hP hD hS => ?_)
  have hP : va_P D vwCl (HW ca a (s8 ((h8 u) + 1) (s7 (upd (h7 u) x1.toNatClampNeg ((h8 u) + 1)) (s6 (upd (h6 u) x1.toNatClampNeg (fX3_coatsOn u x2)) u)))) H := hP
  have hD : va_D A (HW ca a (s8 ((h8 u) + 1) (s7 (upd (h7 u) x1.toNatClampNeg ((h8 u) + 1)) (s6 (upd (h6 u) x1.toNatClampNeg (fX3_coatsOn u x2)) u)))) := hD
  refine lv_aload_n hx hb dX3_putCoat_33 rfl (lv_at hl 1 rfl) ?_
  refine va_get (D := D) (ci := 4) (v := .ref (a 5)) (C := RX3) (T := TX3) (N := 15) hx hb hts hin3 hown hK hP 0 rfl rfl 5 (by decide) (hts (.fieldLink RX3 28 "HatReservations$Hall" "coatChairs" "[I") (by decide +kernel)) (fun _ h9 => h9) rfl dX3_putCoat_34 ?_
  refine lv_iload_n hx hb dX3_putCoat_37 rfl (lv_at hl 2 rfl) ?_
  refine lv_iload_n hx hb dX3_putCoat_38 rfl (lv_at hl 3 rfl) ?_
  refine va_iast (f := h5 u) hx hb hK hP hD hS 6 0 rfl rfl hg dX3_putCoat_39 (fun H locs hP hD hS => ?_)
  have hP : va_P D vwCl (HW ca a (s8 ((h8 u) + 1) (s7 (upd (h7 u) x1.toNatClampNeg ((h8 u) + 1)) (s6 (upd (h6 u) x1.toNatClampNeg (fX3_coatsOn u x2)) (s5 (upd (h5 u) x1.toNatClampNeg x2) u))))) H := hP
  have hD : va_D A (HW ca a (s8 ((h8 u) + 1) (s7 (upd (h7 u) x1.toNatClampNeg ((h8 u) + 1)) (s6 (upd (h6 u) x1.toNatClampNeg (fX3_coatsOn u x2)) (s5 (upd (h5 u) x1.toNatClampNeg x2) u))))) := hD
  refine lv_iload_n hx hb dX3_putCoat_40 rfl (lv_at hl 0 rfl) ?_
  exact W.iret (v := fX3_coatsOn u x2) hx hb hr (fun t ht hW => ⟨⟨fX3_coatsOn u x2, s8 ((h8 u) + 1) (s7 (upd (h7 u) x1.toNatClampNeg ((h8 u) + 1)) (s6 (upd (h6 u) x1.toNatClampNeg (fX3_coatsOn u x2)) (s5 (upd (h5 u) x1.toNatClampNeg x2) u))), rfl, hf.symm, by rw [ht]; exact hP, va_K.moved hW.alike hK, hD⟩, hS.F ht⟩) hS.2.2 dX3_putCoat_41
def fX3_pullCoat_16 : Nat → Nat → HS → Int32 → Int32 → Int32 × HS
  | 0, k, v, x1, y2 => (y2, v)
  | n + 1, k, v, x1, y2 => (if ((h5 v) k) = y2 then (if ((h6 v) k) ≤ ((h6 v) x1.toNatClampNeg) then fX3_pullCoat_16 n (k + 1) v x1 y2 else fX3_pullCoat_16 n (k + 1) (s6 (upd (h6 v) k (((h6 v) k) - 1)) v) x1 y2) else fX3_pullCoat_16 n (k + 1) v x1 y2)
def fX3_pullCoat (u : HS) (x1 : Int32) : Int32 × HS :=
  fX3_pullCoat_16 8 0 (s5 (upd (h5 u) x1.toNatClampNeg (-1)) u) x1 ((h5 u) x1.toNatClampNeg)
set_option maxHeartbeats 4000000 in
set_option maxRecDepth 100000 in
/-- pullCoat -/
theorem kX3_pullCoat (l : Launch) (D : va_G) (ca : Nat → ClassId) (a : Nat → Nat) (sz : Nat) (u : HS) (x1 : Int32) (hg : vp_in x1 8) : Met l yX3_pullCoat wsX3_pullCoat ({ frames := 0, cells := 0, slots := 0, locals := 0 }) (MPc D ca sz (HW ca a u) [.ref (a 8), .int x1]) (va_Qi (fun r v => (r, v) = fX3_pullCoat u x1) (MB D ca (va_A (HW ca a u) sz) (HW ca a)) (va_A (HW ca a u) sz)) 0 0 (va_A (HW ca a u) sz) := by
  refine Met.ofW (cc := cX3_pullCoat) (maxL := 4) (ret := (some .int)) (by decide) rfl ?_
  intro p e s m args below meth c s₁ B hml hv
  obtain ⟨rfl, hsz, hP, hK, hD0⟩ := hv
  have hx := B.exec
  have hb := B.bytes
  have hr := B.returns
  have hts := atoms_spec (ws := wsX3_pullCoat) B.pre
  have hown : s.vm.findClass RX3 = some m.cls := findClass_of_methodNamed B.named
  have hlocks := B.notSynchronized
  have hin3 : ∀ w ∈ wsX30, w ∈ wsX3_pullCoat := by decide +kernel
  subst hsz
  have hD := hD0.self (sz := s.heap.size)
  generalize hAe : va_A (HW ca a u) s.heap.size = A at hD ⊢
  have hA : ∀ q : Nat, s.heap.size ≤ q → A q := fun q h => by rw [← hAe]; exact Or.inr h
  have hS : va_S A s.heap s.heap [] := va_S.rf
  have cut_16 : ∀ (n k : Nat) (hnk : n + k = 8) (y2 : Int32) (v : HS) (H : Heap) (locs : List Loc) (hP : va_P D vwCl (HW ca a v) H) (hD : va_D A (HW ca a v)) (hS : va_S A s.heap H locs) (hf : fX3_pullCoat u x1 = fX3_pullCoat_16 n k v x1 y2) (ls : Array Slot) (hl : lv_has ls 4 [(0, .ref (a 8)), (1, .int x1), (2, .int y2), (3, .int (nI k))]), W p l e (headSpec wsX3_pullCoat ({ frames := 0, cells := 0, slots := 0, locals := 0 })).room s m ([.ref (a 8), .int x1] : List Value).toArray below meth c H locs 0 0 (MQ below (va_Qi (fun r v => (r, v) = fX3_pullCoat u x1) (MB D ca A (HW ca a)) A) ([.ref (a 8), .int x1] : List Value).toArray s 0 0 A) (F0 m 16 ls []) := by
    intro n
    induction n with
    | zero =>
      intro k hnk y2 v H locs hP hD hS hf ls hl
      obtain rfl : k = 8 := by omega
      refine lv_iload_n hx hb dX3_pullCoat_16 rfl (lv_at hl 3 rfl) ?_
      refine lv_bipush (v := 8) hx hb dX3_pullCoat_17 (by decide) ?_
      refine lv_icmp_ge (tgt := 63) hx hb dX3_pullCoat_19 (by decide) (fun _ => ?_) (fun q => absurd (by decide) q)
      refine lv_iload_n hx hb dX3_pullCoat_63 rfl (lv_at hl 2 rfl) ?_
      exact W.iret (v := y2) hx hb hr (fun t ht hW => ⟨⟨y2, v, rfl, hf.symm, by rw [ht]; exact hP, va_K.moved hW.alike hK, hD⟩, hS.F ht⟩) hS.2.2 dX3_pullCoat_64
    | succ n ih =>
      intro k hnk y2 v H locs hP hD hS hf ls hl
      refine lv_iload_n hx hb dX3_pullCoat_16 rfl (lv_at hl 3 rfl) ?_
      refine lv_bipush (v := 8) hx hb dX3_pullCoat_17 (by decide) ?_
      refine lv_icmp_ge (tgt := 63) hx hb dX3_pullCoat_19 (by decide) (fun q => absurd q (show ¬ (8 : Int32) ≤ nI k from nI_ge (b := 8) (by omega) (by decide))) (fun _ => ?_)
      refine lv_aload_n hx hb dX3_pullCoat_22 rfl (lv_at hl 0 rfl) ?_
      refine va_get (D := D) (ci := 4) (v := .ref (a 5)) (C := RX3) (T := TX3) (N := 15) hx hb hts hin3 hown hK hP 0 rfl rfl 5 (by decide) (hts (.fieldLink RX3 28 "HatReservations$Hall" "coatChairs" "[I") (by decide +kernel)) (fun _ h9 => h9) rfl dX3_pullCoat_23 ?_
      refine lv_iload_n hx hb dX3_pullCoat_26 rfl (lv_at hl 3 rfl) ?_
      refine ialdN (f := h5 v) hx hb hK hP 6 0 rfl rfl (k := k) (by omega) (by decide) dX3_pullCoat_27 ?_
      refine lv_iload_n hx hb dX3_pullCoat_28 rfl (lv_at hl 2 rfl) ?_
      refine lv_icmp_ne (tgt := 57) hx hb dX3_pullCoat_29 (by decide) (fun c_29 => ?_) (fun c_29 => ?_)
      · have hf := hf.trans (if_neg c_29)
        refine lv_iinc (v := nI (k + 1)) (lv' := [(3, .int (nI (k + 1))), (0, .ref (a 8)), (1, .int x1), (2, .int y2)]) hx hb dX3_pullCoat_57 hl (k := 3) rfl (nI_1 k) (by decide) rfl (fun ls hl => ?_)
        refine lv_goto (tgt := 16) hx hb dX3_pullCoat_60 (by decide) ?_
        exact ih (k + 1) (by omega) y2  v _ _ hP hD hS hf ls (lv_sub hl [1, 2, 3, 0] rfl)
      · have hf := hf.trans (if_pos c_29)
        refine lv_aload_n hx hb dX3_pullCoat_32 rfl (lv_at hl 0 rfl) ?_
        refine va_get (D := D) (ci := 4) (v := .ref (a 6)) (C := RX3) (T := TX3) (N := 15) hx hb hts hin3 hown hK hP 0 rfl rfl 6 (by decide) (hts (.fieldLink RX3 31 "HatReservations$Hall" "coatPositions" "[I") (by decide +kernel)) (fun _ h9 => h9) rfl dX3_pullCoat_33 ?_
        refine lv_iload_n hx hb dX3_pullCoat_36 rfl (lv_at hl 3 rfl) ?_
        refine ialdN (f := h6 v) hx hb hK hP 7 0 rfl rfl (k := k) (by omega) (by decide) dX3_pullCoat_37 ?_
        refine lv_aload_n hx hb dX3_pullCoat_38 rfl (lv_at hl 0 rfl) ?_
        refine va_get (D := D) (ci := 4) (v := .ref (a 6)) (C := RX3) (T := TX3) (N := 15) hx hb hts hin3 hown hK hP 0 rfl rfl 6 (by decide) (hts (.fieldLink RX3 31 "HatReservations$Hall" "coatPositions" "[I") (by decide +kernel)) (fun _ h9 => h9) rfl dX3_pullCoat_39 ?_
        refine lv_iload_n hx hb dX3_pullCoat_42 rfl (lv_at hl 1 rfl) ?_
        refine va_iald (f := h6 v) hx hb hK hP 7 0 rfl rfl hg dX3_pullCoat_43 ?_
        refine lv_icmp_le (tgt := 57) hx hb dX3_pullCoat_44 (by decide) (fun c_44 => ?_) (fun c_44 => ?_)
        · have hf := hf.trans (if_pos c_44)
          refine lv_iinc (v := nI (k + 1)) (lv' := [(3, .int (nI (k + 1))), (0, .ref (a 8)), (1, .int x1), (2, .int y2)]) hx hb dX3_pullCoat_57 hl (k := 3) rfl (nI_1 k) (by decide) rfl (fun ls hl => ?_)
          refine lv_goto (tgt := 16) hx hb dX3_pullCoat_60 (by decide) ?_
          exact ih (k + 1) (by omega) y2  v _ _ hP hD hS hf ls (lv_sub hl [1, 2, 3, 0] rfl)
        · have hf := hf.trans (if_neg c_44)
          refine lv_aload_n hx hb dX3_pullCoat_47 rfl (lv_at hl 0 rfl) ?_
          refine va_get (D := D) (ci := 4) (v := .ref (a 6)) (C := RX3) (T := TX3) (N := 15) hx hb hts hin3 hown hK hP 0 rfl rfl 6 (by decide) (hts (.fieldLink RX3 31 "HatReservations$Hall" "coatPositions" "[I") (by decide +kernel)) (fun _ h9 => h9) rfl dX3_pullCoat_48 ?_
          refine lv_iload_n hx hb dX3_pullCoat_51 rfl (lv_at hl 3 rfl) ?_
          refine lv_dup2_11 hx hb dX3_pullCoat_52 rfl rfl ?_
          refine ialdN (f := h6 v) hx hb hK hP 7 0 rfl rfl (k := k) (by omega) (by decide) dX3_pullCoat_53 ?_
          refine lv_iconst (v := 1) hx hb dX3_pullCoat_54 (by decide) ?_
          refine lv_isub hx hb dX3_pullCoat_55 ?_
          refine iastN (f := h6 v) hx hb hK hP hD hS 7 0 rfl rfl (k := k) (by omega) (by decide) dX3_pullCoat_56 (fun H locs hP hD hS => ?_)
          have hP : va_P D vwCl (HW ca a (s6 (upd (h6 v) k (((h6 v) k) - 1)) v)) H := hP
          have hD : va_D A (HW ca a (s6 (upd (h6 v) k (((h6 v) k) - 1)) v)) := hD
          refine lv_iinc (v := nI (k + 1)) (lv' := [(3, .int (nI (k + 1))), (0, .ref (a 8)), (1, .int x1), (2, .int y2)]) hx hb dX3_pullCoat_57 hl (k := 3) rfl (nI_1 k) (by decide) rfl (fun ls hl => ?_)
          refine lv_goto (tgt := 16) hx hb dX3_pullCoat_60 (by decide) ?_
          exact ih (k + 1) (by omega) y2  (s6 (upd (h6 v) k (((h6 v) k) - 1)) v) _ _ hP hD hS hf ls (lv_sub hl [1, 2, 3, 0] rfl)
  have hf : fX3_pullCoat u x1 = fX3_pullCoat u x1 := rfl
  refine W_entry (Nat.le_of_ble_eq_true rfl) (fun ls hl => ?_)
  have hl : lv_has ls 4 [(0, .ref (a 8)), (1, .int x1)] := hl
  refine lv_aload_n hx hb dX3_pullCoat_0 rfl (lv_at hl 0 rfl) ?_
  refine va_get (D := D) (ci := 4) (v := .ref (a 5)) (C := RX3) (T := TX3) (N := 15) hx hb hts hin3 hown hK hP 0 rfl rfl 5 (by decide) (hts (.fieldLink RX3 28 "HatReservations$Hall" "coatChairs" "[I") (by decide +kernel)) (fun _ h9 => h9) rfl dX3_pullCoat_1 ?_
  refine lv_iload_n hx hb dX3_pullCoat_4 rfl (lv_at hl 1 rfl) ?_
  refine va_iald (f := h5 u) hx hb hK hP 6 0 rfl rfl hg dX3_pullCoat_5 ?_
  refine lv_istore_n (lv' := [(2, .int ((h5 u) x1.toNatClampNeg)), (0, .ref (a 8)), (1, .int x1)]) hx hb dX3_pullCoat_6 rfl hl (by decide) rfl (fun ls hl => ?_)
  refine lv_aload_n hx hb dX3_pullCoat_7 rfl (lv_at hl 1 rfl) ?_
  refine va_get (D := D) (ci := 4) (v := .ref (a 5)) (C := RX3) (T := TX3) (N := 15) hx hb hts hin3 hown hK hP 0 rfl rfl 5 (by decide) (hts (.fieldLink RX3 28 "HatReservations$Hall" "coatChairs" "[I") (by decide +kernel)) (fun _ h9 => h9) rfl dX3_pullCoat_8 ?_
  refine lv_iload_n hx hb dX3_pullCoat_11 rfl (lv_at hl 2 rfl) ?_
  refine lv_iconst (v := (-1)) hx hb dX3_pullCoat_12 (by decide) ?_
  refine va_iast (f := h5 u) hx hb hK hP hD hS 6 0 rfl rfl hg dX3_pullCoat_13 (fun H locs hP hD hS => ?_)
  have hP : va_P D vwCl (HW ca a (s5 (upd (h5 u) x1.toNatClampNeg (-1)) u)) H := hP
  have hD : va_D A (HW ca a (s5 (upd (h5 u) x1.toNatClampNeg (-1)) u)) := hD
  refine lv_iconst (v := 0) hx hb dX3_pullCoat_14 (by decide) ?_
  refine lv_istore_n (lv' := [(3, .int 0), (2, .int ((h5 u) x1.toNatClampNeg)), (0, .ref (a 8)), (1, .int x1)]) hx hb dX3_pullCoat_15 rfl hl (by decide) rfl (fun ls hl => ?_)
  exact cut_16 8 0 (by omega) ((h5 u) x1.toNatClampNeg)  (s5 (upd (h5 u) x1.toNatClampNeg (-1)) u) _ _ hP hD hS hf ls (lv_sub hl [2, 3, 1, 0] rfl)
def fX3_letPass (u : HS) (x1 : Int32) : Int32 × HS :=
  ((h10 u) + x1, s10 ((h10 u) + x1) u)
set_option maxHeartbeats 4000000 in
set_option maxRecDepth 100000 in
/-- letPass -/
theorem kX3_letPass (l : Launch) (D : va_G) (ca : Nat → ClassId) (a : Nat → Nat) (sz : Nat) (u : HS) (x1 : Int32) : Met l yX3_letPass wsX3_letPass ({ frames := 0, cells := 0, slots := 0, locals := 0 }) (MPc D ca sz (HW ca a u) [.ref (a 8), .int x1]) (va_Qi (fun r v => (r, v) = fX3_letPass u x1) (MB D ca (va_A (HW ca a u) sz) (HW ca a)) (va_A (HW ca a u) sz)) 0 0 (va_A (HW ca a u) sz) := by
  refine Met.ofW (cc := cX3_letPass) (maxL := 2) (ret := (some .int)) (by decide) rfl ?_
  intro p e s m args below meth c s₁ B hml hv
  obtain ⟨rfl, hsz, hP, hK, hD0⟩ := hv
  have hx := B.exec
  have hb := B.bytes
  have hr := B.returns
  have hts := atoms_spec (ws := wsX3_letPass) B.pre
  have hown : s.vm.findClass RX3 = some m.cls := findClass_of_methodNamed B.named
  have hlocks := B.notSynchronized
  have hin3 : ∀ w ∈ wsX30, w ∈ wsX3_letPass := by decide +kernel
  subst hsz
  have hD := hD0.self (sz := s.heap.size)
  generalize hAe : va_A (HW ca a u) s.heap.size = A at hD ⊢
  have hA : ∀ q : Nat, s.heap.size ≤ q → A q := fun q h => by rw [← hAe]; exact Or.inr h
  have hS : va_S A s.heap s.heap [] := va_S.rf
  have hf : fX3_letPass u x1 = fX3_letPass u x1 := rfl
  refine W_entry (Nat.le_of_ble_eq_true rfl) (fun ls hl => ?_)
  have hl : lv_has ls 2 [(0, .ref (a 8)), (1, .int x1)] := hl
  refine lv_aload_n hx hb dX3_letPass_0 rfl (lv_at hl 0 rfl) ?_
  refine lv_dup hx hb dX3_letPass_1 rfl ?_
  refine va_get (D := D) (ci := 4) (v := .int (h10 u)) (C := RX3) (T := TX3) (N := 15) hx hb hts hin3 hown hK hP 0 rfl rfl 10 (by decide) (hts (.fieldLink RX3 44 "HatReservations$Hall" "time" "I") (by decide +kernel)) (fun _ h9 => h9) rfl dX3_letPass_2 ?_
  refine lv_iload_n hx hb dX3_letPass_5 rfl (lv_at hl 1 rfl) ?_
  refine lv_iadd hx hb dX3_letPass_6 ?_
  refine va_put (D := D) (ci := 4) (v := .int ((h10 u) + x1)) (ty := .int) (C := RX3) (T := TX3) (N := 15) hx hb hts hin3 tyX3 tyX3_ok nmX3 hown hK hP hD hS 0 rfl rfl 10 (by decide) (hts (.fieldLink RX3 44 "HatReservations$Hall" "time" "I") (by decide +kernel)) (fun _ h9 => h9) rfl (by decide +kernel) rfl rfl (Nat.le_of_ble_eq_true rfl) dX3_letPass_7 (fun H locs hP hD hS => ?_)
  have hP : va_P D vwCl (HW ca a (s10 ((h10 u) + x1) u)) H := hP
  have hD : va_D A (HW ca a (s10 ((h10 u) + x1) u)) := hD
  refine lv_aload_n hx hb dX3_letPass_10 rfl (lv_at hl 0 rfl) ?_
  refine va_get (D := D) (ci := 4) (v := .int ((h10 u) + x1)) (C := RX3) (T := TX3) (N := 15) hx hb hts hin3 hown hK hP 0 rfl rfl 10 (by decide) (hts (.fieldLink RX3 44 "HatReservations$Hall" "time" "I") (by decide +kernel)) (fun _ h9 => h9) rfl dX3_letPass_11 ?_
  exact W.iret (v := (h10 u) + x1) hx hb hr (fun t ht hW => ⟨⟨(h10 u) + x1, s10 ((h10 u) + x1) u, rfl, hf.symm, by rw [ht]; exact hP, va_K.moved hW.alike hK, hD⟩, hS.F ht⟩) hS.2.2 dX3_letPass_14
def fX3_offerChair_2 : Nat → Nat → HS → Int32 → HS
  | 0, k, v, x1 => v
  | n + 1, k, v, x1 => (if (fX3_ownerAt v x1 0) = (-1) then v else (if (fX3_hatIsPlaced ((fX3_pullCoat v (fX3_ownerAt v x1 0)).2) (fX3_ownerAt v x1 0)) = 0 then (s13 ((h13 ((fX3_putHat ((fX3_pullCoat v (fX3_ownerAt v x1 0)).2) (fX3_ownerAt v x1 0) x1).2)) + 1) ((fX3_putHat ((fX3_pullCoat v (fX3_ownerAt v x1 0)).2) (fX3_ownerAt v x1 0) x1).2)) else fX3_offerChair_2 n (k + 1) (s12 ((h12 ((fX3_pullCoat v (fX3_ownerAt v x1 0)).2)) + 1) ((fX3_pullCoat v (fX3_ownerAt v x1 0)).2)) x1))
def fX3_offerChair (u : HS) (x1 : Int32) : HS :=
  fX3_offerChair_2 3 0 u x1
set_option maxHeartbeats 4000000 in
set_option maxRecDepth 100000 in
/-- offerChair -/
theorem kX3_offerChair (l : Launch) (D : va_G) (ca : Nat → ClassId) (a : Nat → Nat) (sz : Nat) (u : HS) (x1 : Int32) (hch : vp_in x1 40) : Met l yX3_offerChair wsX3_offerChair ({ frames := 2, cells := 0, slots := 0, locals := 55 }) (MPc D ca sz (HW ca a u) [.ref (a 8), .int x1]) (va_Qv (fun v => v = fX3_offerChair u x1) (MB D ca (va_A (HW ca a u) sz) (HW ca a)) (va_A (HW ca a u) sz)) 0 0 (va_A (HW ca a u) sz) := by
  refine Met.ofW (cc := cX3_offerChair) (maxL := 4) (ret := none) (by decide) rfl ?_
  intro p e s m args below meth c s₁ B hml hv
  obtain ⟨rfl, hsz, hP, hK, hD0⟩ := hv
  have hx := B.exec
  have hb := B.bytes
  have hr := B.returns
  have hts := atoms_spec (ws := wsX3_offerChair) B.pre
  have hown : s.vm.findClass RX3 = some m.cls := findClass_of_methodNamed B.named
  have hlocks := B.notSynchronized
  have hin3 : ∀ w ∈ wsX30, w ∈ wsX3_offerChair := by decide +kernel
  subst hsz
  have hD := hD0.self (sz := s.heap.size)
  generalize hAe : va_A (HW ca a u) s.heap.size = A at hD ⊢
  have hA : ∀ q : Nat, s.heap.size ≤ q → A q := fun q h => by rw [← hAe]; exact Or.inr h
  have hS : va_S A s.heap s.heap [] := va_S.rf
  have cut_2 : ∀ (n k : Nat) (hnk : n + k = 3) (v : HS) (H : Heap) (locs : List Loc) (hP : va_P D vwCl (HW ca a v) H) (hD : va_D A (HW ca a v)) (hS : va_S A s.heap H locs) (hf : fX3_offerChair u x1 = fX3_offerChair_2 n k v x1) (ls : Array Slot) (hl : lv_has ls 4 [(0, .ref (a 8)), (1, .int x1), (2, .int (nI k))]), W p l e (headSpec wsX3_offerChair ({ frames := 2, cells := 0, slots := 0, locals := 55 })).room s m ([.ref (a 8), .int x1] : List Value).toArray below meth c H locs 0 0 (MQ below (va_Qv (fun v => v = fX3_offerChair u x1) (MB D ca A (HW ca a)) A) ([.ref (a 8), .int x1] : List Value).toArray s 0 0 A) (F0 m 2 ls []) := by
    intro n
    induction n with
    | zero =>
      intro k hnk v H locs hP hD hS hf ls hl
      obtain rfl : k = 3 := by omega
      refine lv_iload_n hx hb dX3_offerChair_2 rfl (lv_at hl 2 rfl) ?_
      refine lv_iconst (v := 3) hx hb dX3_offerChair_3 (by decide) ?_
      refine lv_icmp_ge (tgt := 68) hx hb dX3_offerChair_4 (by decide) (fun _ => ?_) (fun q => absurd (by decide) q)
      exact W.vret hx hb hr (fun t ht hW => ⟨⟨v, rfl, hf.symm, by rw [ht]; exact hP, va_K.moved hW.alike hK, hD⟩, hS.F ht⟩) hS.2.2 dX3_offerChair_68
    | succ n ih =>
      intro k hnk v H locs hP hD hS hf ls hl
      refine lv_iload_n hx hb dX3_offerChair_2 rfl (lv_at hl 2 rfl) ?_
      refine lv_iconst (v := 3) hx hb dX3_offerChair_3 (by decide) ?_
      refine lv_icmp_ge (tgt := 68) hx hb dX3_offerChair_4 (by decide) (fun q => absurd q (show ¬ (3 : Int32) ≤ nI k from nI_ge (b := 3) (by omega) (by decide))) (fun _ => ?_)
      refine lv_aload_n hx hb dX3_offerChair_7 rfl (lv_at hl 0 rfl) ?_
      refine lv_iload_n hx hb dX3_offerChair_8 rfl (lv_at hl 1 rfl) ?_
      refine lv_iconst (v := 0) hx hb dX3_offerChair_9 (by decide) ?_
      refine hcRi (As := [.int x1, .int 0]) (rest := []) 0 4 ⟨hx, hb, hml, hown, hts⟩ (kX3_ownerAt l D ca a v x1 0 ) (cwV 2 hts gX3_offerChair_X3_ownerAt rfl rfl rfl (by decide +kernel) ⟨Nat.le_of_ble_eq_true rfl, Nat.le_of_ble_eq_true rfl⟩) hK hP rfl rfl rfl hl.1 rfl (Nat.le_of_ble_eq_true rfl) ⟨Nat.zero_le _, Nat.zero_le _⟩ dX3_offerChair_10 ?_
      refine lv_istore_n (lv' := [(3, .int (fX3_ownerAt v x1 0)), (0, .ref (a 8)), (1, .int x1), (2, .int (nI k))]) hx hb dX3_offerChair_13 rfl hl (by decide) rfl (fun ls hl => ?_)
      refine lv_iload_n hx hb dX3_offerChair_14 rfl (lv_at hl 0 rfl) ?_
      refine lv_iconst (v := (-1)) hx hb dX3_offerChair_15 (by decide) ?_
      refine lv_icmp_ne (tgt := 20) hx hb dX3_offerChair_16 (by decide) (fun c_16 => ?_) (fun c_16 => ?_)
      · have hf := hf.trans (if_neg c_16)
        refine lv_aload_n hx hb dX3_offerChair_20 rfl (lv_at hl 1 rfl) ?_
        refine lv_iload_n hx hb dX3_offerChair_21 rfl (lv_at hl 0 rfl) ?_
        refine hcMi (As := [.int (fX3_ownerAt v x1 0)]) (rest := []) (wr := []) (F := fX3_pullCoat v (fX3_ownerAt v x1 0)) 0 4 ⟨hx, hb, hml, hown, hts⟩ (kX3_pullCoat l D ca a _ v (fX3_ownerAt v x1 0) (Or.resolve_left (ownerAt_in v x1 0) c_16)) (cwV 1 hts gX3_offerChair_X3_pullCoat rfl rfl rfl (by decide +kernel) ⟨Nat.le_of_ble_eq_true rfl, Nat.le_of_ble_eq_true rfl⟩) hK hP hD hS hA (List.Perm.refl _) rfl rfl rfl hl.1 rfl (Nat.le_of_ble_eq_true rfl) ⟨Nat.zero_le _, Nat.zero_le _⟩ dX3_offerChair_22 (fun H locs hP hD hS => ?_)
        have hP : va_P D vwCl (HW ca a ((fX3_pullCoat v (fX3_ownerAt v x1 0)).2)) H := hP
        have hD : va_D A (HW ca a ((fX3_pullCoat v (fX3_ownerAt v x1 0)).2)) := hD
        refine lv_pop hx hb dX3_offerChair_25 rfl ?_
        refine lv_aload_n hx hb dX3_offerChair_26 rfl (lv_at hl 1 rfl) ?_
        refine lv_iload_n hx hb dX3_offerChair_27 rfl (lv_at hl 0 rfl) ?_
        refine hcRi (As := [.int (fX3_ownerAt v x1 0)]) (rest := []) 0 4 ⟨hx, hb, hml, hown, hts⟩ (kX3_hatIsPlaced l D ca a ((fX3_pullCoat v (fX3_ownerAt v x1 0)).2) (fX3_ownerAt v x1 0) (Or.resolve_left (ownerAt_in v x1 0) c_16)) (cwV 1 hts gX3_offerChair_X3_hatIsPlaced rfl rfl rfl (by decide +kernel) ⟨Nat.le_of_ble_eq_true rfl, Nat.le_of_ble_eq_true rfl⟩) hK hP rfl rfl rfl hl.1 rfl (Nat.le_of_ble_eq_true rfl) ⟨Nat.zero_le _, Nat.zero_le _⟩ dX3_offerChair_28 ?_
        refine lv_if_ne (tgt := 52) hx hb dX3_offerChair_31 (by decide) (fun c_31 => ?_) (fun c_31 => ?_)
        · have hf := hf.trans (if_neg c_31)
          refine lv_aload_n hx hb dX3_offerChair_52 rfl (lv_at hl 1 rfl) ?_
          refine lv_dup hx hb dX3_offerChair_53 rfl ?_
          refine va_get (D := D) (ci := 4) (v := .int (h12 ((fX3_pullCoat v (fX3_ownerAt v x1 0)).2))) (C := RX3) (T := TX3) (N := 15) hx hb hts hin3 hown hK hP 0 rfl rfl 12 (by decide) (hts (.fieldLink RX3 50 "HatReservations$Hall" "lapsed" "I") (by decide +kernel)) (fun _ h9 => h9) rfl dX3_offerChair_54 ?_
          refine lv_iconst (v := 1) hx hb dX3_offerChair_57 (by decide) ?_
          refine lv_iadd hx hb dX3_offerChair_58 ?_
          refine va_put (D := D) (ci := 4) (v := .int ((h12 ((fX3_pullCoat v (fX3_ownerAt v x1 0)).2)) + 1)) (ty := .int) (C := RX3) (T := TX3) (N := 15) hx hb hts hin3 tyX3 tyX3_ok nmX3 hown hK hP hD hS 0 rfl rfl 12 (by decide) (hts (.fieldLink RX3 50 "HatReservations$Hall" "lapsed" "I") (by decide +kernel)) (fun _ h9 => h9) rfl (by decide +kernel) rfl rfl (Nat.le_of_ble_eq_true rfl) dX3_offerChair_59 (fun H locs hP hD hS => ?_)
          have hP : va_P D vwCl (HW ca a (s12 ((h12 ((fX3_pullCoat v (fX3_ownerAt v x1 0)).2)) + 1) ((fX3_pullCoat v (fX3_ownerAt v x1 0)).2))) H := hP
          have hD : va_D A (HW ca a (s12 ((h12 ((fX3_pullCoat v (fX3_ownerAt v x1 0)).2)) + 1) ((fX3_pullCoat v (fX3_ownerAt v x1 0)).2))) := hD
          refine lv_iinc (v := nI (k + 1)) (lv' := [(2, .int (nI (k + 1))), (3, .int (fX3_ownerAt v x1 0)), (0, .ref (a 8)), (1, .int x1)]) hx hb dX3_offerChair_62 hl (k := 3) rfl (nI_1 k) (by decide) rfl (fun ls hl => ?_)
          refine lv_goto (tgt := 2) hx hb dX3_offerChair_65 (by decide) ?_
          exact ih (k + 1) (by omega)   (s12 ((h12 ((fX3_pullCoat v (fX3_ownerAt v x1 0)).2)) + 1) ((fX3_pullCoat v (fX3_ownerAt v x1 0)).2)) _ _ hP hD hS hf ls (lv_sub hl [2, 3, 0] rfl)
        · have hf := hf.trans (if_pos c_31)
          refine lv_aload_n hx hb dX3_offerChair_34 rfl (lv_at hl 1 rfl) ?_
          refine lv_iload_n hx hb dX3_offerChair_35 rfl (lv_at hl 0 rfl) ?_
          refine lv_iload_n hx hb dX3_offerChair_36 rfl (lv_at hl 2 rfl) ?_
          refine hcMi (As := [.int (fX3_ownerAt v x1 0), .int x1]) (rest := []) (wr := []) (F := fX3_putHat ((fX3_pullCoat v (fX3_ownerAt v x1 0)).2) (fX3_ownerAt v x1 0) x1) 0 4 ⟨hx, hb, hml, hown, hts⟩ (kX3_putHat l D ca a _ ((fX3_pullCoat v (fX3_ownerAt v x1 0)).2) (fX3_ownerAt v x1 0) x1 (Or.resolve_left (ownerAt_in v x1 0) c_16) hch) (cwV 2 hts gX3_offerChair_X3_putHat rfl rfl rfl (by decide +kernel) ⟨Nat.le_of_ble_eq_true rfl, Nat.le_of_ble_eq_true rfl⟩) hK hP hD hS hA (List.Perm.refl _) rfl rfl rfl hl.1 rfl (Nat.le_of_ble_eq_true rfl) ⟨Nat.zero_le _, Nat.zero_le _⟩ dX3_offerChair_37 (fun H locs hP hD hS => ?_)
          have hP : va_P D vwCl (HW ca a ((fX3_putHat ((fX3_pullCoat v (fX3_ownerAt v x1 0)).2) (fX3_ownerAt v x1 0) x1).2)) H := hP
          have hD : va_D A (HW ca a ((fX3_putHat ((fX3_pullCoat v (fX3_ownerAt v x1 0)).2) (fX3_ownerAt v x1 0) x1).2)) := hD
          refine lv_pop hx hb dX3_offerChair_40 rfl ?_
          refine lv_aload_n hx hb dX3_offerChair_41 rfl (lv_at hl 1 rfl) ?_
          refine lv_dup hx hb dX3_offerChair_42 rfl ?_
          refine va_get (D := D) (ci := 4) (v := .int (h13 ((fX3_putHat ((fX3_pullCoat v (fX3_ownerAt v x1 0)).2) (fX3_ownerAt v x1 0) x1).2))) (C := RX3) (T := TX3) (N := 15) hx hb hts hin3 hown hK hP 0 rfl rfl 13 (by decide) (hts (.fieldLink RX3 53 "HatReservations$Hall" "taken" "I") (by decide +kernel)) (fun _ h9 => h9) rfl dX3_offerChair_43 ?_
          refine lv_iconst (v := 1) hx hb dX3_offerChair_46 (by decide) ?_
          refine lv_iadd hx hb dX3_offerChair_47 ?_
          refine va_put (D := D) (ci := 4) (v := .int ((h13 ((fX3_putHat ((fX3_pullCoat v (fX3_ownerAt v x1 0)).2) (fX3_ownerAt v x1 0) x1).2)) + 1)) (ty := .int) (C := RX3) (T := TX3) (N := 15) hx hb hts hin3 tyX3 tyX3_ok nmX3 hown hK hP hD hS 0 rfl rfl 13 (by decide) (hts (.fieldLink RX3 53 "HatReservations$Hall" "taken" "I") (by decide +kernel)) (fun _ h9 => h9) rfl (by decide +kernel) rfl rfl (Nat.le_of_ble_eq_true rfl) dX3_offerChair_48 (fun H locs hP hD hS => ?_)
          have hP : va_P D vwCl (HW ca a (s13 ((h13 ((fX3_putHat ((fX3_pullCoat v (fX3_ownerAt v x1 0)).2) (fX3_ownerAt v x1 0) x1).2)) + 1) ((fX3_putHat ((fX3_pullCoat v (fX3_ownerAt v x1 0)).2) (fX3_ownerAt v x1 0) x1).2))) H := hP
          have hD : va_D A (HW ca a (s13 ((h13 ((fX3_putHat ((fX3_pullCoat v (fX3_ownerAt v x1 0)).2) (fX3_ownerAt v x1 0) x1).2)) + 1) ((fX3_putHat ((fX3_pullCoat v (fX3_ownerAt v x1 0)).2) (fX3_ownerAt v x1 0) x1).2))) := hD
          exact W.vret hx hb hr (fun t ht hW => ⟨⟨(s13 ((h13 ((fX3_putHat ((fX3_pullCoat v (fX3_ownerAt v x1 0)).2) (fX3_ownerAt v x1 0) x1).2)) + 1) ((fX3_putHat ((fX3_pullCoat v (fX3_ownerAt v x1 0)).2) (fX3_ownerAt v x1 0) x1).2)), rfl, hf.symm, by rw [ht]; exact hP, va_K.moved hW.alike hK, hD⟩, hS.F ht⟩) hS.2.2 dX3_offerChair_51
      · have hf := hf.trans (if_pos c_16)
        exact W.vret hx hb hr (fun t ht hW => ⟨⟨v, rfl, hf.symm, by rw [ht]; exact hP, va_K.moved hW.alike hK, hD⟩, hS.F ht⟩) hS.2.2 dX3_offerChair_19
  have hf : fX3_offerChair u x1 = fX3_offerChair u x1 := rfl
  refine W_entry (Nat.le_of_ble_eq_true rfl) (fun ls hl => ?_)
  have hl : lv_has ls 4 [(0, .ref (a 8)), (1, .int x1)] := hl
  refine lv_iconst (v := 0) hx hb dX3_offerChair_0 (by decide) ?_
  refine lv_istore_n (lv' := [(2, .int 0), (0, .ref (a 8)), (1, .int x1)]) hx hb dX3_offerChair_1 rfl hl (by decide) rfl (fun ls hl => ?_)
  exact cut_2 3 0 (by omega)   u _ _ hP hD hS hf ls (lv_sub hl [1, 2, 0] rfl)
def fX3_offerChairs_2 : Nat → Nat → HS → Int64 → HS
  | 0, k, v, x1 => v
  | n + 1, k, v, x1 => (if (lg_cmp ((ush x1 (nI k)) &&& 1) 0) = 0 then fX3_offerChairs_2 n (k + 1) v x1 else (if (fX3_covererAt v (nI k)) = (-1) then fX3_offerChairs_2 n (k + 1) (fX3_offerChair v (nI k)) x1 else fX3_offerChairs_2 n (k + 1) v x1))
def fX3_offerChairs (u : HS) (x1 : Int64) : HS :=
  fX3_offerChairs_2 40 0 u x1
set_option maxHeartbeats 4000000 in
set_option maxRecDepth 100000 in
/-- offerChairs -/
theorem kX3_offerChairs (l : Launch) (D : va_G) (ca : Nat → ClassId) (a : Nat → Nat) (sz : Nat) (u : HS) (x1 : Int64) : Met l yX3_offerChairs wsX3_offerChairs ({ frames := 3, cells := 0, slots := 0, locals := 78 }) (MPc D ca sz (HW ca a u) [.ref (a 8), .long x1]) (va_Qv (fun v => v = fX3_offerChairs u x1) (MB D ca (va_A (HW ca a u) sz) (HW ca a)) (va_A (HW ca a u) sz)) 0 0 (va_A (HW ca a u) sz) := by
  refine Met.ofW (cc := cX3_offerChairs) (maxL := 4) (ret := none) (by decide) rfl ?_
  intro p e s m args below meth c s₁ B hml hv
  obtain ⟨rfl, hsz, hP, hK, hD0⟩ := hv
  have hx := B.exec
  have hb := B.bytes
  have hr := B.returns
  have hts := atoms_spec (ws := wsX3_offerChairs) B.pre
  have hown : s.vm.findClass RX3 = some m.cls := findClass_of_methodNamed B.named
  have hlocks := B.notSynchronized
  subst hsz
  have hD := hD0.self (sz := s.heap.size)
  generalize hAe : va_A (HW ca a u) s.heap.size = A at hD ⊢
  have hA : ∀ q : Nat, s.heap.size ≤ q → A q := fun q h => by rw [← hAe]; exact Or.inr h
  have hS : va_S A s.heap s.heap [] := va_S.rf
  have cut_2 : ∀ (n k : Nat) (hnk : n + k = 40) (v : HS) (H : Heap) (locs : List Loc) (hP : va_P D vwCl (HW ca a v) H) (hD : va_D A (HW ca a v)) (hS : va_S A s.heap H locs) (hf : fX3_offerChairs u x1 = fX3_offerChairs_2 n k v x1) (ls : Array Slot) (hl : lv_has ls 4 [(0, .ref (a 8)), (1, .long x1), (3, .int (nI k))]), W p l e (headSpec wsX3_offerChairs ({ frames := 3, cells := 0, slots := 0, locals := 78 })).room s m ([.ref (a 8), .long x1] : List Value).toArray below meth c H locs 0 0 (MQ below (va_Qv (fun v => v = fX3_offerChairs u x1) (MB D ca A (HW ca a)) A) ([.ref (a 8), .long x1] : List Value).toArray s 0 0 A) (F0 m 2 ls []) := by
    intro n
    induction n with
    | zero =>
      intro k hnk v H locs hP hD hS hf ls hl
      obtain rfl : k = 40 := by omega
      refine lv_iload_n hx hb dX3_offerChairs_2 rfl (lv_at hl 2 rfl) ?_
      refine lv_bipush (v := 40) hx hb dX3_offerChairs_3 (by decide) ?_
      refine lv_icmp_ge (tgt := 38) hx hb dX3_offerChairs_5 (by decide) (fun _ => ?_) (fun q => absurd (by decide) q)
      exact W.vret hx hb hr (fun t ht hW => ⟨⟨v, rfl, hf.symm, by rw [ht]; exact hP, va_K.moved hW.alike hK, hD⟩, hS.F ht⟩) hS.2.2 dX3_offerChairs_38
    | succ n ih =>
      intro k hnk v H locs hP hD hS hf ls hl
      refine lv_iload_n hx hb dX3_offerChairs_2 rfl (lv_at hl 2 rfl) ?_
      refine lv_bipush (v := 40) hx hb dX3_offerChairs_3 (by decide) ?_
      refine lv_icmp_ge (tgt := 38) hx hb dX3_offerChairs_5 (by decide) (fun q => absurd q (show ¬ (40 : Int32) ≤ nI k from nI_ge (b := 40) (by omega) (by decide))) (fun _ => ?_)
      refine lv_lload_n hx hb dX3_offerChairs_8 rfl (lv_at hl 1 rfl) ?_
      refine lv_iload_n hx hb dX3_offerChairs_9 rfl (lv_at hl 2 rfl) ?_
      refine lv_lushr (v := ush x1 (nI k)) hx hb dX3_offerChairs_10 rfl ?_
      refine lv_lconst (v := 1) hx hb dX3_offerChairs_11 (by decide) ?_
      refine lv_land hx hb dX3_offerChairs_12 ?_
      refine lv_lconst (v := 0) hx hb dX3_offerChairs_13 (by decide) ?_
      refine W.lcmp hx hb dX3_offerChairs_14 ?_
      refine lv_if_eq (tgt := 32) hx hb dX3_offerChairs_15 (by decide) (fun c_15 => ?_) (fun c_15 => ?_)
      · have hf := hf.trans (if_pos c_15)
        refine lv_iinc (v := nI (k + 1)) (lv' := [(3, .int (nI (k + 1))), (0, .ref (a 8)), (1, .long x1)]) hx hb dX3_offerChairs_32 hl (k := 2) rfl (nI_1 k) (by decide) rfl (fun ls hl => ?_)
        refine lv_goto (tgt := 2) hx hb dX3_offerChairs_35 (by decide) ?_
        exact ih (k + 1) (by omega)   v _ _ hP hD hS hf ls (lv_sub hl [1, 2, 0] rfl)
      · have hf := hf.trans (if_neg c_15)
        refine lv_aload_n hx hb dX3_offerChairs_18 rfl (lv_at hl 0 rfl) ?_
        refine lv_iload_n hx hb dX3_offerChairs_19 rfl (lv_at hl 2 rfl) ?_
        refine hcRi (As := [.int (nI k)]) (rest := []) 0 4 ⟨hx, hb, hml, hown, hts⟩ (kX3_covererAt l D ca a v (nI k) ) (cwV 1 hts gX3_offerChairs_X3_covererAt rfl rfl rfl (by decide +kernel) ⟨Nat.le_of_ble_eq_true rfl, Nat.le_of_ble_eq_true rfl⟩) hK hP rfl rfl rfl hl.1 rfl (Nat.le_of_ble_eq_true rfl) ⟨Nat.zero_le _, Nat.zero_le _⟩ dX3_offerChairs_20 ?_
        refine lv_iconst (v := (-1)) hx hb dX3_offerChairs_23 (by decide) ?_
        refine lv_icmp_ne (tgt := 32) hx hb dX3_offerChairs_24 (by decide) (fun c_24 => ?_) (fun c_24 => ?_)
        · have hf := hf.trans (if_neg c_24)
          refine lv_iinc (v := nI (k + 1)) (lv' := [(3, .int (nI (k + 1))), (0, .ref (a 8)), (1, .long x1)]) hx hb dX3_offerChairs_32 hl (k := 2) rfl (nI_1 k) (by decide) rfl (fun ls hl => ?_)
          refine lv_goto (tgt := 2) hx hb dX3_offerChairs_35 (by decide) ?_
          exact ih (k + 1) (by omega)   v _ _ hP hD hS hf ls (lv_sub hl [1, 2, 0] rfl)
        · have hf := hf.trans (if_pos c_24)
          refine lv_aload_n hx hb dX3_offerChairs_27 rfl (lv_at hl 0 rfl) ?_
          refine lv_iload_n hx hb dX3_offerChairs_28 rfl (lv_at hl 2 rfl) ?_
          refine hcMv (As := [.int (nI k)]) (rest := []) (wr := []) (F := fX3_offerChair v (nI k)) 0 4 ⟨hx, hb, hml, hown, hts⟩ (kX3_offerChair l D ca a _ v (nI k) (vp_in_nI (by omega) (by decide))) (cwV 1 hts gX3_offerChairs_X3_offerChair rfl rfl rfl (by decide +kernel) ⟨Nat.le_of_ble_eq_true rfl, Nat.le_of_ble_eq_true rfl⟩) hK hP hD hS hA (List.Perm.refl _) rfl rfl rfl hl.1 rfl (Nat.le_of_ble_eq_true rfl) ⟨Nat.zero_le _, Nat.zero_le _⟩ dX3_offerChairs_29 (fun H locs hP hD hS => ?_)
          have hP : va_P D vwCl (HW ca a (fX3_offerChair v (nI k))) H := hP
          have hD : va_D A (HW ca a (fX3_offerChair v (nI k))) := hD
          refine lv_iinc (v := nI (k + 1)) (lv' := [(3, .int (nI (k + 1))), (0, .ref (a 8)), (1, .long x1)]) hx hb dX3_offerChairs_32 hl (k := 2) rfl (nI_1 k) (by decide) rfl (fun ls hl => ?_)
          refine lv_goto (tgt := 2) hx hb dX3_offerChairs_35 (by decide) ?_
          exact ih (k + 1) (by omega)   (fX3_offerChair v (nI k)) _ _ hP hD hS hf ls (lv_sub hl [1, 2, 0] rfl)
  have hf : fX3_offerChairs u x1 = fX3_offerChairs u x1 := rfl
  refine W_entry (Nat.le_of_ble_eq_true rfl) (fun ls hl => ?_)
  have hl : lv_has ls 4 [(0, .ref (a 8)), (1, .long x1)] := hl
  refine lv_iconst (v := 0) hx hb dX3_offerChairs_0 (by decide) ?_
  refine lv_istore_n (lv' := [(3, .int 0), (0, .ref (a 8)), (1, .long x1)]) hx hb dX3_offerChairs_1 rfl hl (by decide) rfl (fun ls hl => ?_)
  exact cut_2 40 0 (by omega)   u _ _ hP hD hS hf ls (lv_sub hl [1, 2, 0] rfl)
def fX3_giveChairsBack (u : HS) (x1 : Int32) : Int32 × HS :=
  (fJ13_bitCount_95d88 ((fX3_liftHat u x1).1), fX3_offerChairs ((fX3_liftHat u x1).2) ((fX3_liftHat u x1).1))
set_option maxHeartbeats 4000000 in
set_option maxRecDepth 100000 in
/-- giveChairsBack -/
theorem kX3_giveChairsBack (l : Launch) (D : va_G) (ca : Nat → ClassId) (a : Nat → Nat) (sz : Nat) (u : HS) (x1 : Int32) (hg : vp_in x1 8) : Met l yX3_giveChairsBack wsX3_giveChairsBack ({ frames := 4, cells := 0, slots := 0, locals := 101 }) (MPc D ca sz (HW ca a u) [.ref (a 8), .int x1]) (va_Qi (fun r v => (r, v) = fX3_giveChairsBack u x1) (MB D ca (va_A (HW ca a u) sz) (HW ca a)) (va_A (HW ca a u) sz)) 0 0 (va_A (HW ca a u) sz) := by
  refine Met.ofW (cc := cX3_giveChairsBack) (maxL := 4) (ret := (some .int)) (by decide) rfl ?_
  intro p e s m args below meth c s₁ B hml hv
  obtain ⟨rfl, hsz, hP, hK, hD0⟩ := hv
  have hx := B.exec
  have hb := B.bytes
  have hr := B.returns
  have hts := atoms_spec (ws := wsX3_giveChairsBack) B.pre
  have hown : s.vm.findClass RX3 = some m.cls := findClass_of_methodNamed B.named
  have hlocks := B.notSynchronized
  subst hsz
  have hD := hD0.self (sz := s.heap.size)
  generalize hAe : va_A (HW ca a u) s.heap.size = A at hD ⊢
  have hA : ∀ q : Nat, s.heap.size ≤ q → A q := fun q h => by rw [← hAe]; exact Or.inr h
  have hS : va_S A s.heap s.heap [] := va_S.rf
  have hf : fX3_giveChairsBack u x1 = fX3_giveChairsBack u x1 := rfl
  refine W_entry (Nat.le_of_ble_eq_true rfl) (fun ls hl => ?_)
  have hl : lv_has ls 4 [(0, .ref (a 8)), (1, .int x1)] := hl
  refine lv_aload_n hx hb dX3_giveChairsBack_0 rfl (lv_at hl 0 rfl) ?_
  refine lv_iload_n hx hb dX3_giveChairsBack_1 rfl (lv_at hl 1 rfl) ?_
  refine hcMl (As := [.int x1]) (rest := []) (wr := []) (F := fX3_liftHat u x1) 0 4 ⟨hx, hb, hml, hown, hts⟩ (kX3_liftHat l D ca a _ u x1 hg) (cwV 1 hts gX3_giveChairsBack_X3_liftHat rfl rfl rfl (by decide +kernel) ⟨Nat.le_of_ble_eq_true rfl, Nat.le_of_ble_eq_true rfl⟩) hK hP hD hS hA (List.Perm.refl _) rfl rfl rfl hl.1 rfl (Nat.le_of_ble_eq_true rfl) ⟨Nat.zero_le _, Nat.zero_le _⟩ dX3_giveChairsBack_2 (fun H locs hP hD hS => ?_)
  have hP : va_P D vwCl (HW ca a ((fX3_liftHat u x1).2)) H := hP
  have hD : va_D A (HW ca a ((fX3_liftHat u x1).2)) := hD
  refine lv_lstore_n (lv' := [(2, .long ((fX3_liftHat u x1).1)), (0, .ref (a 8)), (1, .int x1)]) hx hb dX3_giveChairsBack_5 rfl hl (by decide) rfl (fun ls hl => ?_)
  refine lv_aload_n hx hb dX3_giveChairsBack_6 rfl (lv_at hl 1 rfl) ?_
  refine lv_lload_n hx hb dX3_giveChairsBack_7 rfl (lv_at hl 0 rfl) ?_
  refine hcMv (As := [.long ((fX3_liftHat u x1).1)]) (rest := []) (wr := []) (F := fX3_offerChairs ((fX3_liftHat u x1).2) ((fX3_liftHat u x1).1)) 0 4 ⟨hx, hb, hml, hown, hts⟩ (kX3_offerChairs l D ca a _ ((fX3_liftHat u x1).2) ((fX3_liftHat u x1).1) ) (cwV 1 hts gX3_giveChairsBack_X3_offerChairs rfl rfl rfl (by decide +kernel) ⟨Nat.le_of_ble_eq_true rfl, Nat.le_of_ble_eq_true rfl⟩) hK hP hD hS hA (List.Perm.refl _) rfl rfl rfl hl.1 rfl (Nat.le_of_ble_eq_true rfl) ⟨Nat.zero_le _, Nat.zero_le _⟩ dX3_giveChairsBack_8 (fun H locs hP hD hS => ?_)
  have hP : va_P D vwCl (HW ca a (fX3_offerChairs ((fX3_liftHat u x1).2) ((fX3_liftHat u x1).1))) H := hP
  have hD : va_D A (HW ca a (fX3_offerChairs ((fX3_liftHat u x1).2) ((fX3_liftHat u x1).1))) := hD
  refine lv_lload_n hx hb dX3_giveChairsBack_11 rfl (lv_at hl 0 rfl) ?_
  refine hcSi (As := [.long ((fX3_liftHat u x1).1)]) (rest := []) ⟨hx, hb, hml, hown, hts⟩ (kJ13_bitCount_95d88 l ((fX3_liftHat u x1).1) ) (va_cwS 1 hts gX3_giveChairsBack_J13_bitCount_95d88 rfl rfl rfl (by decide +kernel) ⟨Nat.le_of_ble_eq_true rfl, Nat.le_of_ble_eq_true rfl⟩) rfl hl.1 rfl (Nat.le_of_ble_eq_true rfl) ⟨Nat.zero_le _, Nat.zero_le _⟩ dX3_giveChairsBack_12 ?_
  exact W.iret (v := fJ13_bitCount_95d88 ((fX3_liftHat u x1).1)) hx hb hr (fun t ht hW => ⟨⟨fJ13_bitCount_95d88 ((fX3_liftHat u x1).1), fX3_offerChairs ((fX3_liftHat u x1).2) ((fX3_liftHat u x1).1), rfl, hf.symm, by rw [ht]; exact hP, va_K.moved hW.alike hK, hD⟩, hS.F ht⟩) hS.2.2 dX3_giveChairsBack_15
def fX3_loseChair (u : HS) (x1 : Int32) (x2 : Int32) : Int64 × HS :=
  (if ((h2 u) x1.toNatClampNeg) = x2 then ((fX3_liftHat u x1).1, (fX3_liftHat u x1).2) else (if ((h2 u) x1.toNatClampNeg) ≤ x2 then (((h4 u) x1.toNatClampNeg) &&& (((lsh 1 x2) - 1) ^^^ (-1)), s4 (vp_updL (h4 u) x1.toNatClampNeg (((h4 u) x1.toNatClampNeg) &&& ((((lsh 1 x2) - 1) ^^^ (-1)) ^^^ (-1)))) u) else (((h4 u) x1.toNatClampNeg) &&& (((lsh 1 x2) - 1) ||| (lsh 1 x2)), s4 (vp_updL (h4 u) x1.toNatClampNeg (((h4 u) x1.toNatClampNeg) &&& ((((lsh 1 x2) - 1) ||| (lsh 1 x2)) ^^^ (-1)))) u)))
set_option maxHeartbeats 4000000 in
set_option maxRecDepth 100000 in
/-- loseChair -/
theorem kX3_loseChair (l : Launch) (D : va_G) (ca : Nat → ClassId) (a : Nat → Nat) (sz : Nat) (u : HS) (x1 : Int32) (x2 : Int32) (hg : vp_in x1 8) : Met l yX3_loseChair wsX3_loseChair ({ frames := 1, cells := 0, slots := 0, locals := 23 }) (MPc D ca sz (HW ca a u) [.ref (a 8), .int x1, .int x2]) (va_Ql (fun r v => (r, v) = fX3_loseChair u x1 x2) (MB D ca (va_A (HW ca a u) sz) (HW ca a)) (va_A (HW ca a u) sz)) 0 0 (va_A (HW ca a u) sz) := by
  refine Met.ofW (cc := cX3_loseChair) (maxL := 12) (ret := (some .long)) (by decide) rfl ?_
  intro p e s m args below meth c s₁ B hml hv
  obtain ⟨rfl, hsz, hP, hK, hD0⟩ := hv
  have hx := B.exec
  have hb := B.bytes
  have hr := B.returns
  have hts := atoms_spec (ws := wsX3_loseChair) B.pre
  have hown : s.vm.findClass RX3 = some m.cls := findClass_of_methodNamed B.named
  have hlocks := B.notSynchronized
  have hin3 : ∀ w ∈ wsX30, w ∈ wsX3_loseChair := by decide +kernel
  subst hsz
  have hD := hD0.self (sz := s.heap.size)
  generalize hAe : va_A (HW ca a u) s.heap.size = A at hD ⊢
  have hA : ∀ q : Nat, s.heap.size ≤ q → A q := fun q h => by rw [← hAe]; exact Or.inr h
  have hS : va_S A s.heap s.heap [] := va_S.rf
  have hf : fX3_loseChair u x1 x2 = fX3_loseChair u x1 x2 := rfl
  refine W_entry (Nat.le_of_ble_eq_true rfl) (fun ls hl => ?_)
  have hl : lv_has ls 12 [(0, .ref (a 8)), (1, .int x1), (2, .int x2)] := hl
  refine lv_aload_n hx hb dX3_loseChair_0 rfl (lv_at hl 0 rfl) ?_
  refine va_get (D := D) (ci := 4) (v := .ref (a 2)) (C := RX3) (T := TX3) (N := 15) hx hb hts hin3 hown hK hP 0 rfl rfl 2 (by decide) (hts (.fieldLink RX3 18 "HatReservations$Hall" "hatChairs" "[I") (by decide +kernel)) (fun _ h9 => h9) rfl dX3_loseChair_1 ?_
  refine lv_iload_n hx hb dX3_loseChair_4 rfl (lv_at hl 1 rfl) ?_
  refine va_iald (f := h2 u) hx hb hK hP 3 0 rfl rfl hg dX3_loseChair_5 ?_
  refine lv_istore_n (lv' := [(3, .int ((h2 u) x1.toNatClampNeg)), (0, .ref (a 8)), (1, .int x1), (2, .int x2)]) hx hb dX3_loseChair_6 rfl hl (by decide) rfl (fun ls hl => ?_)
  refine lv_iload_n hx hb dX3_loseChair_7 rfl (lv_at hl 0 rfl) ?_
  refine lv_iload_n hx hb dX3_loseChair_8 rfl (lv_at hl 3 rfl) ?_
  refine lv_icmp_ne (tgt := 18) hx hb dX3_loseChair_9 (by decide) (fun c_9 => ?_) (fun c_9 => ?_)
  · have hf := hf.trans (if_neg c_9)
    refine lv_lconst (v := 1) hx hb dX3_loseChair_18 (by decide) ?_
    refine lv_iload_n hx hb dX3_loseChair_19 rfl (lv_at hl 3 rfl) ?_
    refine lv_lshl (v := lsh 1 x2) hx hb dX3_loseChair_20 rfl ?_
    refine lv_lstore (lv' := [(4, .long (lsh 1 x2)), (3, .int ((h2 u) x1.toNatClampNeg)), (0, .ref (a 8)), (1, .int x1), (2, .int x2)]) hx hb dX3_loseChair_21 hl (by decide) rfl (fun ls hl => ?_)
    refine lv_lload hx hb dX3_loseChair_23 (lv_at hl 0 rfl) ?_
    refine lv_lconst (v := 1) hx hb dX3_loseChair_25 (by decide) ?_
    refine lv_lsub hx hb dX3_loseChair_26 ?_
    refine lv_lstore (lv' := [(6, .long ((lsh 1 x2) - 1)), (4, .long (lsh 1 x2)), (3, .int ((h2 u) x1.toNatClampNeg)), (0, .ref (a 8)), (1, .int x1), (2, .int x2)]) hx hb dX3_loseChair_27 hl (by decide) rfl (fun ls hl => ?_)
    refine lv_iload_n hx hb dX3_loseChair_29 rfl (lv_at hl 5 rfl) ?_
    refine lv_iload_n hx hb dX3_loseChair_30 rfl (lv_at hl 2 rfl) ?_
    refine lv_icmp_ge (tgt := 42) hx hb dX3_loseChair_31 (by decide) (fun c_31 => ?_) (fun c_31 => ?_)
    · have hf := hf.trans (if_pos c_31)
      refine lv_lload hx hb dX3_loseChair_42 (lv_at hl 0 rfl) ?_
      refine lv_ldc2 (v := (-1)) hx hb hown (hts (.constantLong RX3 134 (-1)) (by decide +kernel)) dX3_loseChair_44 ?_
      refine lv_lxor hx hb dX3_loseChair_47 ?_
      refine lv_lstore (lv' := [(8, .long (((lsh 1 x2) - 1) ^^^ (-1))), (6, .long ((lsh 1 x2) - 1)), (4, .long (lsh 1 x2)), (3, .int ((h2 u) x1.toNatClampNeg)), (0, .ref (a 8)), (1, .int x1), (2, .int x2)]) hx hb dX3_loseChair_48 hl (by decide) rfl (fun ls hl => ?_)
      refine lv_aload_n hx hb dX3_loseChair_50 rfl (lv_at hl 4 rfl) ?_
      refine va_get (D := D) (ci := 4) (v := .ref (a 4)) (C := RX3) (T := TX3) (N := 15) hx hb hts hin3 hown hK hP 0 rfl rfl 4 (by decide) (hts (.fieldLink RX3 24 "HatReservations$Hall" "covers" "[J") (by decide +kernel)) (fun _ h9 => h9) rfl dX3_loseChair_51 ?_
      refine lv_iload_n hx hb dX3_loseChair_54 rfl (lv_at hl 5 rfl) ?_
      refine va_lald (f := h4 u) hx hb hK hP 5 1 rfl rfl hg dX3_loseChair_55 ?_
      refine lv_lload hx hb dX3_loseChair_56 (lv_at hl 0 rfl) ?_
      refine lv_land hx hb dX3_loseChair_58 ?_
      refine lv_lstore (lv' := [(10, .long (((h4 u) x1.toNatClampNeg) &&& (((lsh 1 x2) - 1) ^^^ (-1)))), (8, .long (((lsh 1 x2) - 1) ^^^ (-1))), (6, .long ((lsh 1 x2) - 1)), (4, .long (lsh 1 x2)), (3, .int ((h2 u) x1.toNatClampNeg)), (0, .ref (a 8)), (1, .int x1), (2, .int x2)]) hx hb dX3_loseChair_59 hl (by decide) rfl (fun ls hl => ?_)
      refine lv_aload_n hx hb dX3_loseChair_61 rfl (lv_at hl 5 rfl) ?_
      refine va_get (D := D) (ci := 4) (v := .ref (a 4)) (C := RX3) (T := TX3) (N := 15) hx hb hts hin3 hown hK hP 0 rfl rfl 4 (by decide) (hts (.fieldLink RX3 24 "HatReservations$Hall" "covers" "[J") (by decide +kernel)) (fun _ h9 => h9) rfl dX3_loseChair_62 ?_
      refine lv_iload_n hx hb dX3_loseChair_65 rfl (lv_at hl 6 rfl) ?_
      refine lv_dup2_11 hx hb dX3_loseChair_66 rfl rfl ?_
      refine va_lald (f := h4 u) hx hb hK hP 5 1 rfl rfl hg dX3_loseChair_67 ?_
      refine lv_lload hx hb dX3_loseChair_68 (lv_at hl 1 rfl) ?_
      refine lv_ldc2 (v := (-1)) hx hb hown (hts (.constantLong RX3 134 (-1)) (by decide +kernel)) dX3_loseChair_70 ?_
      refine lv_lxor hx hb dX3_loseChair_73 ?_
      refine lv_land hx hb dX3_loseChair_74 ?_
      refine va_last (f := h4 u) hx hb hK hP hD hS 5 1 rfl rfl hg dX3_loseChair_75 (fun H locs hP hD hS => ?_)
      have hP : va_P D vwCl (HW ca a (s4 (vp_updL (h4 u) x1.toNatClampNeg (((h4 u) x1.toNatClampNeg) &&& ((((lsh 1 x2) - 1) ^^^ (-1)) ^^^ (-1)))) u)) H := hP
      have hD : va_D A (HW ca a (s4 (vp_updL (h4 u) x1.toNatClampNeg (((h4 u) x1.toNatClampNeg) &&& ((((lsh 1 x2) - 1) ^^^ (-1)) ^^^ (-1)))) u)) := hD
      refine lv_lload hx hb dX3_loseChair_76 (lv_at hl 0 rfl) ?_
      exact W.lret (v := ((h4 u) x1.toNatClampNeg) &&& (((lsh 1 x2) - 1) ^^^ (-1))) hx hb hr (fun t ht hW => ⟨⟨((h4 u) x1.toNatClampNeg) &&& (((lsh 1 x2) - 1) ^^^ (-1)), s4 (vp_updL (h4 u) x1.toNatClampNeg (((h4 u) x1.toNatClampNeg) &&& ((((lsh 1 x2) - 1) ^^^ (-1)) ^^^ (-1)))) u, rfl, hf.symm, by rw [ht]; exact hP, va_K.moved hW.alike hK, hD⟩, hS.F ht⟩) hS.2.2 dX3_loseChair_78
    · have hf := hf.trans (if_neg c_31)
      refine lv_lload hx hb dX3_loseChair_34 (lv_at hl 0 rfl) ?_
      refine lv_lload hx hb dX3_loseChair_36 (lv_at hl 1 rfl) ?_
      refine lv_lor hx hb dX3_loseChair_38 ?_
      refine lv_goto (tgt := 48) hx hb dX3_loseChair_39 (by decide) ?_
      refine lv_lstore (lv' := [(8, .long (((lsh 1 x2) - 1) ||| (lsh 1 x2))), (6, .long ((lsh 1 x2) - 1)), (4, .long (lsh 1 x2)), (3, .int ((h2 u) x1.toNatClampNeg)), (0, .ref (a 8)), (1, .int x1), (2, .int x2)]) hx hb dX3_loseChair_48 hl (by decide) rfl (fun ls hl => ?_)
      refine lv_aload_n hx hb dX3_loseChair_50 rfl (lv_at hl 4 rfl) ?_
      refine va_get (D := D) (ci := 4) (v := .ref (a 4)) (C := RX3) (T := TX3) (N := 15) hx hb hts hin3 hown hK hP 0 rfl rfl 4 (by decide) (hts (.fieldLink RX3 24 "HatReservations$Hall" "covers" "[J") (by decide +kernel)) (fun _ h9 => h9) rfl dX3_loseChair_51 ?_
      refine lv_iload_n hx hb dX3_loseChair_54 rfl (lv_at hl 5 rfl) ?_
      refine va_lald (f := h4 u) hx hb hK hP 5 1 rfl rfl hg dX3_loseChair_55 ?_
      refine lv_lload hx hb dX3_loseChair_56 (lv_at hl 0 rfl) ?_
      refine lv_land hx hb dX3_loseChair_58 ?_
      refine lv_lstore (lv' := [(10, .long (((h4 u) x1.toNatClampNeg) &&& (((lsh 1 x2) - 1) ||| (lsh 1 x2)))), (8, .long (((lsh 1 x2) - 1) ||| (lsh 1 x2))), (6, .long ((lsh 1 x2) - 1)), (4, .long (lsh 1 x2)), (3, .int ((h2 u) x1.toNatClampNeg)), (0, .ref (a 8)), (1, .int x1), (2, .int x2)]) hx hb dX3_loseChair_59 hl (by decide) rfl (fun ls hl => ?_)
      refine lv_aload_n hx hb dX3_loseChair_61 rfl (lv_at hl 5 rfl) ?_
      refine va_get (D := D) (ci := 4) (v := .ref (a 4)) (C := RX3) (T := TX3) (N := 15) hx hb hts hin3 hown hK hP 0 rfl rfl 4 (by decide) (hts (.fieldLink RX3 24 "HatReservations$Hall" "covers" "[J") (by decide +kernel)) (fun _ h9 => h9) rfl dX3_loseChair_62 ?_
      refine lv_iload_n hx hb dX3_loseChair_65 rfl (lv_at hl 6 rfl) ?_
      refine lv_dup2_11 hx hb dX3_loseChair_66 rfl rfl ?_
      refine va_lald (f := h4 u) hx hb hK hP 5 1 rfl rfl hg dX3_loseChair_67 ?_
      refine lv_lload hx hb dX3_loseChair_68 (lv_at hl 1 rfl) ?_
      refine lv_ldc2 (v := (-1)) hx hb hown (hts (.constantLong RX3 134 (-1)) (by decide +kernel)) dX3_loseChair_70 ?_
      refine lv_lxor hx hb dX3_loseChair_73 ?_
      refine lv_land hx hb dX3_loseChair_74 ?_
      refine va_last (f := h4 u) hx hb hK hP hD hS 5 1 rfl rfl hg dX3_loseChair_75 (fun H locs hP hD hS => ?_)
      have hP : va_P D vwCl (HW ca a (s4 (vp_updL (h4 u) x1.toNatClampNeg (((h4 u) x1.toNatClampNeg) &&& ((((lsh 1 x2) - 1) ||| (lsh 1 x2)) ^^^ (-1)))) u)) H := hP
      have hD : va_D A (HW ca a (s4 (vp_updL (h4 u) x1.toNatClampNeg (((h4 u) x1.toNatClampNeg) &&& ((((lsh 1 x2) - 1) ||| (lsh 1 x2)) ^^^ (-1)))) u)) := hD
      refine lv_lload hx hb dX3_loseChair_76 (lv_at hl 0 rfl) ?_
      exact W.lret (v := ((h4 u) x1.toNatClampNeg) &&& (((lsh 1 x2) - 1) ||| (lsh 1 x2))) hx hb hr (fun t ht hW => ⟨⟨((h4 u) x1.toNatClampNeg) &&& (((lsh 1 x2) - 1) ||| (lsh 1 x2)), s4 (vp_updL (h4 u) x1.toNatClampNeg (((h4 u) x1.toNatClampNeg) &&& ((((lsh 1 x2) - 1) ||| (lsh 1 x2)) ^^^ (-1)))) u, rfl, hf.symm, by rw [ht]; exact hP, va_K.moved hW.alike hK, hD⟩, hS.F ht⟩) hS.2.2 dX3_loseChair_78
  · have hf := hf.trans (if_pos c_9)
    refine lv_aload_n hx hb dX3_loseChair_12 rfl (lv_at hl 1 rfl) ?_
    refine lv_iload_n hx hb dX3_loseChair_13 rfl (lv_at hl 2 rfl) ?_
    refine hcMl (As := [.int x1]) (rest := []) (wr := []) (F := fX3_liftHat u x1) 0 4 ⟨hx, hb, hml, hown, hts⟩ (kX3_liftHat l D ca a _ u x1 hg) (cwV 1 hts gX3_loseChair_X3_liftHat rfl rfl rfl (by decide +kernel) ⟨Nat.le_of_ble_eq_true rfl, Nat.le_of_ble_eq_true rfl⟩) hK hP hD hS hA (List.Perm.refl _) rfl rfl rfl hl.1 rfl (Nat.le_of_ble_eq_true rfl) ⟨Nat.zero_le _, Nat.zero_le _⟩ dX3_loseChair_14 (fun H locs hP hD hS => ?_)
    have hP : va_P D vwCl (HW ca a ((fX3_liftHat u x1).2)) H := hP
    have hD : va_D A (HW ca a ((fX3_liftHat u x1).2)) := hD
    exact W.lret (v := (fX3_liftHat u x1).1) hx hb hr (fun t ht hW => ⟨⟨(fX3_liftHat u x1).1, (fX3_liftHat u x1).2, rfl, hf.symm, by rw [ht]; exact hP, va_K.moved hW.alike hK, hD⟩, hS.F ht⟩) hS.2.2 dX3_loseChair_17
def fX3_fightFor (u : HS) (x1 : Int32) (x2 : Int32) : Int32 × HS :=
  (if (fX3_isStronger u x1 (fX3_covererAt u x2)) = 0 then (0, s0 (upd (h0 u) x1.toNatClampNeg (if 0 < ((h0 u) x1.toNatClampNeg) - 1 then ((h0 u) x1.toNatClampNeg) - 1 else 0)) u) else (1, fX3_offerChairs (s14 ((h14 ((fX3_putHat ((fX3_loseChair (s0 (upd (h0 u) x1.toNatClampNeg (((h0 u) x1.toNatClampNeg) - ((h0 u) (fX3_covererAt u x2).toNatClampNeg))) u) (fX3_covererAt u x2) x2).2) x1 x2).2)) + 1) ((fX3_putHat ((fX3_loseChair (s0 (upd (h0 u) x1.toNatClampNeg (((h0 u) x1.toNatClampNeg) - ((h0 u) (fX3_covererAt u x2).toNatClampNeg))) u) (fX3_covererAt u x2) x2).2) x1 x2).2)) ((fX3_loseChair (s0 (upd (h0 u) x1.toNatClampNeg (((h0 u) x1.toNatClampNeg) - ((h0 u) (fX3_covererAt u x2).toNatClampNeg))) u) (fX3_covererAt u x2) x2).1)))
set_option maxHeartbeats 4000000 in
set_option maxRecDepth 100000 in
/-- fightFor -/
theorem kX3_fightFor (l : Launch) (D : va_G) (ca : Nat → ClassId) (a : Nat → Nat) (sz : Nat) (u : HS) (x1 : Int32) (x2 : Int32) (hg : vp_in x1 8) (hch : vp_in x2 40) : Met l yX3_fightFor wsX3_fightFor ({ frames := 4, cells := 0, slots := 0, locals := 101 }) (MPc D ca sz (HW ca a u) [.ref (a 8), .int x1, .int x2]) (va_Qi (fun r v => (r, v) = fX3_fightFor u x1 x2) (MB D ca (va_A (HW ca a u) sz) (HW ca a)) (va_A (HW ca a u) sz)) 0 0 (va_A (HW ca a u) sz) := by
  refine Met.ofW (cc := cX3_fightFor) (maxL := 6) (ret := (some .boolean)) (by decide) rfl ?_
  intro p e s m args below meth c s₁ B hml hv
  obtain ⟨rfl, hsz, hP, hK, hD0⟩ := hv
  have hx := B.exec
  have hb := B.bytes
  have hr := B.returns
  have hts := atoms_spec (ws := wsX3_fightFor) B.pre
  have hown : s.vm.findClass RX3 = some m.cls := findClass_of_methodNamed B.named
  have hlocks := B.notSynchronized
  have hin3 : ∀ w ∈ wsX30, w ∈ wsX3_fightFor := by decide +kernel
  subst hsz
  have hD := hD0.self (sz := s.heap.size)
  generalize hAe : va_A (HW ca a u) s.heap.size = A at hD ⊢
  have hA : ∀ q : Nat, s.heap.size ≤ q → A q := fun q h => by rw [← hAe]; exact Or.inr h
  have hS : va_S A s.heap s.heap [] := va_S.rf
  have hf : fX3_fightFor u x1 x2 = fX3_fightFor u x1 x2 := rfl
  refine W_entry (Nat.le_of_ble_eq_true rfl) (fun ls hl => ?_)
  have hl : lv_has ls 6 [(0, .ref (a 8)), (1, .int x1), (2, .int x2)] := hl
  refine lv_aload_n hx hb dX3_fightFor_0 rfl (lv_at hl 0 rfl) ?_
  refine lv_iload_n hx hb dX3_fightFor_1 rfl (lv_at hl 2 rfl) ?_
  refine hcRi (As := [.int x2]) (rest := []) 0 4 ⟨hx, hb, hml, hown, hts⟩ (kX3_covererAt l D ca a u x2 ) (cwV 1 hts gX3_fightFor_X3_covererAt rfl rfl rfl (by decide +kernel) ⟨Nat.le_of_ble_eq_true rfl, Nat.le_of_ble_eq_true rfl⟩) hK hP rfl rfl rfl hl.1 rfl (Nat.le_of_ble_eq_true rfl) ⟨Nat.zero_le _, Nat.zero_le _⟩ dX3_fightFor_2 ?_
  refine lv_istore_n (lv' := [(3, .int (fX3_covererAt u x2)), (0, .ref (a 8)), (1, .int x1), (2, .int x2)]) hx hb dX3_fightFor_5 rfl hl (by decide) rfl (fun ls hl => ?_)
  refine lv_aload_n hx hb dX3_fightFor_6 rfl (lv_at hl 1 rfl) ?_
  refine lv_iload_n hx hb dX3_fightFor_7 rfl (lv_at hl 2 rfl) ?_
  refine lv_iload_n hx hb dX3_fightFor_8 rfl (lv_at hl 0 rfl) ?_
  refine hcRi (As := [.int x1, .int (fX3_covererAt u x2)]) (rest := []) 0 4 ⟨hx, hb, hml, hown, hts⟩ (kX3_isStronger l D ca a u x1 (fX3_covererAt u x2) hg (covererAt_in u x2)) (cwV 2 hts gX3_fightFor_X3_isStronger rfl rfl rfl (by decide +kernel) ⟨Nat.le_of_ble_eq_true rfl, Nat.le_of_ble_eq_true rfl⟩) hK hP rfl rfl rfl hl.1 rfl (Nat.le_of_ble_eq_true rfl) ⟨Nat.zero_le _, Nat.zero_le _⟩ dX3_fightFor_9 ?_
  refine lv_if_ne (tgt := 35) hx hb dX3_fightFor_12 (by decide) (fun c_12 => ?_) (fun c_12 => ?_)
  · have hf := hf.trans (if_neg c_12)
    refine lv_aload_n hx hb dX3_fightFor_35 rfl (lv_at hl 1 rfl) ?_
    refine va_get (D := D) (ci := 4) (v := .ref (a 0)) (C := RX3) (T := TX3) (N := 15) hx hb hts hin3 hown hK hP 0 rfl rfl 0 (by decide) (hts (.fieldLink RX3 9 "HatReservations$Hall" "feathers" "[I") (by decide +kernel)) (fun _ h9 => h9) rfl dX3_fightFor_36 ?_
    refine lv_iload_n hx hb dX3_fightFor_39 rfl (lv_at hl 2 rfl) ?_
    refine lv_dup2_11 hx hb dX3_fightFor_40 rfl rfl ?_
    refine va_iald (f := h0 u) hx hb hK hP 1 0 rfl rfl hg dX3_fightFor_41 ?_
    refine lv_aload_n hx hb dX3_fightFor_42 rfl (lv_at hl 1 rfl) ?_
    refine va_get (D := D) (ci := 4) (v := .ref (a 0)) (C := RX3) (T := TX3) (N := 15) hx hb hts hin3 hown hK hP 0 rfl rfl 0 (by decide) (hts (.fieldLink RX3 9 "HatReservations$Hall" "feathers" "[I") (by decide +kernel)) (fun _ h9 => h9) rfl dX3_fightFor_43 ?_
    refine lv_iload_n hx hb dX3_fightFor_46 rfl (lv_at hl 0 rfl) ?_
    refine va_iald (f := h0 u) hx hb hK hP 1 0 rfl rfl (isStronger_in (covererAt_in u x2) c_12) dX3_fightFor_47 ?_
    refine lv_isub hx hb dX3_fightFor_48 ?_
    refine va_iast (f := h0 u) hx hb hK hP hD hS 1 0 rfl rfl hg dX3_fightFor_49 (fun H locs hP hD hS => ?_)
    have hP : va_P D vwCl (HW ca a (s0 (upd (h0 u) x1.toNatClampNeg (((h0 u) x1.toNatClampNeg) - ((h0 u) (fX3_covererAt u x2).toNatClampNeg))) u)) H := hP
    have hD : va_D A (HW ca a (s0 (upd (h0 u) x1.toNatClampNeg (((h0 u) x1.toNatClampNeg) - ((h0 u) (fX3_covererAt u x2).toNatClampNeg))) u)) := hD
    refine lv_aload_n hx hb dX3_fightFor_50 rfl (lv_at hl 1 rfl) ?_
    refine lv_iload_n hx hb dX3_fightFor_51 rfl (lv_at hl 0 rfl) ?_
    refine lv_iload_n hx hb dX3_fightFor_52 rfl (lv_at hl 3 rfl) ?_
    refine hcMl (As := [.int (fX3_covererAt u x2), .int x2]) (rest := []) (wr := []) (F := fX3_loseChair (s0 (upd (h0 u) x1.toNatClampNeg (((h0 u) x1.toNatClampNeg) - ((h0 u) (fX3_covererAt u x2).toNatClampNeg))) u) (fX3_covererAt u x2) x2) 0 4 ⟨hx, hb, hml, hown, hts⟩ (kX3_loseChair l D ca a _ (s0 (upd (h0 u) x1.toNatClampNeg (((h0 u) x1.toNatClampNeg) - ((h0 u) (fX3_covererAt u x2).toNatClampNeg))) u) (fX3_covererAt u x2) x2 (isStronger_in (covererAt_in u x2) c_12)) (cwV 2 hts gX3_fightFor_X3_loseChair rfl rfl rfl (by decide +kernel) ⟨Nat.le_of_ble_eq_true rfl, Nat.le_of_ble_eq_true rfl⟩) hK hP hD hS hA (List.Perm.refl _) rfl rfl rfl hl.1 rfl (Nat.le_of_ble_eq_true rfl) ⟨Nat.zero_le _, Nat.zero_le _⟩ dX3_fightFor_53 (fun H locs hP hD hS => ?_)
    have hP : va_P D vwCl (HW ca a ((fX3_loseChair (s0 (upd (h0 u) x1.toNatClampNeg (((h0 u) x1.toNatClampNeg) - ((h0 u) (fX3_covererAt u x2).toNatClampNeg))) u) (fX3_covererAt u x2) x2).2)) H := hP
    have hD : va_D A (HW ca a ((fX3_loseChair (s0 (upd (h0 u) x1.toNatClampNeg (((h0 u) x1.toNatClampNeg) - ((h0 u) (fX3_covererAt u x2).toNatClampNeg))) u) (fX3_covererAt u x2) x2).2)) := hD
    refine lv_lstore (lv' := [(4, .long ((fX3_loseChair (s0 (upd (h0 u) x1.toNatClampNeg (((h0 u) x1.toNatClampNeg) - ((h0 u) (fX3_covererAt u x2).toNatClampNeg))) u) (fX3_covererAt u x2) x2).1)), (3, .int (fX3_covererAt u x2)), (0, .ref (a 8)), (1, .int x1), (2, .int x2)]) hx hb dX3_fightFor_56 hl (by decide) rfl (fun ls hl => ?_)
    refine lv_aload_n hx hb dX3_fightFor_58 rfl (lv_at hl 2 rfl) ?_
    refine lv_iload_n hx hb dX3_fightFor_59 rfl (lv_at hl 3 rfl) ?_
    refine lv_iload_n hx hb dX3_fightFor_60 rfl (lv_at hl 4 rfl) ?_
    refine hcMi (As := [.int x1, .int x2]) (rest := []) (wr := []) (F := fX3_putHat ((fX3_loseChair (s0 (upd (h0 u) x1.toNatClampNeg (((h0 u) x1.toNatClampNeg) - ((h0 u) (fX3_covererAt u x2).toNatClampNeg))) u) (fX3_covererAt u x2) x2).2) x1 x2) 0 4 ⟨hx, hb, hml, hown, hts⟩ (kX3_putHat l D ca a _ ((fX3_loseChair (s0 (upd (h0 u) x1.toNatClampNeg (((h0 u) x1.toNatClampNeg) - ((h0 u) (fX3_covererAt u x2).toNatClampNeg))) u) (fX3_covererAt u x2) x2).2) x1 x2 hg hch) (cwV 2 hts gX3_fightFor_X3_putHat rfl rfl rfl (by decide +kernel) ⟨Nat.le_of_ble_eq_true rfl, Nat.le_of_ble_eq_true rfl⟩) hK hP hD hS hA (List.Perm.refl _) rfl rfl rfl hl.1 rfl (Nat.le_of_ble_eq_true rfl) ⟨Nat.zero_le _, Nat.zero_le _⟩ dX3_fightFor_61 (fun H locs hP hD hS => ?_)
    have hP : va_P D vwCl (HW ca a ((fX3_putHat ((fX3_loseChair (s0 (upd (h0 u) x1.toNatClampNeg (((h0 u) x1.toNatClampNeg) - ((h0 u) (fX3_covererAt u x2).toNatClampNeg))) u) (fX3_covererAt u x2) x2).2) x1 x2).2)) H := hP
    have hD : va_D A (HW ca a ((fX3_putHat ((fX3_loseChair (s0 (upd (h0 u) x1.toNatClampNeg (((h0 u) x1.toNatClampNeg) - ((h0 u) (fX3_covererAt u x2).toNatClampNeg))) u) (fX3_covererAt u x2) x2).2) x1 x2).2)) := hD
    refine lv_pop hx hb dX3_fightFor_64 rfl ?_
    refine lv_aload_n hx hb dX3_fightFor_65 rfl (lv_at hl 2 rfl) ?_
    refine lv_dup hx hb dX3_fightFor_66 rfl ?_
    refine va_get (D := D) (ci := 4) (v := .int (h14 ((fX3_putHat ((fX3_loseChair (s0 (upd (h0 u) x1.toNatClampNeg (((h0 u) x1.toNatClampNeg) - ((h0 u) (fX3_covererAt u x2).toNatClampNeg))) u) (fX3_covererAt u x2) x2).2) x1 x2).2))) (C := RX3) (T := TX3) (N := 15) hx hb hts hin3 hown hK hP 0 rfl rfl 14 (by decide) (hts (.fieldLink RX3 56 "HatReservations$Hall" "won" "I") (by decide +kernel)) (fun _ h9 => h9) rfl dX3_fightFor_67 ?_
    refine lv_iconst (v := 1) hx hb dX3_fightFor_70 (by decide) ?_
    refine lv_iadd hx hb dX3_fightFor_71 ?_
    refine va_put (D := D) (ci := 4) (v := .int ((h14 ((fX3_putHat ((fX3_loseChair (s0 (upd (h0 u) x1.toNatClampNeg (((h0 u) x1.toNatClampNeg) - ((h0 u) (fX3_covererAt u x2).toNatClampNeg))) u) (fX3_covererAt u x2) x2).2) x1 x2).2)) + 1)) (ty := .int) (C := RX3) (T := TX3) (N := 15) hx hb hts hin3 tyX3 tyX3_ok nmX3 hown hK hP hD hS 0 rfl rfl 14 (by decide) (hts (.fieldLink RX3 56 "HatReservations$Hall" "won" "I") (by decide +kernel)) (fun _ h9 => h9) rfl (by decide +kernel) rfl rfl (Nat.le_of_ble_eq_true rfl) dX3_fightFor_72 (fun H locs hP hD hS => ?_)
    have hP : va_P D vwCl (HW ca a (s14 ((h14 ((fX3_putHat ((fX3_loseChair (s0 (upd (h0 u) x1.toNatClampNeg (((h0 u) x1.toNatClampNeg) - ((h0 u) (fX3_covererAt u x2).toNatClampNeg))) u) (fX3_covererAt u x2) x2).2) x1 x2).2)) + 1) ((fX3_putHat ((fX3_loseChair (s0 (upd (h0 u) x1.toNatClampNeg (((h0 u) x1.toNatClampNeg) - ((h0 u) (fX3_covererAt u x2).toNatClampNeg))) u) (fX3_covererAt u x2) x2).2) x1 x2).2))) H := hP
    have hD : va_D A (HW ca a (s14 ((h14 ((fX3_putHat ((fX3_loseChair (s0 (upd (h0 u) x1.toNatClampNeg (((h0 u) x1.toNatClampNeg) - ((h0 u) (fX3_covererAt u x2).toNatClampNeg))) u) (fX3_covererAt u x2) x2).2) x1 x2).2)) + 1) ((fX3_putHat ((fX3_loseChair (s0 (upd (h0 u) x1.toNatClampNeg (((h0 u) x1.toNatClampNeg) - ((h0 u) (fX3_covererAt u x2).toNatClampNeg))) u) (fX3_covererAt u x2) x2).2) x1 x2).2))) := hD
    refine lv_aload_n hx hb dX3_fightFor_75 rfl (lv_at hl 2 rfl) ?_
    refine lv_lload hx hb dX3_fightFor_76 (lv_at hl 0 rfl) ?_
    refine hcMv (As := [.long ((fX3_loseChair (s0 (upd (h0 u) x1.toNatClampNeg (((h0 u) x1.toNatClampNeg) - ((h0 u) (fX3_covererAt u x2).toNatClampNeg))) u) (fX3_covererAt u x2) x2).1)]) (rest := []) (wr := []) (F := fX3_offerChairs (s14 ((h14 ((fX3_putHat ((fX3_loseChair (s0 (upd (h0 u) x1.toNatClampNeg (((h0 u) x1.toNatClampNeg) - ((h0 u) (fX3_covererAt u x2).toNatClampNeg))) u) (fX3_covererAt u x2) x2).2) x1 x2).2)) + 1) ((fX3_putHat ((fX3_loseChair (s0 (upd (h0 u) x1.toNatClampNeg (((h0 u) x1.toNatClampNeg) - ((h0 u) (fX3_covererAt u x2).toNatClampNeg))) u) (fX3_covererAt u x2) x2).2) x1 x2).2)) ((fX3_loseChair (s0 (upd (h0 u) x1.toNatClampNeg (((h0 u) x1.toNatClampNeg) - ((h0 u) (fX3_covererAt u x2).toNatClampNeg))) u) (fX3_covererAt u x2) x2).1)) 0 4 ⟨hx, hb, hml, hown, hts⟩ (kX3_offerChairs l D ca a _ (s14 ((h14 ((fX3_putHat ((fX3_loseChair (s0 (upd (h0 u) x1.toNatClampNeg (((h0 u) x1.toNatClampNeg) - ((h0 u) (fX3_covererAt u x2).toNatClampNeg))) u) (fX3_covererAt u x2) x2).2) x1 x2).2)) + 1) ((fX3_putHat ((fX3_loseChair (s0 (upd (h0 u) x1.toNatClampNeg (((h0 u) x1.toNatClampNeg) - ((h0 u) (fX3_covererAt u x2).toNatClampNeg))) u) (fX3_covererAt u x2) x2).2) x1 x2).2)) ((fX3_loseChair (s0 (upd (h0 u) x1.toNatClampNeg (((h0 u) x1.toNatClampNeg) - ((h0 u) (fX3_covererAt u x2).toNatClampNeg))) u) (fX3_covererAt u x2) x2).1) ) (cwV 1 hts gX3_fightFor_X3_offerChairs rfl rfl rfl (by decide +kernel) ⟨Nat.le_of_ble_eq_true rfl, Nat.le_of_ble_eq_true rfl⟩) hK hP hD hS hA (List.Perm.refl _) rfl rfl rfl hl.1 rfl (Nat.le_of_ble_eq_true rfl) ⟨Nat.zero_le _, Nat.zero_le _⟩ dX3_fightFor_78 (fun H locs hP hD hS => ?_)
    have hP : va_P D vwCl (HW ca a (fX3_offerChairs (s14 ((h14 ((fX3_putHat ((fX3_loseChair (s0 (upd (h0 u) x1.toNatClampNeg (((h0 u) x1.toNatClampNeg) - ((h0 u) (fX3_covererAt u x2).toNatClampNeg))) u) (fX3_covererAt u x2) x2).2) x1 x2).2)) + 1) ((fX3_putHat ((fX3_loseChair (s0 (upd (h0 u) x1.toNatClampNeg (((h0 u) x1.toNatClampNeg) - ((h0 u) (fX3_covererAt u x2).toNatClampNeg))) u) (fX3_covererAt u x2) x2).2) x1 x2).2)) ((fX3_loseChair (s0 (upd (h0 u) x1.toNatClampNeg (((h0 u) x1.toNatClampNeg) - ((h0 u) (fX3_covererAt u x2).toNatClampNeg))) u) (fX3_covererAt u x2) x2).1))) H := hP
    have hD : va_D A (HW ca a (fX3_offerChairs (s14 ((h14 ((fX3_putHat ((fX3_loseChair (s0 (upd (h0 u) x1.toNatClampNeg (((h0 u) x1.toNatClampNeg) - ((h0 u) (fX3_covererAt u x2).toNatClampNeg))) u) (fX3_covererAt u x2) x2).2) x1 x2).2)) + 1) ((fX3_putHat ((fX3_loseChair (s0 (upd (h0 u) x1.toNatClampNeg (((h0 u) x1.toNatClampNeg) - ((h0 u) (fX3_covererAt u x2).toNatClampNeg))) u) (fX3_covererAt u x2) x2).2) x1 x2).2)) ((fX3_loseChair (s0 (upd (h0 u) x1.toNatClampNeg (((h0 u) x1.toNatClampNeg) - ((h0 u) (fX3_covererAt u x2).toNatClampNeg))) u) (fX3_covererAt u x2) x2).1))) := hD
    refine lv_iconst (v := 1) hx hb dX3_fightFor_81 (by decide) ?_
    exact W.zret (ty := .boolean) (v := 1) hx hb hr (by decide) (fun t ht hW => ⟨⟨1, fX3_offerChairs (s14 ((h14 ((fX3_putHat ((fX3_loseChair (s0 (upd (h0 u) x1.toNatClampNeg (((h0 u) x1.toNatClampNeg) - ((h0 u) (fX3_covererAt u x2).toNatClampNeg))) u) (fX3_covererAt u x2) x2).2) x1 x2).2)) + 1) ((fX3_putHat ((fX3_loseChair (s0 (upd (h0 u) x1.toNatClampNeg (((h0 u) x1.toNatClampNeg) - ((h0 u) (fX3_covererAt u x2).toNatClampNeg))) u) (fX3_covererAt u x2) x2).2) x1 x2).2)) ((fX3_loseChair (s0 (upd (h0 u) x1.toNatClampNeg (((h0 u) x1.toNatClampNeg) - ((h0 u) (fX3_covererAt u x2).toNatClampNeg))) u) (fX3_covererAt u x2) x2).1), rfl, hf.symm, by rw [ht]; exact hP, va_K.moved hW.alike hK, hD⟩, hS.F ht⟩) hS.2.2 dX3_fightFor_82
  · have hf := hf.trans (if_pos c_12)
    refine lv_aload_n hx hb dX3_fightFor_15 rfl (lv_at hl 1 rfl) ?_
    refine va_get (D := D) (ci := 4) (v := .ref (a 0)) (C := RX3) (T := TX3) (N := 15) hx hb hts hin3 hown hK hP 0 rfl rfl 0 (by decide) (hts (.fieldLink RX3 9 "HatReservations$Hall" "feathers" "[I") (by decide +kernel)) (fun _ h9 => h9) rfl dX3_fightFor_16 ?_
    refine lv_iload_n hx hb dX3_fightFor_19 rfl (lv_at hl 2 rfl) ?_
    refine lv_iconst (v := 0) hx hb dX3_fightFor_20 (by decide) ?_
    refine lv_aload_n hx hb dX3_fightFor_21 rfl (lv_at hl 1 rfl) ?_
    refine va_get (D := D) (ci := 4) (v := .ref (a 0)) (C := RX3) (T := TX3) (N := 15) hx hb hts hin3 hown hK hP 0 rfl rfl 0 (by decide) (hts (.fieldLink RX3 9 "HatReservations$Hall" "feathers" "[I") (by decide +kernel)) (fun _ h9 => h9) rfl dX3_fightFor_22 ?_
    refine lv_iload_n hx hb dX3_fightFor_25 rfl (lv_at hl 2 rfl) ?_
    refine va_iald (f := h0 u) hx hb hK hP 1 0 rfl rfl hg dX3_fightFor_26 ?_
    refine lv_iconst (v := 1) hx hb dX3_fightFor_27 (by decide) ?_
    refine lv_isub hx hb dX3_fightFor_28 ?_
    refine va_mmax hx hb (by rw [hml]; exact hl.1.symm) hown (hts (.methodLink RX3 125 Lib.Math.max.name) (by decide +kernel)) (hts (.static Lib.Math.max.name) (by decide +kernel)) (hts (.initialized "java/lang/Math") (by decide +kernel)) (hts (.code Lib.Math.max.name Lib.Math.max.code 2 (some .int)) (by decide +kernel)) (Nat.le_of_ble_eq_true rfl) (Nat.le_of_ble_eq_true rfl) (Nat.zero_le _) (Nat.zero_le _) dX3_fightFor_29 ?_
    refine va_iast (f := h0 u) hx hb hK hP hD hS 1 0 rfl rfl hg dX3_fightFor_32 (fun H locs hP hD hS => ?_)
    have hP : va_P D vwCl (HW ca a (s0 (upd (h0 u) x1.toNatClampNeg (if 0 < ((h0 u) x1.toNatClampNeg) - 1 then ((h0 u) x1.toNatClampNeg) - 1 else 0)) u)) H := hP
    have hD : va_D A (HW ca a (s0 (upd (h0 u) x1.toNatClampNeg (if 0 < ((h0 u) x1.toNatClampNeg) - 1 then ((h0 u) x1.toNatClampNeg) - 1 else 0)) u)) := hD
    refine lv_iconst (v := 0) hx hb dX3_fightFor_33 (by decide) ?_
    exact W.zret (ty := .boolean) (v := 0) hx hb hr (by decide) (fun t ht hW => ⟨⟨0, s0 (upd (h0 u) x1.toNatClampNeg (if 0 < ((h0 u) x1.toNatClampNeg) - 1 then ((h0 u) x1.toNatClampNeg) - 1 else 0)) u, rfl, hf.symm, by rw [ht]; exact hP, va_K.moved hW.alike hK, hD⟩, hS.F ht⟩) hS.2.2 dX3_fightFor_34
def fX3_sweepHats_8 : Nat → Nat → HS → Int32 → Int64 → Int32 → Int32 × HS
  | 0, k, v, x1, y2, y4 => (y4, fX3_offerChairs (s11 ((h11 v) + y4) v) y2)
  | n + 1, k, v, x1, y2, y4 => (if (fX3_hatIsPlaced v (nI k)) = 0 then fX3_sweepHats_8 n (k + 1) v x1 y2 y4 else (if (fX3_idleTime v (nI k)) < x1 then fX3_sweepHats_8 n (k + 1) v x1 y2 y4 else fX3_sweepHats_8 n (k + 1) ((fX3_liftHat v (nI k)).2) x1 (y2 ||| ((fX3_liftHat v (nI k)).1)) (y4 + 1)))
def fX3_sweepHats (u : HS) (x1 : Int32) : Int32 × HS :=
  fX3_sweepHats_8 8 0 u x1 0 0
set_option maxHeartbeats 4000000 in
set_option maxRecDepth 100000 in
/-- sweepHats -/
theorem kX3_sweepHats (l : Launch) (D : va_G) (ca : Nat → ClassId) (a : Nat → Nat) (sz : Nat) (u : HS) (x1 : Int32) : Met l yX3_sweepHats wsX3_sweepHats ({ frames := 4, cells := 0, slots := 0, locals := 101 }) (MPc D ca sz (HW ca a u) [.ref (a 8), .int x1]) (va_Qi (fun r v => (r, v) = fX3_sweepHats u x1) (MB D ca (va_A (HW ca a u) sz) (HW ca a)) (va_A (HW ca a u) sz)) 0 0 (va_A (HW ca a u) sz) := by
  refine Met.ofW (cc := cX3_sweepHats) (maxL := 6) (ret := (some .int)) (by decide) rfl ?_
  intro p e s m args below meth c s₁ B hml hv
  obtain ⟨rfl, hsz, hP, hK, hD0⟩ := hv
  have hx := B.exec
  have hb := B.bytes
  have hr := B.returns
  have hts := atoms_spec (ws := wsX3_sweepHats) B.pre
  have hown : s.vm.findClass RX3 = some m.cls := findClass_of_methodNamed B.named
  have hlocks := B.notSynchronized
  have hin3 : ∀ w ∈ wsX30, w ∈ wsX3_sweepHats := by decide +kernel
  subst hsz
  have hD := hD0.self (sz := s.heap.size)
  generalize hAe : va_A (HW ca a u) s.heap.size = A at hD ⊢
  have hA : ∀ q : Nat, s.heap.size ≤ q → A q := fun q h => by rw [← hAe]; exact Or.inr h
  have hS : va_S A s.heap s.heap [] := va_S.rf
  have cut_8 : ∀ (n k : Nat) (hnk : n + k = 8) (y2 : Int64) (y4 : Int32) (v : HS) (H : Heap) (locs : List Loc) (hP : va_P D vwCl (HW ca a v) H) (hD : va_D A (HW ca a v)) (hS : va_S A s.heap H locs) (hf : fX3_sweepHats u x1 = fX3_sweepHats_8 n k v x1 y2 y4) (ls : Array Slot) (hl : lv_has ls 6 [(0, .ref (a 8)), (1, .int x1), (2, .long y2), (4, .int y4), (5, .int (nI k))]), W p l e (headSpec wsX3_sweepHats ({ frames := 4, cells := 0, slots := 0, locals := 101 })).room s m ([.ref (a 8), .int x1] : List Value).toArray below meth c H locs 0 0 (MQ below (va_Qi (fun r v => (r, v) = fX3_sweepHats u x1) (MB D ca A (HW ca a)) A) ([.ref (a 8), .int x1] : List Value).toArray s 0 0 A) (F0 m 8 ls []) := by
    intro n
    induction n with
    | zero =>
      intro k hnk y2 y4 v H locs hP hD hS hf ls hl
      obtain rfl : k = 8 := by omega
      refine lv_iload hx hb dX3_sweepHats_8 (lv_at hl 4 rfl) ?_
      refine lv_bipush (v := 8) hx hb dX3_sweepHats_10 (by decide) ?_
      refine lv_icmp_ge (tgt := 52) hx hb dX3_sweepHats_12 (by decide) (fun _ => ?_) (fun q => absurd (by decide) q)
      refine lv_aload_n hx hb dX3_sweepHats_52 rfl (lv_at hl 0 rfl) ?_
      refine lv_dup hx hb dX3_sweepHats_53 rfl ?_
      refine va_get (D := D) (ci := 4) (v := .int (h11 v)) (C := RX3) (T := TX3) (N := 15) hx hb hts hin3 hown hK hP 0 rfl rfl 11 (by decide) (hts (.fieldLink RX3 47 "HatReservations$Hall" "swept" "I") (by decide +kernel)) (fun _ h9 => h9) rfl dX3_sweepHats_54 ?_
      refine lv_iload hx hb dX3_sweepHats_57 (lv_at hl 3 rfl) ?_
      refine lv_iadd hx hb dX3_sweepHats_59 ?_
      refine va_put (D := D) (ci := 4) (v := .int ((h11 v) + y4)) (ty := .int) (C := RX3) (T := TX3) (N := 15) hx hb hts hin3 tyX3 tyX3_ok nmX3 hown hK hP hD hS 0 rfl rfl 11 (by decide) (hts (.fieldLink RX3 47 "HatReservations$Hall" "swept" "I") (by decide +kernel)) (fun _ h9 => h9) rfl (by decide +kernel) rfl rfl (Nat.le_of_ble_eq_true rfl) dX3_sweepHats_60 (fun H locs hP hD hS => ?_)
      have hP : va_P D vwCl (HW ca a (s11 ((h11 v) + y4) v)) H := hP
      have hD : va_D A (HW ca a (s11 ((h11 v) + y4) v)) := hD
      refine lv_aload_n hx hb dX3_sweepHats_63 rfl (lv_at hl 0 rfl) ?_
      refine lv_lload_n hx hb dX3_sweepHats_64 rfl (lv_at hl 2 rfl) ?_
      refine hcMv (As := [.long y2]) (rest := []) (wr := []) (F := fX3_offerChairs (s11 ((h11 v) + y4) v) y2) 0 4 ⟨hx, hb, hml, hown, hts⟩ (kX3_offerChairs l D ca a _ (s11 ((h11 v) + y4) v) y2 ) (cwV 1 hts gX3_sweepHats_X3_offerChairs rfl rfl rfl (by decide +kernel) ⟨Nat.le_of_ble_eq_true rfl, Nat.le_of_ble_eq_true rfl⟩) hK hP hD hS hA (List.Perm.refl _) rfl rfl rfl hl.1 rfl (Nat.le_of_ble_eq_true rfl) ⟨Nat.zero_le _, Nat.zero_le _⟩ dX3_sweepHats_65 (fun H locs hP hD hS => ?_)
      have hP : va_P D vwCl (HW ca a (fX3_offerChairs (s11 ((h11 v) + y4) v) y2)) H := hP
      have hD : va_D A (HW ca a (fX3_offerChairs (s11 ((h11 v) + y4) v) y2)) := hD
      refine lv_iload hx hb dX3_sweepHats_68 (lv_at hl 3 rfl) ?_
      exact W.iret (v := y4) hx hb hr (fun t ht hW => ⟨⟨y4, fX3_offerChairs (s11 ((h11 v) + y4) v) y2, rfl, hf.symm, by rw [ht]; exact hP, va_K.moved hW.alike hK, hD⟩, hS.F ht⟩) hS.2.2 dX3_sweepHats_70
    | succ n ih =>
      intro k hnk y2 y4 v H locs hP hD hS hf ls hl
      refine lv_iload hx hb dX3_sweepHats_8 (lv_at hl 4 rfl) ?_
      refine lv_bipush (v := 8) hx hb dX3_sweepHats_10 (by decide) ?_
      refine lv_icmp_ge (tgt := 52) hx hb dX3_sweepHats_12 (by decide) (fun q => absurd q (show ¬ (8 : Int32) ≤ nI k from nI_ge (b := 8) (by omega) (by decide))) (fun _ => ?_)
      refine lv_aload_n hx hb dX3_sweepHats_15 rfl (lv_at hl 0 rfl) ?_
      refine lv_iload hx hb dX3_sweepHats_16 (lv_at hl 4 rfl) ?_
      refine hcRi (As := [.int (nI k)]) (rest := []) 0 4 ⟨hx, hb, hml, hown, hts⟩ (kX3_hatIsPlaced l D ca a v (nI k) (vp_in_nI (by omega) (by decide))) (cwV 1 hts gX3_sweepHats_X3_hatIsPlaced rfl rfl rfl (by decide +kernel) ⟨Nat.le_of_ble_eq_true rfl, Nat.le_of_ble_eq_true rfl⟩) hK hP rfl rfl rfl hl.1 rfl (Nat.le_of_ble_eq_true rfl) ⟨Nat.zero_le _, Nat.zero_le _⟩ dX3_sweepHats_18 ?_
      refine lv_if_eq (tgt := 46) hx hb dX3_sweepHats_21 (by decide) (fun c_21 => ?_) (fun c_21 => ?_)
      · have hf := hf.trans (if_pos c_21)
        refine lv_iinc (v := nI (k + 1)) (lv' := [(5, .int (nI (k + 1))), (0, .ref (a 8)), (1, .int x1), (2, .long y2), (4, .int y4)]) hx hb dX3_sweepHats_46 hl (k := 4) rfl (nI_1 k) (by decide) rfl (fun ls hl => ?_)
        refine lv_goto (tgt := 8) hx hb dX3_sweepHats_49 (by decide) ?_
        exact ih (k + 1) (by omega) y2 y4  v _ _ hP hD hS hf ls (lv_sub hl [1, 2, 3, 4, 0] rfl)
      · have hf := hf.trans (if_neg c_21)
        refine lv_aload_n hx hb dX3_sweepHats_24 rfl (lv_at hl 0 rfl) ?_
        refine lv_iload hx hb dX3_sweepHats_25 (lv_at hl 4 rfl) ?_
        refine hcRi (As := [.int (nI k)]) (rest := []) 0 4 ⟨hx, hb, hml, hown, hts⟩ (kX3_idleTime l D ca a v (nI k) (vp_in_nI (by omega) (by decide))) (cwV 1 hts gX3_sweepHats_X3_idleTime rfl rfl rfl (by decide +kernel) ⟨Nat.le_of_ble_eq_true rfl, Nat.le_of_ble_eq_true rfl⟩) hK hP rfl rfl rfl hl.1 rfl (Nat.le_of_ble_eq_true rfl) ⟨Nat.zero_le _, Nat.zero_le _⟩ dX3_sweepHats_27 ?_
        refine lv_iload_n hx hb dX3_sweepHats_30 rfl (lv_at hl 1 rfl) ?_
        refine lv_icmp_lt (tgt := 46) hx hb dX3_sweepHats_31 (by decide) (fun c_31 => ?_) (fun c_31 => ?_)
        · have hf := hf.trans (if_pos c_31)
          refine lv_iinc (v := nI (k + 1)) (lv' := [(5, .int (nI (k + 1))), (0, .ref (a 8)), (1, .int x1), (2, .long y2), (4, .int y4)]) hx hb dX3_sweepHats_46 hl (k := 4) rfl (nI_1 k) (by decide) rfl (fun ls hl => ?_)
          refine lv_goto (tgt := 8) hx hb dX3_sweepHats_49 (by decide) ?_
          exact ih (k + 1) (by omega) y2 y4  v _ _ hP hD hS hf ls (lv_sub hl [1, 2, 3, 4, 0] rfl)
        · have hf := hf.trans (if_neg c_31)
          refine lv_lload_n hx hb dX3_sweepHats_34 rfl (lv_at hl 2 rfl) ?_
          refine lv_aload_n hx hb dX3_sweepHats_35 rfl (lv_at hl 0 rfl) ?_
          refine lv_iload hx hb dX3_sweepHats_36 (lv_at hl 4 rfl) ?_
          refine hcMl (As := [.int (nI k)]) (rest := [.long y2]) (wr := []) (F := fX3_liftHat v (nI k)) 0 4 ⟨hx, hb, hml, hown, hts⟩ (kX3_liftHat l D ca a _ v (nI k) (vp_in_nI (by omega) (by decide))) (cwV 1 hts gX3_sweepHats_X3_liftHat rfl rfl rfl (by decide +kernel) ⟨Nat.le_of_ble_eq_true rfl, Nat.le_of_ble_eq_true rfl⟩) hK hP hD hS hA (List.Perm.refl _) rfl rfl rfl hl.1 rfl (Nat.le_of_ble_eq_true rfl) ⟨Nat.zero_le _, Nat.zero_le _⟩ dX3_sweepHats_38 (fun H locs hP hD hS => ?_)
          have hP : va_P D vwCl (HW ca a ((fX3_liftHat v (nI k)).2)) H := hP
          have hD : va_D A (HW ca a ((fX3_liftHat v (nI k)).2)) := hD
          refine lv_lor hx hb dX3_sweepHats_41 ?_
          refine lv_lstore_n (lv' := [(2, .long (y2 ||| ((fX3_liftHat v (nI k)).1))), (0, .ref (a 8)), (1, .int x1), (4, .int y4), (5, .int (nI k))]) hx hb dX3_sweepHats_42 rfl hl (by decide) rfl (fun ls hl => ?_)
          refine lv_iinc (v := y4 + 1) (lv' := [(4, .int (y4 + 1)), (2, .long (y2 ||| ((fX3_liftHat v (nI k)).1))), (0, .ref (a 8)), (1, .int x1), (5, .int (nI k))]) hx hb dX3_sweepHats_43 hl (k := 3) rfl rfl (by decide) rfl (fun ls hl => ?_)
          refine lv_iinc (v := nI (k + 1)) (lv' := [(5, .int (nI (k + 1))), (4, .int (y4 + 1)), (2, .long (y2 ||| ((fX3_liftHat v (nI k)).1))), (0, .ref (a 8)), (1, .int x1)]) hx hb dX3_sweepHats_46 hl (k := 4) rfl (nI_1 k) (by decide) rfl (fun ls hl => ?_)
          refine lv_goto (tgt := 8) hx hb dX3_sweepHats_49 (by decide) ?_
          exact ih (k + 1) (by omega) (y2 ||| ((fX3_liftHat v (nI k)).1)) (y4 + 1)  ((fX3_liftHat v (nI k)).2) _ _ hP hD hS hf ls (lv_sub hl [3, 4, 2, 1, 0] rfl)
  have hf : fX3_sweepHats u x1 = fX3_sweepHats u x1 := rfl
  refine W_entry (Nat.le_of_ble_eq_true rfl) (fun ls hl => ?_)
  have hl : lv_has ls 6 [(0, .ref (a 8)), (1, .int x1)] := hl
  refine lv_lconst (v := 0) hx hb dX3_sweepHats_0 (by decide) ?_
  refine lv_lstore_n (lv' := [(2, .long 0), (0, .ref (a 8)), (1, .int x1)]) hx hb dX3_sweepHats_1 rfl hl (by decide) rfl (fun ls hl => ?_)
  refine lv_iconst (v := 0) hx hb dX3_sweepHats_2 (by decide) ?_
  refine lv_istore (lv' := [(4, .int 0), (2, .long 0), (0, .ref (a 8)), (1, .int x1)]) hx hb dX3_sweepHats_3 hl (by decide) rfl (fun ls hl => ?_)
  refine lv_iconst (v := 0) hx hb dX3_sweepHats_5 (by decide) ?_
  refine lv_istore (lv' := [(5, .int 0), (4, .int 0), (2, .long 0), (0, .ref (a 8)), (1, .int x1)]) hx hb dX3_sweepHats_6 hl (by decide) rfl (fun ls hl => ?_)
  exact cut_8 8 0 (by omega) 0 0  u _ _ hP hD hS hf ls (lv_sub hl [3, 4, 2, 1, 0] rfl)
