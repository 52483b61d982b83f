def fJ13_bitCount_95d88 (x1 : Int64) : Int32 :=
  ((((((((((x1 - ((ush x1 1) &&& 6148914691236517205)) &&& 3689348814741910323) + ((ush (x1 - ((ush x1 1) &&& 6148914691236517205)) 2) &&& 3689348814741910323)) + (ush (((x1 - ((ush x1 1) &&& 6148914691236517205)) &&& 3689348814741910323) + ((ush (x1 - ((ush x1 1) &&& 6148914691236517205)) 2) &&& 3689348814741910323)) 4)) &&& 1085102592571150095) + (ush (((((x1 - ((ush x1 1) &&& 6148914691236517205)) &&& 3689348814741910323) + ((ush (x1 - ((ush x1 1) &&& 6148914691236517205)) 2) &&& 3689348814741910323)) + (ush (((x1 - ((ush x1 1) &&& 6148914691236517205)) &&& 3689348814741910323) + ((ush (x1 - ((ush x1 1) &&& 6148914691236517205)) 2) &&& 3689348814741910323)) 4)) &&& 1085102592571150095) 8)) + (ush ((((((x1 - ((ush x1 1) &&& 6148914691236517205)) &&& 3689348814741910323) + ((ush (x1 - ((ush x1 1) &&& 6148914691236517205)) 2) &&& 3689348814741910323)) + (ush (((x1 - ((ush x1 1) &&& 6148914691236517205)) &&& 3689348814741910323) + ((ush (x1 - ((ush x1 1) &&& 6148914691236517205)) 2) &&& 3689348814741910323)) 4)) &&& 1085102592571150095) + (ush (((((x1 - ((ush x1 1) &&& 6148914691236517205)) &&& 3689348814741910323) + ((ush (x1 - ((ush x1 1) &&& 6148914691236517205)) 2) &&& 3689348814741910323)) + (ush (((x1 - ((ush x1 1) &&& 6148914691236517205)) &&& 3689348814741910323) + ((ush (x1 - ((ush x1 1) &&& 6148914691236517205)) 2) &&& 3689348814741910323)) 4)) &&& 1085102592571150095) 8)) 16)) + (ush (((((((x1 - ((ush x1 1) &&& 6148914691236517205)) &&& 3689348814741910323) + ((ush (x1 - ((ush x1 1) &&& 6148914691236517205)) 2) &&& 3689348814741910323)) + (ush (((x1 - ((ush x1 1) &&& 6148914691236517205)) &&& 3689348814741910323) + ((ush (x1 - ((ush x1 1) &&& 6148914691236517205)) 2) &&& 3689348814741910323)) 4)) &&& 1085102592571150095) + (ush (((((x1 - ((ush x1 1) &&& 6148914691236517205)) &&& 3689348814741910323) + ((ush (x1 - ((ush x1 1) &&& 6148914691236517205)) 2) &&& 3689348814741910323)) + (ush (((x1 - ((ush x1 1) &&& 6148914691236517205)) &&& 3689348814741910323) + ((ush (x1 - ((ush x1 1) &&& 6148914691236517205)) 2) &&& 3689348814741910323)) 4)) &&& 1085102592571150095) 8)) + (ush ((((((x1 - ((ush x1 1) &&& 6148914691236517205)) &&& 3689348814741910323) + ((ush (x1 - ((ush x1 1) &&& 6148914691236517205)) 2) &&& 3689348814741910323)) + (ush (((x1 - ((ush x1 1) &&& 6148914691236517205)) &&& 3689348814741910323) + ((ush (x1 - ((ush x1 1) &&& 6148914691236517205)) 2) &&& 3689348814741910323)) 4)) &&& 1085102592571150095) + (ush (((((x1 - ((ush x1 1) &&& 6148914691236517205)) &&& 3689348814741910323) + ((ush (x1 - ((ush x1 1) &&& 6148914691236517205)) 2) &&& 3689348814741910323)) + (ush (((x1 - ((ush x1 1) &&& 6148914691236517205)) &&& 3689348814741910323) + ((ush (x1 - ((ush x1 1) &&& 6148914691236517205)) 2) &&& 3689348814741910323)) 4)) &&& 1085102592571150095) 8)) 16)) 32)).toInt32) &&& 127)
set_option maxHeartbeats 4000000 in
set_option maxRecDepth 100000 in
/-- Long.bitCount -/
theorem kJ13_bitCount_95d88 (l : Launch) (x1 : Int64) : Met l yJ13_bitCount_95d88 wsJ13_bitCount_95d88 ({ frames := 0, cells := 0, slots := 0, locals := 0 }) (va_Pc [.long x1] (fun _ => True)) (vp_Si (fun r => r = fJ13_bitCount_95d88 x1)) 0 0 (fun _ => False) := by
  refine Met.ofW (cc := cJ13_bitCount_95d88) (maxL := 2) (ret := (some .int)) (by decide) rfl ?_
  intro p e s m args below meth c s₁ B hml hv
  obtain ⟨rfl, -⟩ := hv
  have hx := B.exec
  have hb := B.bytes
  have hr := B.returns
  have hts := atoms_spec (ws := wsJ13_bitCount_95d88) B.pre
  have hown : s.vm.findClass RJ13 = some m.cls := findClass_of_methodNamed B.named
  have hlocks := B.notSynchronized
  have hf : fJ13_bitCount_95d88 x1 = fJ13_bitCount_95d88 x1 := rfl
  refine W_entry (Nat.le_of_ble_eq_true rfl) (fun ls hl => ?_)
  have hl : lv_has ls 2 [(0, .long x1)] := hl
  refine lv_lload_n hx hb dJ13_bitCount_95d88_0 rfl (lv_at hl 0 rfl) ?_
  refine lv_lload_n hx hb dJ13_bitCount_95d88_1 rfl (lv_at hl 0 rfl) ?_
  refine lv_iconst (v := 1) hx hb dJ13_bitCount_95d88_2 (by decide) ?_
  refine lv_lushr (v := ush x1 1) hx hb dJ13_bitCount_95d88_3 rfl ?_
  refine lv_ldc2 (v := 6148914691236517205) hx hb hown (hts (.constantLong RJ13 314 (6148914691236517205)) (by decide +kernel)) dJ13_bitCount_95d88_4 ?_
  refine lv_land hx hb dJ13_bitCount_95d88_7 ?_
  refine lv_lsub hx hb dJ13_bitCount_95d88_8 ?_
  refine lv_lstore_n (lv' := [(0, .long (x1 - ((ush x1 1) &&& 6148914691236517205)))]) hx hb dJ13_bitCount_95d88_9 rfl hl (by decide) rfl (fun ls hl => ?_)
  refine lv_lload_n hx hb dJ13_bitCount_95d88_10 rfl (lv_at hl 0 rfl) ?_
  refine lv_ldc2 (v := 3689348814741910323) hx hb hown (hts (.constantLong RJ13 316 (3689348814741910323)) (by decide +kernel)) dJ13_bitCount_95d88_11 ?_
  refine lv_land hx hb dJ13_bitCount_95d88_14 ?_
  refine lv_lload_n hx hb dJ13_bitCount_95d88_15 rfl (lv_at hl 0 rfl) ?_
  refine lv_iconst (v := 2) hx hb dJ13_bitCount_95d88_16 (by decide) ?_
  refine lv_lushr (v := ush (x1 - ((ush x1 1) &&& 6148914691236517205)) 2) hx hb dJ13_bitCount_95d88_17 rfl ?_
  refine lv_ldc2 (v := 3689348814741910323) hx hb hown (hts (.constantLong RJ13 316 (3689348814741910323)) (by decide +kernel)) dJ13_bitCount_95d88_18 ?_
  refine lv_land hx hb dJ13_bitCount_95d88_21 ?_
  refine lv_ladd hx hb dJ13_bitCount_95d88_22 ?_
  refine lv_lstore_n (lv' := [(0, .long (((x1 - ((ush x1 1) &&& 6148914691236517205)) &&& 3689348814741910323) + ((ush (x1 - ((ush x1 1) &&& 6148914691236517205)) 2) &&& 3689348814741910323)))]) hx hb dJ13_bitCount_95d88_23 rfl hl (by decide) rfl (fun ls hl => ?_)
  refine lv_lload_n hx hb dJ13_bitCount_95d88_24 rfl (lv_at hl 0 rfl) ?_
  refine lv_lload_n hx hb dJ13_bitCount_95d88_25 rfl (lv_at hl 0 rfl) ?_
  refine lv_iconst (v := 4) hx hb dJ13_bitCount_95d88_26 (by decide) ?_
  refine lv_lushr (v := ush (((x1 - ((ush x1 1) &&& 6148914691236517205)) &&& 3689348814741910323) + ((ush (x1 - ((ush x1 1) &&& 6148914691236517205)) 2) &&& 3689348814741910323)) 4) hx hb dJ13_bitCount_95d88_27 rfl ?_
  refine lv_ladd hx hb dJ13_bitCount_95d88_28 ?_
  refine lv_ldc2 (v := 1085102592571150095) hx hb hown (hts (.constantLong RJ13 318 (1085102592571150095)) (by decide +kernel)) dJ13_bitCount_95d88_29 ?_
  refine lv_land hx hb dJ13_bitCount_95d88_32 ?_
  refine lv_lstore_n (lv' := [(0, .long (((((x1 - ((ush x1 1) &&& 6148914691236517205)) &&& 3689348814741910323) + ((ush (x1 - ((ush x1 1) &&& 6148914691236517205)) 2) &&& 3689348814741910323)) + (ush (((x1 - ((ush x1 1) &&& 6148914691236517205)) &&& 3689348814741910323) + ((ush (x1 - ((ush x1 1) &&& 6148914691236517205)) 2) &&& 3689348814741910323)) 4)) &&& 1085102592571150095))]) hx hb dJ13_bitCount_95d88_33 rfl hl (by decide) rfl (fun ls hl => ?_)
  refine lv_lload_n hx hb dJ13_bitCount_95d88_34 rfl (lv_at hl 0 rfl) ?_
  refine lv_lload_n hx hb dJ13_bitCount_95d88_35 rfl (lv_at hl 0 rfl) ?_
  refine lv_bipush (v := 8) hx hb dJ13_bitCount_95d88_36 (by decide) ?_
  refine lv_lushr (v := ush (((((x1 - ((ush x1 1) &&& 6148914691236517205)) &&& 3689348814741910323) + ((ush (x1 - ((ush x1 1) &&& 6148914691236517205)) 2) &&& 3689348814741910323)) + (ush (((x1 - ((ush x1 1) &&& 6148914691236517205)) &&& 3689348814741910323) + ((ush (x1 - ((ush x1 1) &&& 6148914691236517205)) 2) &&& 3689348814741910323)) 4)) &&& 1085102592571150095) 8) hx hb dJ13_bitCount_95d88_38 rfl ?_
  refine lv_ladd hx hb dJ13_bitCount_95d88_39 ?_
  refine lv_lstore_n (lv' := [(0, .long ((((((x1 - ((ush x1 1) &&& 6148914691236517205)) &&& 3689348814741910323) + ((ush (x1 - ((ush x1 1) &&& 6148914691236517205)) 2) &&& 3689348814741910323)) + (ush (((x1 - ((ush x1 1) &&& 6148914691236517205)) &&& 3689348814741910323) + ((ush (x1 - ((ush x1 1) &&& 6148914691236517205)) 2) &&& 3689348814741910323)) 4)) &&& 1085102592571150095) + (ush (((((x1 - ((ush x1 1) &&& 6148914691236517205)) &&& 3689348814741910323) + ((ush (x1 - ((ush x1 1) &&& 6148914691236517205)) 2) &&& 3689348814741910323)) + (ush (((x1 - ((ush x1 1) &&& 6148914691236517205)) &&& 3689348814741910323) + ((ush (x1 - ((ush x1 1) &&& 6148914691236517205)) 2) &&& 3689348814741910323)) 4)) &&& 1085102592571150095) 8)))]) hx hb dJ13_bitCount_95d88_40 rfl hl (by decide) rfl (fun ls hl => ?_)
  refine lv_lload_n hx hb dJ13_bitCount_95d88_41 rfl (lv_at hl 0 rfl) ?_
  refine lv_lload_n hx hb dJ13_bitCount_95d88_42 rfl (lv_at hl 0 rfl) ?_
  refine lv_bipush (v := 16) hx hb dJ13_bitCount_95d88_43 (by decide) ?_
  refine lv_lushr (v := ush ((((((x1 - ((ush x1 1) &&& 6148914691236517205)) &&& 3689348814741910323) + ((ush (x1 - ((ush x1 1) &&& 6148914691236517205)) 2) &&& 3689348814741910323)) + (ush (((x1 - ((ush x1 1) &&& 6148914691236517205)) &&& 3689348814741910323) + ((ush (x1 - ((ush x1 1) &&& 6148914691236517205)) 2) &&& 3689348814741910323)) 4)) &&& 1085102592571150095) + (ush (((((x1 - ((ush x1 1) &&& 6148914691236517205)) &&& 3689348814741910323) + ((ush (x1 - ((ush x1 1) &&& 6148914691236517205)) 2) &&& 3689348814741910323)) + (ush (((x1 - ((ush x1 1) &&& 6148914691236517205)) &&& 3689348814741910323) + ((ush (x1 - ((ush x1 1) &&& 6148914691236517205)) 2) &&& 3689348814741910323)) 4)) &&& 1085102592571150095) 8)) 16) hx hb dJ13_bitCount_95d88_45 rfl ?_
  refine lv_ladd hx hb dJ13_bitCount_95d88_46 ?_
  refine lv_lstore_n (lv' := [(0, .long (((((((x1 - ((ush x1 1) &&& 6148914691236517205)) &&& 3689348814741910323) + ((ush (x1 - ((ush x1 1) &&& 6148914691236517205)) 2) &&& 3689348814741910323)) + (ush (((x1 - ((ush x1 1) &&& 6148914691236517205)) &&& 3689348814741910323) + ((ush (x1 - ((ush x1 1) &&& 6148914691236517205)) 2) &&& 3689348814741910323)) 4)) &&& 1085102592571150095) + (ush (((((x1 - ((ush x1 1) &&& 6148914691236517205)) &&& 3689348814741910323) + ((ush (x1 - ((ush x1 1) &&& 6148914691236517205)) 2) &&& 3689348814741910323)) + (ush (((x1 - ((ush x1 1) &&& 6148914691236517205)) &&& 3689348814741910323) + ((ush (x1 - ((ush x1 1) &&& 6148914691236517205)) 2) &&& 3689348814741910323)) 4)) &&& 1085102592571150095) 8)) + (ush ((((((x1 - ((ush x1 1) &&& 6148914691236517205)) &&& 3689348814741910323) + ((ush (x1 - ((ush x1 1) &&& 6148914691236517205)) 2) &&& 3689348814741910323)) + (ush (((x1 - ((ush x1 1) &&& 6148914691236517205)) &&& 3689348814741910323) + ((ush (x1 - ((ush x1 1) &&& 6148914691236517205)) 2) &&& 3689348814741910323)) 4)) &&& 1085102592571150095) + (ush (((((x1 - ((ush x1 1) &&& 6148914691236517205)) &&& 3689348814741910323) + ((ush (x1 - ((ush x1 1) &&& 6148914691236517205)) 2) &&& 3689348814741910323)) + (ush (((x1 - ((ush x1 1) &&& 6148914691236517205)) &&& 3689348814741910323) + ((ush (x1 - ((ush x1 1) &&& 6148914691236517205)) 2) &&& 3689348814741910323)) 4)) &&& 1085102592571150095) 8)) 16)))]) hx hb dJ13_bitCount_95d88_47 rfl hl (by decide) rfl (fun ls hl => ?_)
  refine lv_lload_n hx hb dJ13_bitCount_95d88_48 rfl (lv_at hl 0 rfl) ?_
  refine lv_lload_n hx hb dJ13_bitCount_95d88_49 rfl (lv_at hl 0 rfl) ?_
  refine lv_bipush (v := 32) hx hb dJ13_bitCount_95d88_50 (by decide) ?_
  refine lv_lushr (v := ush (((((((x1 - ((ush x1 1) &&& 6148914691236517205)) &&& 3689348814741910323) + ((ush (x1 - ((ush x1 1) &&& 6148914691236517205)) 2) &&& 3689348814741910323)) + (ush (((x1 - ((ush x1 1) &&& 6148914691236517205)) &&& 3689348814741910323) + ((ush (x1 - ((ush x1 1) &&& 6148914691236517205)) 2) &&& 3689348814741910323)) 4)) &&& 1085102592571150095) + (ush (((((x1 - ((ush x1 1) &&& 6148914691236517205)) &&& 3689348814741910323) + ((ush (x1 - ((ush x1 1) &&& 6148914691236517205)) 2) &&& 3689348814741910323)) + (ush (((x1 - ((ush x1 1) &&& 6148914691236517205)) &&& 3689348814741910323) + ((ush (x1 - ((ush x1 1) &&& 6148914691236517205)) 2) &&& 3689348814741910323)) 4)) &&& 1085102592571150095) 8)) + (ush ((((((x1 - ((ush x1 1) &&& 6148914691236517205)) &&& 3689348814741910323) + ((ush (x1 - ((ush x1 1) &&& 6148914691236517205)) 2) &&& 3689348814741910323)) + (ush (((x1 - ((ush x1 1) &&& 6148914691236517205)) &&& 3689348814741910323) + ((ush (x1 - ((ush x1 1) &&& 6148914691236517205)) 2) &&& 3689348814741910323)) 4)) &&& 1085102592571150095) + (ush (((((x1 - ((ush x1 1) &&& 6148914691236517205)) &&& 3689348814741910323) + ((ush (x1 - ((ush x1 1) &&& 6148914691236517205)) 2) &&& 3689348814741910323)) + (ush (((x1 - ((ush x1 1) &&& 6148914691236517205)) &&& 3689348814741910323) + ((ush (x1 - ((ush x1 1) &&& 6148914691236517205)) 2) &&& 3689348814741910323)) 4)) &&& 1085102592571150095) 8)) 16)) 32) hx hb dJ13_bitCount_95d88_52 rfl ?_
  refine lv_ladd hx hb dJ13_bitCount_95d88_53 ?_
  refine lv_lstore_n (lv' := [(0, .long ((((((((x1 - ((ush x1 1) &&& 6148914691236517205)) &&& 3689348814741910323) + ((ush (x1 - ((ush x1 1) &&& 6148914691236517205)) 2) &&& 3689348814741910323)) + (ush (((x1 - ((ush x1 1) &&& 6148914691236517205)) &&& 3689348814741910323) + ((ush (x1 - ((ush x1 1) &&& 6148914691236517205)) 2) &&& 3689348814741910323)) 4)) &&& 1085102592571150095) + (ush (((((x1 - ((ush x1 1) &&& 6148914691236517205)) &&& 3689348814741910323) + ((ush (x1 - ((ush x1 1) &&& 6148914691236517205)) 2) &&& 3689348814741910323)) + (ush (((x1 - ((ush x1 1) &&& 6148914691236517205)) &&& 3689348814741910323) + ((ush (x1 - ((ush x1 1) &&& 6148914691236517205)) 2) &&& 3689348814741910323)) 4)) &&& 1085102592571150095) 8)) + (ush ((((((x1 - ((ush x1 1) &&& 6148914691236517205)) &&& 3689348814741910323) + ((ush (x1 - ((ush x1 1) &&& 6148914691236517205)) 2) &&& 3689348814741910323)) + (ush (((x1 - ((ush x1 1) &&& 6148914691236517205)) &&& 3689348814741910323) + ((ush (x1 - ((ush x1 1) &&& 6148914691236517205)) 2) &&& 3689348814741910323)) 4)) &&& 1085102592571150095) + (ush (((((x1 - ((ush x1 1) &&& 6148914691236517205)) &&& 3689348814741910323) + ((ush (x1 - ((ush x1 1) &&& 6148914691236517205)) 2) &&& 3689348814741910323)) + (ush (((x1 - ((ush x1 1) &&& 6148914691236517205)) &&& 3689348814741910323) + ((ush (x1 - ((ush x1 1) &&& 6148914691236517205)) 2) &&& 3689348814741910323)) 4)) &&& 1085102592571150095) 8)) 16)) + (ush (((((((x1 - ((ush x1 1) &&& 6148914691236517205)) &&& 3689348814741910323) + ((ush (x1 - ((ush x1 1) &&& 6148914691236517205)) 2) &&& 3689348814741910323)) + (ush (((x1 - ((ush x1 1) &&& 6148914691236517205)) &&& 3689348814741910323) + ((ush (x1 - ((ush x1 1) &&& 6148914691236517205)) 2) &&& 3689348814741910323)) 4)) &&& 1085102592571150095) + (ush (((((x1 - ((ush x1 1) &&& 6148914691236517205)) &&& 3689348814741910323) + ((ush (x1 - ((ush x1 1) &&& 6148914691236517205)) 2) &&& 3689348814741910323)) + (ush (((x1 - ((ush x1 1) &&& 6148914691236517205)) &&& 3689348814741910323) + ((ush (x1 - ((ush x1 1) &&& 6148914691236517205)) 2) &&& 3689348814741910323)) 4)) &&& 1085102592571150095) 8)) + (ush ((((((x1 - ((ush x1 1) &&& 6148914691236517205)) &&& 3689348814741910323) + ((ush (x1 - ((ush x1 1) &&& 6148914691236517205)) 2) &&& 3689348814741910323)) + (ush (((x1 - ((ush x1 1) &&& 6148914691236517205)) &&& 3689348814741910323) + ((ush (x1 - ((ush x1 1) &&& 6148914691236517205)) 2) &&& 3689348814741910323)) 4)) &&& 1085102592571150095) + (ush (((((x1 - ((ush x1 1) &&& 6148914691236517205)) &&& 3689348814741910323) + ((ush (x1 - ((ush x1 1) &&& 6148914691236517205)) 2) &&& 3689348814741910323)) + (ush (((x1 - ((ush x1 1) &&& 6148914691236517205)) &&& 3689348814741910323) + ((ush (x1 - ((ush x1 1) &&& 6148914691236517205)) 2) &&& 3689348814741910323)) 4)) &&& 1085102592571150095) 8)) 16)) 32)))]) hx hb dJ13_bitCount_95d88_54 rfl hl (by decide) rfl (fun ls hl => ?_)
  refine lv_lload_n hx hb dJ13_bitCount_95d88_55 rfl (lv_at hl 0 rfl) ?_
  refine lv_l2i (v := ((((((((x1 - ((ush x1 1) &&& 6148914691236517205)) &&& 3689348814741910323) + ((ush (x1 - ((ush x1 1) &&& 6148914691236517205)) 2) &&& 3689348814741910323)) + (ush (((x1 - ((ush x1 1) &&& 6148914691236517205)) &&& 3689348814741910323) + ((ush (x1 - ((ush x1 1) &&& 6148914691236517205)) 2) &&& 3689348814741910323)) 4)) &&& 1085102592571150095) + (ush (((((x1 - ((ush x1 1) &&& 6148914691236517205)) &&& 3689348814741910323) + ((ush (x1 - ((ush x1 1) &&& 6148914691236517205)) 2) &&& 3689348814741910323)) + (ush (((x1 - ((ush x1 1) &&& 6148914691236517205)) &&& 3689348814741910323) + ((ush (x1 - ((ush x1 1) &&& 6148914691236517205)) 2) &&& 3689348814741910323)) 4)) &&& 1085102592571150095) 8)) + (ush ((((((x1 - ((ush x1 1) &&& 6148914691236517205)) &&& 3689348814741910323) + ((ush (x1 - ((ush x1 1) &&& 6148914691236517205)) 2) &&& 3689348814741910323)) + (ush (((x1 - ((ush x1 1) &&& 6148914691236517205)) &&& 3689348814741910323) + ((ush (x1 - ((ush x1 1) &&& 6148914691236517205)) 2) &&& 3689348814741910323)) 4)) &&& 1085102592571150095) + (ush (((((x1 - ((ush x1 1) &&& 6148914691236517205)) &&& 3689348814741910323) + ((ush (x1 - ((ush x1 1) &&& 6148914691236517205)) 2) &&& 3689348814741910323)) + (ush (((x1 - ((ush x1 1) &&& 6148914691236517205)) &&& 3689348814741910323) + ((ush (x1 - ((ush x1 1) &&& 6148914691236517205)) 2) &&& 3689348814741910323)) 4)) &&& 1085102592571150095) 8)) 16)) + (ush (((((((x1 - ((ush x1 1) &&& 6148914691236517205)) &&& 3689348814741910323) + ((ush (x1 - ((ush x1 1) &&& 6148914691236517205)) 2) &&& 3689348814741910323)) + (ush (((x1 - ((ush x1 1) &&& 6148914691236517205)) &&& 3689348814741910323) + ((ush (x1 - ((ush x1 1) &&& 6148914691236517205)) 2) &&& 3689348814741910323)) 4)) &&& 1085102592571150095) + (ush (((((x1 - ((ush x1 1) &&& 6148914691236517205)) &&& 3689348814741910323) + ((ush (x1 - ((ush x1 1) &&& 6148914691236517205)) 2) &&& 3689348814741910323)) + (ush (((x1 - ((ush x1 1) &&& 6148914691236517205)) &&& 3689348814741910323) + ((ush (x1 - ((ush x1 1) &&& 6148914691236517205)) 2) &&& 3689348814741910323)) 4)) &&& 1085102592571150095) 8)) + (ush ((((((x1 - ((ush x1 1) &&& 6148914691236517205)) &&& 3689348814741910323) + ((ush (x1 - ((ush x1 1) &&& 6148914691236517205)) 2) &&& 3689348814741910323)) + (ush (((x1 - ((ush x1 1) &&& 6148914691236517205)) &&& 3689348814741910323) + ((ush (x1 - ((ush x1 1) &&& 6148914691236517205)) 2) &&& 3689348814741910323)) 4)) &&& 1085102592571150095) + (ush (((((x1 - ((ush x1 1) &&& 6148914691236517205)) &&& 3689348814741910323) + ((ush (x1 - ((ush x1 1) &&& 6148914691236517205)) 2) &&& 3689348814741910323)) + (ush (((x1 - ((ush x1 1) &&& 6148914691236517205)) &&& 3689348814741910323) + ((ush (x1 - ((ush x1 1) &&& 6148914691236517205)) 2) &&& 3689348814741910323)) 4)) &&& 1085102592571150095) 8)) 16)) 32)).toInt32) hx hb dJ13_bitCount_95d88_56 rfl ?_
  refine lv_bipush (v := 127) hx hb dJ13_bitCount_95d88_57 (by decide) ?_
  refine lv_iand hx hb dJ13_bitCount_95d88_59 ?_
  exact W.iret (v := (((((((((x1 - ((ush x1 1) &&& 6148914691236517205)) &&& 3689348814741910323) + ((ush (x1 - ((ush x1 1) &&& 6148914691236517205)) 2) &&& 3689348814741910323)) + (ush (((x1 - ((ush x1 1) &&& 6148914691236517205)) &&& 3689348814741910323) + ((ush (x1 - ((ush x1 1) &&& 6148914691236517205)) 2) &&& 3689348814741910323)) 4)) &&& 1085102592571150095) + (ush (((((x1 - ((ush x1 1) &&& 6148914691236517205)) &&& 3689348814741910323) + ((ush (x1 - ((ush x1 1) &&& 6148914691236517205)) 2) &&& 3689348814741910323)) + (ush (((x1 - ((ush x1 1) &&& 6148914691236517205)) &&& 3689348814741910323) + ((ush (x1 - ((ush x1 1) &&& 6148914691236517205)) 2) &&& 3689348814741910323)) 4)) &&& 1085102592571150095) 8)) + (ush ((((((x1 - ((ush x1 1) &&& 6148914691236517205)) &&& 3689348814741910323) + ((ush (x1 - ((ush x1 1) &&& 6148914691236517205)) 2) &&& 3689348814741910323)) + (ush (((x1 - ((ush x1 1) &&& 6148914691236517205)) &&& 3689348814741910323) + ((ush (x1 - ((ush x1 1) &&& 6148914691236517205)) 2) &&& 3689348814741910323)) 4)) &&& 1085102592571150095) + (ush (((((x1 - ((ush x1 1) &&& 6148914691236517205)) &&& 3689348814741910323) + ((ush (x1 - ((ush x1 1) &&& 6148914691236517205)) 2) &&& 3689348814741910323)) + (ush (((x1 - ((ush x1 1) &&& 6148914691236517205)) &&& 3689348814741910323) + ((ush (x1 - ((ush x1 1) &&& 6148914691236517205)) 2) &&& 3689348814741910323)) 4)) &&& 1085102592571150095) 8)) 16)) + (ush (((((((x1 - ((ush x1 1) &&& 6148914691236517205)) &&& 3689348814741910323) + ((ush (x1 - ((ush x1 1) &&& 6148914691236517205)) 2) &&& 3689348814741910323)) + (ush (((x1 - ((ush x1 1) &&& 6148914691236517205)) &&& 3689348814741910323) + ((ush (x1 - ((ush x1 1) &&& 6148914691236517205)) 2) &&& 3689348814741910323)) 4)) &&& 1085102592571150095) + (ush (((((x1 - ((ush x1 1) &&& 6148914691236517205)) &&& 3689348814741910323) + ((ush (x1 - ((ush x1 1) &&& 6148914691236517205)) 2) &&& 3689348814741910323)) + (ush (((x1 - ((ush x1 1) &&& 6148914691236517205)) &&& 3689348814741910323) + ((ush (x1 - ((ush x1 1) &&& 6148914691236517205)) 2) &&& 3689348814741910323)) 4)) &&& 1085102592571150095) 8)) + (ush ((((((x1 - ((ush x1 1) &&& 6148914691236517205)) &&& 3689348814741910323) + ((ush (x1 - ((ush x1 1) &&& 6148914691236517205)) 2) &&& 3689348814741910323)) + (ush (((x1 - ((ush x1 1) &&& 6148914691236517205)) &&& 3689348814741910323) + ((ush (x1 - ((ush x1 1) &&& 6148914691236517205)) 2) &&& 3689348814741910323)) 4)) &&& 1085102592571150095) + (ush (((((x1 - ((ush x1 1) &&& 6148914691236517205)) &&& 3689348814741910323) + ((ush (x1 - ((ush x1 1) &&& 6148914691236517205)) 2) &&& 3689348814741910323)) + (ush (((x1 - ((ush x1 1) &&& 6148914691236517205)) &&& 3689348814741910323) + ((ush (x1 - ((ush x1 1) &&& 6148914691236517205)) 2) &&& 3689348814741910323)) 4)) &&& 1085102592571150095) 8)) 16)) 32)).toInt32) &&& 127) hx hb hr (fun t ht hW => ⟨(((((((((x1 - ((ush x1 1) &&& 6148914691236517205)) &&& 3689348814741910323) + ((ush (x1 - ((ush x1 1) &&& 6148914691236517205)) 2) &&& 3689348814741910323)) + (ush (((x1 - ((ush x1 1) &&& 6148914691236517205)) &&& 3689348814741910323) + ((ush (x1 - ((ush x1 1) &&& 6148914691236517205)) 2) &&& 3689348814741910323)) 4)) &&& 1085102592571150095) + (ush (((((x1 - ((ush x1 1) &&& 6148914691236517205)) &&& 3689348814741910323) + ((ush (x1 - ((ush x1 1) &&& 6148914691236517205)) 2) &&& 3689348814741910323)) + (ush (((x1 - ((ush x1 1) &&& 6148914691236517205)) &&& 3689348814741910323) + ((ush (x1 - ((ush x1 1) &&& 6148914691236517205)) 2) &&& 3689348814741910323)) 4)) &&& 1085102592571150095) 8)) + (ush ((((((x1 - ((ush x1 1) &&& 6148914691236517205)) &&& 3689348814741910323) + ((ush (x1 - ((ush x1 1) &&& 6148914691236517205)) 2) &&& 3689348814741910323)) + (ush (((x1 - ((ush x1 1) &&& 6148914691236517205)) &&& 3689348814741910323) + ((ush (x1 - ((ush x1 1) &&& 6148914691236517205)) 2) &&& 3689348814741910323)) 4)) &&& 1085102592571150095) + (ush (((((x1 - ((ush x1 1) &&& 6148914691236517205)) &&& 3689348814741910323) + ((ush (x1 - ((ush x1 1) &&& 6148914691236517205)) 2) &&& 3689348814741910323)) + (ush (((x1 - ((ush x1 1) &&& 6148914691236517205)) &&& 3689348814741910323) + ((ush (x1 - ((ush x1 1) &&& 6148914691236517205)) 2) &&& 3689348814741910323)) 4)) &&& 1085102592571150095) 8)) 16)) + (ush (((((((x1 - ((ush x1 1) &&& 6148914691236517205)) &&& 3689348814741910323) + ((ush (x1 - ((ush x1 1) &&& 6148914691236517205)) 2) &&& 3689348814741910323)) + (ush (((x1 - ((ush x1 1) &&& 6148914691236517205)) &&& 3689348814741910323) + ((ush (x1 - ((ush x1 1) &&& 6148914691236517205)) 2) &&& 3689348814741910323)) 4)) &&& 1085102592571150095) + (ush (((((x1 - ((ush x1 1) &&& 6148914691236517205)) &&& 3689348814741910323) + ((ush (x1 - ((ush x1 1) &&& 6148914691236517205)) 2) &&& 3689348814741910323)) + (ush (((x1 - ((ush x1 1) &&& 6148914691236517205)) &&& 3689348814741910323) + ((ush (x1 - ((ush x1 1) &&& 6148914691236517205)) 2) &&& 3689348814741910323)) 4)) &&& 1085102592571150095) 8)) + (ush ((((((x1 - ((ush x1 1) &&& 6148914691236517205)) &&& 3689348814741910323) + ((ush (x1 - ((ush x1 1) &&& 6148914691236517205)) 2) &&& 3689348814741910323)) + (ush (((x1 - ((ush x1 1) &&& 6148914691236517205)) &&& 3689348814741910323) + ((ush (x1 - ((ush x1 1) &&& 6148914691236517205)) 2) &&& 3689348814741910323)) 4)) &&& 1085102592571150095) + (ush (((((x1 - ((ush x1 1) &&& 6148914691236517205)) &&& 3689348814741910323) + ((ush (x1 - ((ush x1 1) &&& 6148914691236517205)) 2) &&& 3689348814741910323)) + (ush (((x1 - ((ush x1 1) &&& 6148914691236517205)) &&& 3689348814741910323) + ((ush (x1 - ((ush x1 1) &&& 6148914691236517205)) 2) &&& 3689348814741910323)) 4)) &&& 1085102592571150095) 8)) 16)) 32)).toInt32) &&& 127, rfl, hf.symm, ht⟩) (fun _ h => by cases h) dJ13_bitCount_95d88_60
def fX3_coverOf (u : HS) (x1 : Int32) : Int32 :=
  (fJ13_bitCount_95d88 ((h4 u) x1.toNatClampNeg))
set_option maxHeartbeats 4000000 in
set_option maxRecDepth 100000 in
/-- coverOf -/
theorem kX3_coverOf (l : Launch) (D : va_G) (ca : Nat → ClassId) (a : Nat → Nat) (u : HS) (x1 : Int32) (hg : vp_in x1 8) : Met l yX3_coverOf wsX3_coverOf ({ frames := 1, cells := 0, slots := 0, locals := 21 }) (RPc D ca (HW ca a u) [.ref (a 8), .int x1]) (vp_Si (fun r => r = fX3_coverOf u x1)) 0 0 (fun _ => False) := by
  refine Met.ofW (cc := cX3_coverOf) (maxL := 2) (ret := (some .int)) (by decide) rfl ?_
  intro p e s m args below meth c s₁ B hml hv
  obtain ⟨rfl, hP, hK⟩ := hv
  have hx := B.exec
  have hb := B.bytes
  have hr := B.returns
  have hts := atoms_spec (ws := wsX3_coverOf) B.pre
  have hown : s.vm.findClass RX3 = some m.cls := findClass_of_methodNamed B.named
  have hlocks := B.notSynchronized
  have hin3 : ∀ w ∈ wsX30, w ∈ wsX3_coverOf := by decide +kernel
  have hf : fX3_coverOf u x1 = fX3_coverOf u x1 := rfl
  refine W_entry (Nat.le_of_ble_eq_true rfl) (fun ls hl => ?_)
  have hl : lv_has ls 2 [(0, .ref (a 8)), (1, .int x1)] := hl
  refine lv_aload_n hx hb dX3_coverOf_0 rfl (lv_at hl 0 rfl) ?_
  refine va_get (D := D) (ci := 4) (v := .ref (a 4)) (C := RX3) (T := TX3) (N := 15) hx hb hts hin3 hown hK hP 0 rfl rfl 4 (by decide) (hts (.fieldLink RX3 24 "HatReservations$Hall" "covers" "[J") (by decide +kernel)) (fun _ h9 => h9) rfl dX3_coverOf_1 ?_
  refine lv_iload_n hx hb dX3_coverOf_4 rfl (lv_at hl 1 rfl) ?_
  refine va_lald (f := h4 u) hx hb hK hP 5 1 rfl rfl hg dX3_coverOf_5 ?_
  refine hcSi (As := [.long ((h4 u) x1.toNatClampNeg)]) (rest := []) ⟨hx, hb, hml, hown, hts⟩ (kJ13_bitCount_95d88 l ((h4 u) x1.toNatClampNeg) ) (va_cwS 1 hts gX3_coverOf_J13_bitCount_95d88 rfl rfl rfl (by decide +kernel) ⟨Nat.le_of_ble_eq_true rfl, Nat.le_of_ble_eq_true rfl⟩) rfl hl.1 rfl (Nat.le_of_ble_eq_true rfl) ⟨Nat.zero_le _, Nat.zero_le _⟩ dX3_coverOf_6 ?_
  exact W.iret (v := fJ13_bitCount_95d88 ((h4 u) x1.toNatClampNeg)) hx hb hr (fun t ht hW => ⟨fJ13_bitCount_95d88 ((h4 u) x1.toNatClampNeg), rfl, hf.symm, ht⟩) (fun _ h => by cases h) dX3_coverOf_9
def fX3_idleTime (u : HS) (x1 : Int32) : Int32 :=
  ((h10 u) - ((h3 u) x1.toNatClampNeg))
set_option maxHeartbeats 4000000 in
set_option maxRecDepth 100000 in
/-- idleTime -/
theorem kX3_idleTime (l : Launch) (D : va_G) (ca : Nat → ClassId) (a : Nat → Nat) (u : HS) (x1 : Int32) (hg : vp_in x1 8) : Met l yX3_idleTime wsX3_idleTime ({ frames := 0, cells := 0, slots := 0, locals := 0 }) (RPc D ca (HW ca a u) [.ref (a 8), .int x1]) (vp_Si (fun r => r = fX3_idleTime u x1)) 0 0 (fun _ => False) := by
  refine Met.ofW (cc := cX3_idleTime) (maxL := 2) (ret := (some .int)) (by decide) rfl ?_
  intro p e s m args below meth c s₁ B hml hv
  obtain ⟨rfl, hP, hK⟩ := hv
  have hx := B.exec
  have hb := B.bytes
  have hr := B.returns
  have hts := atoms_spec (ws := wsX3_idleTime) B.pre
  have hown : s.vm.findClass RX3 = some m.cls := findClass_of_methodNamed B.named
  have hlocks := B.notSynchronized
  have hin3 : ∀ w ∈ wsX30, w ∈ wsX3_idleTime := by decide +kernel
  have hf : fX3_idleTime u x1 = fX3_idleTime u x1 := rfl
  refine W_entry (Nat.le_of_ble_eq_true rfl) (fun ls hl => ?_)
  have hl : lv_has ls 2 [(0, .ref (a 8)), (1, .int x1)] := hl
  refine lv_aload_n hx hb dX3_idleTime_0 rfl (lv_at hl 0 rfl) ?_
  refine va_get (D := D) (ci := 4) (v := .int (h10 u)) (C := RX3) (T := TX3) (N := 15) hx hb hts hin3 hown hK hP 0 rfl rfl 10 (by decide) (hts (.fieldLink RX3 44 "HatReservations$Hall" "time" "I") (by decide +kernel)) (fun _ h9 => h9) rfl dX3_idleTime_1 ?_
  refine lv_aload_n hx hb dX3_idleTime_4 rfl (lv_at hl 0 rfl) ?_
  refine va_get (D := D) (ci := 4) (v := .ref (a 3)) (C := RX3) (T := TX3) (N := 15) hx hb hts hin3 hown hK hP 0 rfl rfl 3 (by decide) (hts (.fieldLink RX3 21 "HatReservations$Hall" "touchTimes" "[I") (by decide +kernel)) (fun _ h9 => h9) rfl dX3_idleTime_5 ?_
  refine lv_iload_n hx hb dX3_idleTime_8 rfl (lv_at hl 1 rfl) ?_
  refine va_iald (f := h3 u) hx hb hK hP 4 0 rfl rfl hg dX3_idleTime_9 ?_
  refine lv_isub hx hb dX3_idleTime_10 ?_
  exact W.iret (v := (h10 u) - ((h3 u) x1.toNatClampNeg)) hx hb hr (fun t ht hW => ⟨(h10 u) - ((h3 u) x1.toNatClampNeg), rfl, hf.symm, ht⟩) (fun _ h => by cases h) dX3_idleTime_11
def fX3_ownerAt_2 : Nat → Nat → HS → Int32 → Int32 → Int32
  | 0, k, u, x1, x2 => (-1)
  | n + 1, k, u, x1, x2 => (if ((h5 u) k) = x1 then (if ((h6 u) k) = x2 then (nI k) else fX3_ownerAt_2 n (k + 1) u x1 x2) else fX3_ownerAt_2 n (k + 1) u x1 x2)
def fX3_ownerAt (u : HS) (x1 : Int32) (x2 : Int32) : Int32 :=
  fX3_ownerAt_2 8 0 u x1 x2
set_option maxHeartbeats 4000000 in
set_option maxRecDepth 100000 in
/-- ownerAt -/
theorem kX3_ownerAt (l : Launch) (D : va_G) (ca : Nat → ClassId) (a : Nat → Nat) (u : HS) (x1 : Int32) (x2 : Int32) : Met l yX3_ownerAt wsX3_ownerAt ({ frames := 0, cells := 0, slots := 0, locals := 0 }) (RPc D ca (HW ca a u) [.ref (a 8), .int x1, .int x2]) (vp_Si (fun r => r = fX3_ownerAt u x1 x2)) 0 0 (fun _ => False) := by
  refine Met.ofW (cc := cX3_ownerAt) (maxL := 4) (ret := (some .int)) (by decide) rfl ?_
  intro p e s m args below meth c s₁ B hml hv
  obtain ⟨rfl, hP, hK⟩ := hv
  have hx := B.exec
  have hb := B.bytes
  have hr := B.returns
  have hts := atoms_spec (ws := wsX3_ownerAt) B.pre
  have hown : s.vm.findClass RX3 = some m.cls := findClass_of_methodNamed B.named
  have hlocks := B.notSynchronized
  have hin3 : ∀ w ∈ wsX30, w ∈ wsX3_ownerAt := by decide +kernel
  have cut_2 : ∀ (n k : Nat) (hnk : n + k = 8) (hf : fX3_ownerAt u x1 x2 = fX3_ownerAt_2 n k u x1 x2) (ls : Array Slot) (hl : lv_has ls 4 [(0, .ref (a 8)), (1, .int x1), (2, .int x2), (3, .int (nI k))]), W p l e (headSpec wsX3_ownerAt ({ frames := 0, cells := 0, slots := 0, locals := 0 })).room s m ([.ref (a 8), .int x1, .int x2] : List Value).toArray below meth c s.heap [] 0 0 (MQ below (vp_Si (fun r => r = fX3_ownerAt u x1 x2)) ([.ref (a 8), .int x1, .int x2] : List Value).toArray s 0 0 (fun _ => False)) (F0 m 2 ls []) := by
    intro n
    induction n with
    | zero =>
      intro k hnk hf ls hl
      obtain rfl : k = 8 := by omega
      refine lv_iload_n hx hb dX3_ownerAt_2 rfl (lv_at hl 3 rfl) ?_
      refine lv_bipush (v := 8) hx hb dX3_ownerAt_3 (by decide) ?_
      refine lv_icmp_ge (tgt := 36) hx hb dX3_ownerAt_5 (by decide) (fun _ => ?_) (fun q => absurd (by decide) q)
      refine lv_iconst (v := (-1)) hx hb dX3_ownerAt_36 (by decide) ?_
      exact W.iret (v := (-1)) hx hb hr (fun t ht hW => ⟨(-1), rfl, hf.symm, ht⟩) (fun _ h => by cases h) dX3_ownerAt_37
    | succ n ih =>
      intro k hnk hf ls hl
      refine lv_iload_n hx hb dX3_ownerAt_2 rfl (lv_at hl 3 rfl) ?_
      refine lv_bipush (v := 8) hx hb dX3_ownerAt_3 (by decide) ?_
      refine lv_icmp_ge (tgt := 36) hx hb dX3_ownerAt_5 (by decide) (fun q => absurd q (show ¬ (8 : Int32) ≤ nI k from nI_ge (b := 8) (by omega) (by decide))) (fun _ => ?_)
      refine lv_aload_n hx hb dX3_ownerAt_8 rfl (lv_at hl 0 rfl) ?_
      refine va_get (D := D) (ci := 4) (v := .ref (a 5)) (C := RX3) (T := TX3) (N := 15) hx hb hts hin3 hown hK hP 0 rfl rfl 5 (by decide) (hts (.fieldLink RX3 28 "HatReservations$Hall" "coatChairs" "[I") (by decide +kernel)) (fun _ h9 => h9) rfl dX3_ownerAt_9 ?_
      refine lv_iload_n hx hb dX3_ownerAt_12 rfl (lv_at hl 3 rfl) ?_
      refine ialdN (f := h5 u) hx hb hK hP 6 0 rfl rfl (k := k) (by omega) (by decide) dX3_ownerAt_13 ?_
      refine lv_iload_n hx hb dX3_ownerAt_14 rfl (lv_at hl 1 rfl) ?_
      refine lv_icmp_ne (tgt := 30) hx hb dX3_ownerAt_15 (by decide) (fun c_15 => ?_) (fun c_15 => ?_)
      · have hf := hf.trans (if_neg c_15)
        refine lv_iinc (v := nI (k + 1)) (lv' := [(3, .int (nI (k + 1))), (0, .ref (a 8)), (1, .int x1), (2, .int x2)]) hx hb dX3_ownerAt_30 hl (k := 3) rfl (nI_1 k) (by decide) rfl (fun ls hl => ?_)
        refine lv_goto (tgt := 2) hx hb dX3_ownerAt_33 (by decide) ?_
        exact ih (k + 1) (by omega)   hf ls (lv_sub hl [1, 2, 3, 0] rfl)
      · have hf := hf.trans (if_pos c_15)
        refine lv_aload_n hx hb dX3_ownerAt_18 rfl (lv_at hl 0 rfl) ?_
        refine va_get (D := D) (ci := 4) (v := .ref (a 6)) (C := RX3) (T := TX3) (N := 15) hx hb hts hin3 hown hK hP 0 rfl rfl 6 (by decide) (hts (.fieldLink RX3 31 "HatReservations$Hall" "coatPositions" "[I") (by decide +kernel)) (fun _ h9 => h9) rfl dX3_ownerAt_19 ?_
        refine lv_iload_n hx hb dX3_ownerAt_22 rfl (lv_at hl 3 rfl) ?_
        refine ialdN (f := h6 u) hx hb hK hP 7 0 rfl rfl (k := k) (by omega) (by decide) dX3_ownerAt_23 ?_
        refine lv_iload_n hx hb dX3_ownerAt_24 rfl (lv_at hl 2 rfl) ?_
        refine lv_icmp_ne (tgt := 30) hx hb dX3_ownerAt_25 (by decide) (fun c_25 => ?_) (fun c_25 => ?_)
        · have hf := hf.trans (if_neg c_25)
          refine lv_iinc (v := nI (k + 1)) (lv' := [(3, .int (nI (k + 1))), (0, .ref (a 8)), (1, .int x1), (2, .int x2)]) hx hb dX3_ownerAt_30 hl (k := 3) rfl (nI_1 k) (by decide) rfl (fun ls hl => ?_)
          refine lv_goto (tgt := 2) hx hb dX3_ownerAt_33 (by decide) ?_
          exact ih (k + 1) (by omega)   hf ls (lv_sub hl [1, 2, 3, 0] rfl)
        · have hf := hf.trans (if_pos c_25)
          refine lv_iload_n hx hb dX3_ownerAt_28 rfl (lv_at hl 3 rfl) ?_
          exact W.iret (v := nI k) hx hb hr (fun t ht hW => ⟨nI k, rfl, hf.symm, ht⟩) (fun _ h => by cases h) dX3_ownerAt_29
  have hf : fX3_ownerAt u x1 x2 = fX3_ownerAt u x1 x2 := rfl
  refine W_entry (Nat.le_of_ble_eq_true rfl) (fun ls hl => ?_)
  have hl : lv_has ls 4 [(0, .ref (a 8)), (1, .int x1), (2, .int x2)] := hl
  refine lv_iconst (v := 0) hx hb dX3_ownerAt_0 (by decide) ?_
  refine lv_istore_n (lv' := [(3, .int 0), (0, .ref (a 8)), (1, .int x1), (2, .int x2)]) hx hb dX3_ownerAt_1 rfl hl (by decide) rfl (fun ls hl => ?_)
  exact cut_2 8 0 (by omega)   hf ls (lv_sub hl [1, 2, 3, 0] rfl)
theorem covererAt2_in (u : HS) (x : Int32) : ∀ (n k : Nat), n + k = 8 → fX3_covererAt_2 n k u x = -1 ∨ vp_in (fX3_covererAt_2 n k u x) 8 := by
  intro n
  induction n with
  | zero => intro k _; exact Or.inl rfl
  | succ n ih =>
    intro k hk
    rw [fX3_covererAt_2]
    split
    · exact ih (k + 1) (by omega)
    · exact Or.inr (vp_in_nI (by omega) (by decide))
theorem covererAt_in (u : HS) (x : Int32) : fX3_covererAt u x = -1 ∨ vp_in (fX3_covererAt u x) 8 := covererAt2_in u x 8 0 rfl
theorem ownerAt2_in (u : HS) (x y : Int32) : ∀ (n k : Nat), n + k = 8 → fX3_ownerAt_2 n k u x y = -1 ∨ vp_in (fX3_ownerAt_2 n k u x y) 8 := by
  intro n
  induction n with
  | zero => intro k _; exact Or.inl rfl
  | succ n ih =>
    intro k hk
    rw [fX3_ownerAt_2]
    split
    · split
      · exact Or.inr (vp_in_nI (by omega) (by decide))
      · exact ih (k + 1) (by omega)
    · exact ih (k + 1) (by omega)
theorem ownerAt_in (u : HS) (x y : Int32) : fX3_ownerAt u x y = -1 ∨ vp_in (fX3_ownerAt u x y) 8 := ownerAt2_in u x y 8 0 rfl
def fX3_claimantByQueue_2 : Nat → Nat → HS → Int32 → Int32
  | 0, k, u, x1 => (-1)
  | n + 1, k, u, x1 => (if (fX3_ownerAt u x1 (nI k)) = (-1) then fX3_claimantByQueue_2 n (k + 1) u x1 else (if (fX3_hatIsPlaced u (fX3_ownerAt u x1 (nI k))) = 0 then (fX3_ownerAt u x1 (nI k)) else fX3_claimantByQueue_2 n (k + 1) u x1))
def fX3_claimantByQueue (u : HS) (x1 : Int32) : Int32 :=
  fX3_claimantByQueue_2 3 0 u x1
set_option maxHeartbeats 4000000 in
set_option maxRecDepth 100000 in
/-- claimantByQueue -/
theorem kX3_claimantByQueue (l : Launch) (D : va_G) (ca : Nat → ClassId) (a : Nat → Nat) (u : HS) (x1 : Int32) : Met l yX3_claimantByQueue wsX3_claimantByQueue ({ frames := 1, cells := 0, slots := 0, locals := 23 }) (RPc D ca (HW ca a u) [.ref (a 8), .int x1]) (vp_Si (fun r => r = fX3_claimantByQueue u x1)) 0 0 (fun _ => False) := by
  refine Met.ofW (cc := cX3_claimantByQueue) (maxL := 4) (ret := (some .int)) (by decide) rfl ?_
  intro p e s m args below meth c s₁ B hml hv
  obtain ⟨rfl, hP, hK⟩ := hv
  have hx := B.exec
  have hb := B.bytes
  have hr := B.returns
  have hts := atoms_spec (ws := wsX3_claimantByQueue) B.pre
  have hown : s.vm.findClass RX3 = some m.cls := findClass_of_methodNamed B.named
  have hlocks := B.notSynchronized
  have cut_2 : ∀ (n k : Nat) (hnk : n + k = 3) (hf : fX3_claimantByQueue u x1 = fX3_claimantByQueue_2 n k u x1) (ls : Array Slot) (hl : lv_has ls 4 [(0, .ref (a 8)), (1, .int x1), (2, .int (nI k))]), W p l e (headSpec wsX3_claimantByQueue ({ frames := 1, cells := 0, slots := 0, locals := 23 })).room s m ([.ref (a 8), .int x1] : List Value).toArray below meth c s.heap [] 0 0 (MQ below (vp_Si (fun r => r = fX3_claimantByQueue u x1)) ([.ref (a 8), .int x1] : List Value).toArray s 0 0 (fun _ => False)) (F0 m 2 ls []) := by
    intro n
    induction n with
    | zero =>
      intro k hnk hf ls hl
      obtain rfl : k = 3 := by omega
      refine lv_iload_n hx hb dX3_claimantByQueue_2 rfl (lv_at hl 2 rfl) ?_
      refine lv_iconst (v := 3) hx hb dX3_claimantByQueue_3 (by decide) ?_
      refine lv_icmp_ge (tgt := 35) hx hb dX3_claimantByQueue_4 (by decide) (fun _ => ?_) (fun q => absurd (by decide) q)
      refine lv_iconst (v := (-1)) hx hb dX3_claimantByQueue_35 (by decide) ?_
      exact W.iret (v := (-1)) hx hb hr (fun t ht hW => ⟨(-1), rfl, hf.symm, ht⟩) (fun _ h => by cases h) dX3_claimantByQueue_36
    | succ n ih =>
      intro k hnk hf ls hl
      refine lv_iload_n hx hb dX3_claimantByQueue_2 rfl (lv_at hl 2 rfl) ?_
      refine lv_iconst (v := 3) hx hb dX3_claimantByQueue_3 (by decide) ?_
      refine lv_icmp_ge (tgt := 35) hx hb dX3_claimantByQueue_4 (by decide) (fun q => absurd q (show ¬ (3 : Int32) ≤ nI k from nI_ge (b := 3) (by omega) (by decide))) (fun _ => ?_)
      refine lv_aload_n hx hb dX3_claimantByQueue_7 rfl (lv_at hl 0 rfl) ?_
      refine lv_iload_n hx hb dX3_claimantByQueue_8 rfl (lv_at hl 1 rfl) ?_
      refine lv_iload_n hx hb dX3_claimantByQueue_9 rfl (lv_at hl 2 rfl) ?_
      refine hcRi (As := [.int x1, .int (nI k)]) (rest := []) 0 4 ⟨hx, hb, hml, hown, hts⟩ (kX3_ownerAt l D ca a u x1 (nI k) ) (cwV 2 hts gX3_claimantByQueue_X3_ownerAt rfl rfl rfl (by decide +kernel) ⟨Nat.le_of_ble_eq_true rfl, Nat.le_of_ble_eq_true rfl⟩) hK hP rfl rfl rfl hl.1 rfl (Nat.le_of_ble_eq_true rfl) ⟨Nat.zero_le _, Nat.zero_le _⟩ dX3_claimantByQueue_10 ?_
      refine lv_istore_n (lv' := [(3, .int (fX3_ownerAt u x1 (nI k))), (0, .ref (a 8)), (1, .int x1), (2, .int (nI k))]) hx hb dX3_claimantByQueue_13 rfl hl (by decide) rfl (fun ls hl => ?_)
      refine lv_iload_n hx hb dX3_claimantByQueue_14 rfl (lv_at hl 0 rfl) ?_
      refine lv_iconst (v := (-1)) hx hb dX3_claimantByQueue_15 (by decide) ?_
      refine lv_icmp_eq (tgt := 29) hx hb dX3_claimantByQueue_16 (by decide) (fun c_16 => ?_) (fun c_16 => ?_)
      · have hf := hf.trans (if_pos c_16)
        refine lv_iinc (v := nI (k + 1)) (lv' := [(2, .int (nI (k + 1))), (3, .int (fX3_ownerAt u x1 (nI k))), (0, .ref (a 8)), (1, .int x1)]) hx hb dX3_claimantByQueue_29 hl (k := 3) rfl (nI_1 k) (by decide) rfl (fun ls hl => ?_)
        refine lv_goto (tgt := 2) hx hb dX3_claimantByQueue_32 (by decide) ?_
        exact ih (k + 1) (by omega)   hf ls (lv_sub hl [2, 3, 0] rfl)
      · have hf := hf.trans (if_neg c_16)
        refine lv_aload_n hx hb dX3_claimantByQueue_19 rfl (lv_at hl 1 rfl) ?_
        refine lv_iload_n hx hb dX3_claimantByQueue_20 rfl (lv_at hl 0 rfl) ?_
        refine hcRi (As := [.int (fX3_ownerAt u x1 (nI k))]) (rest := []) 0 4 ⟨hx, hb, hml, hown, hts⟩ (kX3_hatIsPlaced l D ca a u (fX3_ownerAt u x1 (nI k)) (Or.resolve_left (ownerAt_in u x1 (nI k)) c_16)) (cwV 1 hts gX3_claimantByQueue_X3_hatIsPlaced rfl rfl rfl (by decide +kernel) ⟨Nat.le_of_ble_eq_true rfl, Nat.le_of_ble_eq_true rfl⟩) hK hP rfl rfl rfl hl.1 rfl (Nat.le_of_ble_eq_true rfl) ⟨Nat.zero_le _, Nat.zero_le _⟩ dX3_claimantByQueue_21 ?_
        refine lv_if_ne (tgt := 29) hx hb dX3_claimantByQueue_24 (by decide) (fun c_24 => ?_) (fun c_24 => ?_)
        · have hf := hf.trans (if_neg c_24)
          refine lv_iinc (v := nI (k + 1)) (lv' := [(2, .int (nI (k + 1))), (3, .int (fX3_ownerAt u x1 (nI k))), (0, .ref (a 8)), (1, .int x1)]) hx hb dX3_claimantByQueue_29 hl (k := 3) rfl (nI_1 k) (by decide) rfl (fun ls hl => ?_)
          refine lv_goto (tgt := 2) hx hb dX3_claimantByQueue_32 (by decide) ?_
          exact ih (k + 1) (by omega)   hf ls (lv_sub hl [2, 3, 0] rfl)
        · have hf := hf.trans (if_pos c_24)
          refine lv_iload_n hx hb dX3_claimantByQueue_27 rfl (lv_at hl 0 rfl) ?_
          exact W.iret (v := fX3_ownerAt u x1 (nI k)) hx hb hr (fun t ht hW => ⟨fX3_ownerAt u x1 (nI k), rfl, hf.symm, ht⟩) (fun _ h => by cases h) dX3_claimantByQueue_28
  have hf : fX3_claimantByQueue u x1 = fX3_claimantByQueue u x1 := rfl
  refine W_entry (Nat.le_of_ble_eq_true rfl) (fun ls hl => ?_)
  have hl : lv_has ls 4 [(0, .ref (a 8)), (1, .int x1)] := hl
  refine lv_iconst (v := 0) hx hb dX3_claimantByQueue_0 (by decide) ?_
  refine lv_istore_n (lv' := [(2, .int 0), (0, .ref (a 8)), (1, .int x1)]) hx hb dX3_claimantByQueue_1 rfl hl (by decide) rfl (fun ls hl => ?_)
  exact cut_2 3 0 (by omega)   hf ls (lv_sub hl [1, 2, 0] rfl)
def fX3_isStronger (u : HS) (x1 : Int32) (x2 : Int32) : Int32 :=
  (if x2 = (-1) then 0 else (if ((h0 u) x1.toNatClampNeg) ≤ ((h0 u) x2.toNatClampNeg) then 0 else 1))
set_option maxHeartbeats 4000000 in
set_option maxRecDepth 100000 in
/-- isStronger -/
theorem kX3_isStronger (l : Launch) (D : va_G) (ca : Nat → ClassId) (a : Nat → Nat) (u : HS) (x1 : Int32) (x2 : Int32) (hg : vp_in x1 8) (hd : x2 = -1 ∨ vp_in x2 8) : Met l yX3_isStronger wsX3_isStronger ({ frames := 0, cells := 0, slots := 0, locals := 0 }) (RPc D ca (HW ca a u) [.ref (a 8), .int x1, .int x2]) (vp_Si (fun r => r = fX3_isStronger u x1 x2)) 0 0 (fun _ => False) := by
  refine Met.ofW (cc := cX3_isStronger) (maxL := 3) (ret := (some .boolean)) (by decide) rfl ?_
  intro p e s m args below meth c s₁ B hml hv
  obtain ⟨rfl, hP, hK⟩ := hv
  have hx := B.exec
  have hb := B.bytes
  have hr := B.returns
  have hts := atoms_spec (ws := wsX3_isStronger) B.pre
  have hown : s.vm.findClass RX3 = some m.cls := findClass_of_methodNamed B.named
  have hlocks := B.notSynchronized
  have hin3 : ∀ w ∈ wsX30, w ∈ wsX3_isStronger := by decide +kernel
  have hf : fX3_isStronger u x1 x2 = fX3_isStronger u x1 x2 := rfl
  refine W_entry (Nat.le_of_ble_eq_true rfl) (fun ls hl => ?_)
  have hl : lv_has ls 3 [(0, .ref (a 8)), (1, .int x1), (2, .int x2)] := hl
  refine lv_iload_n hx hb dX3_isStronger_0 rfl (lv_at hl 2 rfl) ?_
  refine lv_iconst (v := (-1)) hx hb dX3_isStronger_1 (by decide) ?_
  refine lv_icmp_eq (tgt := 24) hx hb dX3_isStronger_2 (by decide) (fun c_2 => ?_) (fun c_2 => ?_)
  · have hf := hf.trans (if_pos c_2)
    refine lv_iconst (v := 0) hx hb dX3_isStronger_24 (by decide) ?_
    exact W.zret (ty := .boolean) (v := 0) hx hb hr (by decide) (fun t ht hW => ⟨0, rfl, hf.symm, ht⟩) (fun _ h => by cases h) dX3_isStronger_25
  · have hf := hf.trans (if_neg c_2)
    refine lv_aload_n hx hb dX3_isStronger_5 rfl (lv_at hl 0 rfl) ?_
    refine va_get (D := D) (ci := 4) (v := .ref (a 0)) (C := RX3) (T := TX3) (N := 15) hx hb hts hin3 hown hK hP 0 rfl rfl 0 (by decide) (hts (.fieldLink RX3 9 "HatReservations$Hall" "feathers" "[I") (by decide +kernel)) (fun _ h9 => h9) rfl dX3_isStronger_6 ?_
    refine lv_iload_n hx hb dX3_isStronger_9 rfl (lv_at hl 1 rfl) ?_
    refine va_iald (f := h0 u) hx hb hK hP 1 0 rfl rfl hg dX3_isStronger_10 ?_
    refine lv_aload_n hx hb dX3_isStronger_11 rfl (lv_at hl 0 rfl) ?_
    refine va_get (D := D) (ci := 4) (v := .ref (a 0)) (C := RX3) (T := TX3) (N := 15) hx hb hts hin3 hown hK hP 0 rfl rfl 0 (by decide) (hts (.fieldLink RX3 9 "HatReservations$Hall" "feathers" "[I") (by decide +kernel)) (fun _ h9 => h9) rfl dX3_isStronger_12 ?_
    refine lv_iload_n hx hb dX3_isStronger_15 rfl (lv_at hl 2 rfl) ?_
    refine va_iald (f := h0 u) hx hb hK hP 1 0 rfl rfl (Or.resolve_left hd c_2) dX3_isStronger_16 ?_
    refine lv_icmp_le (tgt := 24) hx hb dX3_isStronger_17 (by decide) (fun c_17 => ?_) (fun c_17 => ?_)
    · have hf := hf.trans (if_pos c_17)
      refine lv_iconst (v := 0) hx hb dX3_isStronger_24 (by decide) ?_
      exact W.zret (ty := .boolean) (v := 0) hx hb hr (by decide) (fun t ht hW => ⟨0, rfl, hf.symm, ht⟩) (fun _ h => by cases h) dX3_isStronger_25
    · have hf := hf.trans (if_neg c_17)
      refine lv_iconst (v := 1) hx hb dX3_isStronger_20 (by decide) ?_
      refine lv_goto (tgt := 25) hx hb dX3_isStronger_21 (by decide) ?_
      exact W.zret (ty := .boolean) (v := 1) hx hb hr (by decide) (fun t ht hW => ⟨1, rfl, hf.symm, ht⟩) (fun _ h => by cases h) dX3_isStronger_25
theorem isStronger_in {u : HS} {x y : Int32} (hd : y = -1 ∨ vp_in y 8) (h : ¬ fX3_isStronger u x y = 0) : vp_in y 8 := by
  rcases hd with e | e
  · unfold fX3_isStronger at h
    rw [if_pos e] at h
    exact absurd rfl h
  · exact e
def fX3_idlest_4 : Nat → Nat → HS → Int32 → Int32
  | 0, k, u, y1 => y1
  | n + 1, k, u, y1 => (if (fX3_hatIsPlaced u (nI k)) = 0 then fX3_idlest_4 n (k + 1) u y1 else (if y1 = (-1) then fX3_idlest_4 n (k + 1) u (nI k) else (if (fX3_idleTime u (nI k)) ≤ (fX3_idleTime u y1) then fX3_idlest_4 n (k + 1) u y1 else fX3_idlest_4 n (k + 1) u (nI k))))
def fX3_idlest (u : HS) : Int32 :=
  fX3_idlest_4 8 0 u (-1)
set_option maxHeartbeats 4000000 in
set_option maxRecDepth 100000 in
/-- idlest -/
theorem kX3_idlest (l : Launch) (D : va_G) (ca : Nat → ClassId) (a : Nat → Nat) (u : HS) : Met l yX3_idlest wsX3_idlest ({ frames := 1, cells := 0, slots := 0, locals := 21 }) (RPc D ca (HW ca a u) [.ref (a 8)]) (vp_Si (fun r => r = fX3_idlest u)) 0 0 (fun _ => False) := by
  refine Met.ofW (cc := cX3_idlest) (maxL := 3) (ret := (some .int)) (by decide) rfl ?_
  intro p e s m args below meth c s₁ B hml hv
  obtain ⟨rfl, hP, hK⟩ := hv
  have hx := B.exec
  have hb := B.bytes
  have hr := B.returns
  have hts := atoms_spec (ws := wsX3_idlest) B.pre
  have hown : s.vm.findClass RX3 = some m.cls := findClass_of_methodNamed B.named
  have hlocks := B.notSynchronized
  have cut_4 : ∀ (n k : Nat) (hnk : n + k = 8) (y1 : Int32) (hy : y1 = -1 ∨ vp_in y1 8) (hf : fX3_idlest u = fX3_idlest_4 n k u y1) (ls : Array Slot) (hl : lv_has ls 3 [(0, .ref (a 8)), (1, .int y1), (2, .int (nI k))]), W p l e (headSpec wsX3_idlest ({ frames := 1, cells := 0, slots := 0, locals := 21 })).room s m ([.ref (a 8)] : List Value).toArray below meth c s.heap [] 0 0 (MQ below (vp_Si (fun r => r = fX3_idlest u)) ([.ref (a 8)] : List Value).toArray s 0 0 (fun _ => False)) (F0 m 4 ls []) := by
    intro n
    induction n with
    | zero =>
      intro k hnk y1 hy hf ls hl
      obtain rfl : k = 8 := by omega
      refine lv_iload_n hx hb dX3_idlest_4 rfl (lv_at hl 2 rfl) ?_
      refine lv_bipush (v := 8) hx hb dX3_idlest_5 (by decide) ?_
      refine lv_icmp_ge (tgt := 44) hx hb dX3_idlest_7 (by decide) (fun _ => ?_) (fun q => absurd (by decide) q)
      refine lv_iload_n hx hb dX3_idlest_44 rfl (lv_at hl 1 rfl) ?_
      exact W.iret (v := y1) hx hb hr (fun t ht hW => ⟨y1, rfl, hf.symm, ht⟩) (fun _ h => by cases h) dX3_idlest_45
    | succ n ih =>
      intro k hnk y1 hy hf ls hl
      refine lv_iload_n hx hb dX3_idlest_4 rfl (lv_at hl 2 rfl) ?_
      refine lv_bipush (v := 8) hx hb dX3_idlest_5 (by decide) ?_
      refine lv_icmp_ge (tgt := 44) hx hb dX3_idlest_7 (by decide) (fun q => absurd q (show ¬ (8 : Int32) ≤ nI k from nI_ge (b := 8) (by omega) (by decide))) (fun _ => ?_)
      refine lv_aload_n hx hb dX3_idlest_10 rfl (lv_at hl 0 rfl) ?_
      refine lv_iload_n hx hb dX3_idlest_11 rfl (lv_at hl 2 rfl) ?_
      refine hcRi (As := [.int (nI k)]) (rest := []) 0 4 ⟨hx, hb, hml, hown, hts⟩ (kX3_hatIsPlaced l D ca a u (nI k) (vp_in_nI (by omega) (by decide))) (cwV 1 hts gX3_idlest_X3_hatIsPlaced rfl rfl rfl (by decide +kernel) ⟨Nat.le_of_ble_eq_true rfl, Nat.le_of_ble_eq_true rfl⟩) hK hP rfl rfl rfl hl.1 rfl (Nat.le_of_ble_eq_true rfl) ⟨Nat.zero_le _, Nat.zero_le _⟩ dX3_idlest_12 ?_
      refine lv_if_eq (tgt := 38) hx hb dX3_idlest_15 (by decide) (fun c_15 => ?_) (fun c_15 => ?_)
      · have hf := hf.trans (if_pos c_15)
        refine lv_iinc (v := nI (k + 1)) (lv' := [(2, .int (nI (k + 1))), (0, .ref (a 8)), (1, .int y1)]) hx hb dX3_idlest_38 hl (k := 2) rfl (nI_1 k) (by decide) rfl (fun ls hl => ?_)
        refine lv_goto (tgt := 4) hx hb dX3_idlest_41 (by decide) ?_
        exact ih (k + 1) (by omega) y1 (by first | exact hy | exact Or.inl rfl | exact Or.inr (vp_in_nI (by omega) (by decide))) hf ls (lv_sub hl [1, 2, 0] rfl)
      · have hf := hf.trans (if_neg c_15)
        refine lv_iload_n hx hb dX3_idlest_18 rfl (lv_at hl 1 rfl) ?_
        refine lv_iconst (v := (-1)) hx hb dX3_idlest_19 (by decide) ?_
        refine lv_icmp_eq (tgt := 36) hx hb dX3_idlest_20 (by decide) (fun c_20 => ?_) (fun c_20 => ?_)
        · have hf := hf.trans (if_pos c_20)
          refine lv_iload_n hx hb dX3_idlest_36 rfl (lv_at hl 2 rfl) ?_
          refine lv_istore_n (lv' := [(1, .int (nI k)), (0, .ref (a 8)), (2, .int (nI k))]) hx hb dX3_idlest_37 rfl hl (by decide) rfl (fun ls hl => ?_)
          refine lv_iinc (v := nI (k + 1)) (lv' := [(2, .int (nI (k + 1))), (1, .int (nI k)), (0, .ref (a 8))]) hx hb dX3_idlest_38 hl (k := 2) rfl (nI_1 k) (by decide) rfl (fun ls hl => ?_)
          refine lv_goto (tgt := 4) hx hb dX3_idlest_41 (by decide) ?_
          exact ih (k + 1) (by omega) (nI k) (by first | exact hy | exact Or.inl rfl | exact Or.inr (vp_in_nI (by omega) (by decide))) hf ls (lv_sub hl [2, 1, 0] rfl)
        · have hf := hf.trans (if_neg c_20)
          refine lv_aload_n hx hb dX3_idlest_23 rfl (lv_at hl 0 rfl) ?_
          refine lv_iload_n hx hb dX3_idlest_24 rfl (lv_at hl 2 rfl) ?_
          refine hcRi (As := [.int (nI k)]) (rest := []) 0 4 ⟨hx, hb, hml, hown, hts⟩ (kX3_idleTime l D ca a u (nI k) (vp_in_nI (by omega) (by decide))) (cwV 1 hts gX3_idlest_X3_idleTime rfl rfl rfl (by decide +kernel) ⟨Nat.le_of_ble_eq_true rfl, Nat.le_of_ble_eq_true rfl⟩) hK hP rfl rfl rfl hl.1 rfl (Nat.le_of_ble_eq_true rfl) ⟨Nat.zero_le _, Nat.zero_le _⟩ dX3_idlest_25 ?_
          refine lv_aload_n hx hb dX3_idlest_28 rfl (lv_at hl 0 rfl) ?_
          refine lv_iload_n hx hb dX3_idlest_29 rfl (lv_at hl 1 rfl) ?_
          refine hcRi (As := [.int y1]) (rest := [.int (fX3_idleTime u (nI k))]) 0 4 ⟨hx, hb, hml, hown, hts⟩ (kX3_idleTime l D ca a u y1 (Or.resolve_left hy c_20)) (cwV 1 hts gX3_idlest_X3_idleTime rfl rfl rfl (by decide +kernel) ⟨Nat.le_of_ble_eq_true rfl, Nat.le_of_ble_eq_true rfl⟩) hK hP rfl rfl rfl hl.1 rfl (Nat.le_of_ble_eq_true rfl) ⟨Nat.zero_le _, Nat.zero_le _⟩ dX3_idlest_30 ?_
          refine lv_icmp_le (tgt := 38) hx hb dX3_idlest_33 (by decide) (fun c_33 => ?_) (fun c_33 => ?_)
          · have hf := hf.trans (if_pos c_33)
            refine lv_iinc (v := nI (k + 1)) (lv' := [(2, .int (nI (k + 1))), (0, .ref (a 8)), (1, .int y1)]) hx hb dX3_idlest_38 hl (k := 2) rfl (nI_1 k) (by decide) rfl (fun ls hl => ?_)
            refine lv_goto (tgt := 4) hx hb dX3_idlest_41 (by decide) ?_
            exact ih (k + 1) (by omega) y1 (by first | exact hy | exact Or.inl rfl | exact Or.inr (vp_in_nI (by omega) (by decide))) hf ls (lv_sub hl [1, 2, 0] rfl)
          · have hf := hf.trans (if_neg c_33)
            refine lv_iload_n hx hb dX3_idlest_36 rfl (lv_at hl 2 rfl) ?_
            refine lv_istore_n (lv' := [(1, .int (nI k)), (0, .ref (a 8)), (2, .int (nI k))]) hx hb dX3_idlest_37 rfl hl (by decide) rfl (fun ls hl => ?_)
            refine lv_iinc (v := nI (k + 1)) (lv' := [(2, .int (nI (k + 1))), (1, .int (nI k)), (0, .ref (a 8))]) hx hb dX3_idlest_38 hl (k := 2) rfl (nI_1 k) (by decide) rfl (fun ls hl => ?_)
            refine lv_goto (tgt := 4) hx hb dX3_idlest_41 (by decide) ?_
            exact ih (k + 1) (by omega) (nI k) (by first | exact hy | exact Or.inl rfl | exact Or.inr (vp_in_nI (by omega) (by decide))) hf ls (lv_sub hl [2, 1, 0] rfl)
  have hf : fX3_idlest u = fX3_idlest u := rfl
  refine W_entry (Nat.le_of_ble_eq_true rfl) (fun ls hl => ?_)
  have hl : lv_has ls 3 [(0, .ref (a 8))] := hl
  refine lv_iconst (v := (-1)) hx hb dX3_idlest_0 (by decide) ?_
  refine lv_istore_n (lv' := [(1, .int (-1)), (0, .ref (a 8))]) hx hb dX3_idlest_1 rfl hl (by decide) rfl (fun ls hl => ?_)
  refine lv_iconst (v := 0) hx hb dX3_idlest_2 (by decide) ?_
  refine lv_istore_n (lv' := [(2, .int 0), (1, .int (-1)), (0, .ref (a 8))]) hx hb dX3_idlest_3 rfl hl (by decide) rfl (fun ls hl => ?_)
  exact cut_4 8 0 (by omega) (-1) (by first | exact hy | exact Or.inl rfl | exact Or.inr (vp_in_nI (by omega) (by decide))) hf ls (lv_sub hl [2, 1, 0] rfl)
def fX3_coveredChairs_4 : Nat → Nat → HS → Int64 → Int64
  | 0, k, u, y1 => y1
  | n + 1, k, u, y1 => fX3_coveredChairs_4 n (k + 1) u (y1 ||| ((h4 u) k))
def fX3_coveredChairs (u : HS) : Int64 :=
  fX3_coveredChairs_4 8 0 u 0
set_option maxHeartbeats 4000000 in
set_option maxRecDepth 100000 in
/-- coveredChairs -/
theorem kX3_coveredChairs (l : Launch) (D : va_G) (ca : Nat → ClassId) (a : Nat → Nat) (u : HS) : Met l yX3_coveredChairs wsX3_coveredChairs ({ frames := 0, cells := 0, slots := 0, locals := 0 }) (RPc D ca (HW ca a u) [.ref (a 8)]) (vp_Sl (fun r => r = fX3_coveredChairs u)) 0 0 (fun _ => False) := by
  refine Met.ofW (cc := cX3_coveredChairs) (maxL := 4) (ret := (some .long)) (by decide) rfl ?_
  intro p e s m args below meth c s₁ B hml hv
  obtain ⟨rfl, hP, hK⟩ := hv
  have hx := B.exec
  have hb := B.bytes
  have hr := B.returns
  have hts := atoms_spec (ws := wsX3_coveredChairs) B.pre
  have hown : s.vm.findClass RX3 = some m.cls := findClass_of_methodNamed B.named
  have hlocks := B.notSynchronized
  have hin3 : ∀ w ∈ wsX30, w ∈ wsX3_coveredChairs := by decide +kernel
  have cut_4 : ∀ (n k : Nat) (hnk : n + k = 8) (y1 : Int64) (hf : fX3_coveredChairs u = fX3_coveredChairs_4 n k u y1) (ls : Array Slot) (hl : lv_has ls 4 [(0, .ref (a 8)), (1, .long y1), (3, .int (nI k))]), W p l e (headSpec wsX3_coveredChairs ({ frames := 0, cells := 0, slots := 0, locals := 0 })).room s m ([.ref (a 8)] : List Value).toArray below meth c s.heap [] 0 0 (MQ below (vp_Sl (fun r => r = fX3_coveredChairs u)) ([.ref (a 8)] : List Value).toArray s 0 0 (fun _ => False)) (F0 m 4 ls []) := by
    intro n
    induction n with
    | zero =>
      intro k hnk y1 hf ls hl
      obtain rfl : k = 8 := by omega
      refine lv_iload_n hx hb dX3_coveredChairs_4 rfl (lv_at hl 2 rfl) ?_
      refine lv_bipush (v := 8) hx hb dX3_coveredChairs_5 (by decide) ?_
      refine lv_icmp_ge (tgt := 25) hx hb dX3_coveredChairs_7 (by decide) (fun _ => ?_) (fun q => absurd (by decide) q)
      refine lv_lload_n hx hb dX3_coveredChairs_25 rfl (lv_at hl 1 rfl) ?_
      exact W.lret (v := y1) hx hb hr (fun t ht hW => ⟨y1, rfl, hf.symm, ht⟩) (fun _ h => by cases h) dX3_coveredChairs_26
    | succ n ih =>
      intro k hnk y1 hf ls hl
      refine lv_iload_n hx hb dX3_coveredChairs_4 rfl (lv_at hl 2 rfl) ?_
      refine lv_bipush (v := 8) hx hb dX3_coveredChairs_5 (by decide) ?_
      refine lv_icmp_ge (tgt := 25) hx hb dX3_coveredChairs_7 (by decide) (fun q => absurd q (show ¬ (8 : Int32) ≤ nI k from nI_ge (b := 8) (by omega) (by decide))) (fun _ => ?_)
      refine lv_lload_n hx hb dX3_coveredChairs_10 rfl (lv_at hl 1 rfl) ?_
      refine lv_aload_n hx hb dX3_coveredChairs_11 rfl (lv_at hl 0 rfl) ?_
      refine va_get (D := D) (ci := 4) (v := .ref (a 4)) (C := RX3) (T := TX3) (N := 15) hx hb hts hin3 hown hK hP 0 rfl rfl 4 (by decide) (hts (.fieldLink RX3 24 "HatReservations$Hall" "covers" "[J") (by decide +kernel)) (fun _ h9 => h9) rfl dX3_coveredChairs_12 ?_
      refine lv_iload_n hx hb dX3_coveredChairs_15 rfl (lv_at hl 2 rfl) ?_
      refine laldN (f := h4 u) hx hb hK hP 5 1 rfl rfl (k := k) (by omega) (by decide) dX3_coveredChairs_16 ?_
      refine lv_lor hx hb dX3_coveredChairs_17 ?_
      refine lv_lstore_n (lv' := [(1, .long (y1 ||| ((h4 u) k))), (0, .ref (a 8)), (3, .int (nI k))]) hx hb dX3_coveredChairs_18 rfl hl (by decide) rfl (fun ls hl => ?_)
      refine lv_iinc (v := nI (k + 1)) (lv' := [(3, .int (nI (k + 1))), (1, .long (y1 ||| ((h4 u) k))), (0, .ref (a 8))]) hx hb dX3_coveredChairs_19 hl (k := 2) rfl (nI_1 k) (by decide) rfl (fun ls hl => ?_)
      refine lv_goto (tgt := 4) hx hb dX3_coveredChairs_22 (by decide) ?_
      exact ih (k + 1) (by omega) (y1 ||| ((h4 u) k))  hf ls (lv_sub hl [2, 1, 0] rfl)
  have hf : fX3_coveredChairs u = fX3_coveredChairs u := rfl
  refine W_entry (Nat.le_of_ble_eq_true rfl) (fun ls hl => ?_)
  have hl : lv_has ls 4 [(0, .ref (a 8))] := hl
  refine lv_lconst (v := 0) hx hb dX3_coveredChairs_0 (by decide) ?_
  refine lv_lstore_n (lv' := [(1, .long 0), (0, .ref (a 8))]) hx hb dX3_coveredChairs_1 rfl hl (by decide) rfl (fun ls hl => ?_)
  refine lv_iconst (v := 0) hx hb dX3_coveredChairs_2 (by decide) ?_
  refine lv_istore_n (lv' := [(3, .int 0), (1, .long 0), (0, .ref (a 8))]) hx hb dX3_coveredChairs_3 rfl hl (by decide) rfl (fun ls hl => ?_)
  exact cut_4 8 0 (by omega) 0  hf ls (lv_sub hl [2, 1, 0] rfl)
def fX3_countByChair_4 : Nat → Nat → HS → Int32 → Int32
  | 0, k, u, y1 => y1
  | n + 1, k, u, y1 => (if (fX3_covererAt u (nI k)) = (-1) then fX3_countByChair_4 n (k + 1) u y1 else fX3_countByChair_4 n (k + 1) u (y1 + 1))
def fX3_countByChair (u : HS) : Int32 :=
  fX3_countByChair_4 40 0 u 0
set_option maxHeartbeats 4000000 in
set_option maxRecDepth 100000 in
/-- countByChair -/
theorem kX3_countByChair (l : Launch) (D : va_G) (ca : Nat → ClassId) (a : Nat → Nat) (u : HS) : Met l yX3_countByChair wsX3_countByChair ({ frames := 1, cells := 0, slots := 0, locals := 22 }) (RPc D ca (HW ca a u) [.ref (a 8)]) (vp_Si (fun r => r = fX3_countByChair u)) 0 0 (fun _ => False) := by
  refine Met.ofW (cc := cX3_countByChair) (maxL := 3) (ret := (some .int)) (by decide) rfl ?_
  intro p e s m args below meth c s₁ B hml hv
  obtain ⟨rfl, hP, hK⟩ := hv
  have hx := B.exec
  have hb := B.bytes
  have hr := B.returns
  have hts := atoms_spec (ws := wsX3_countByChair) B.pre
  have hown : s.vm.findClass RX3 = some m.cls := findClass_of_methodNamed B.named
  have hlocks := B.notSynchronized
  have cut_4 : ∀ (n k : Nat) (hnk : n + k = 40) (y1 : Int32) (hf : fX3_countByChair u = fX3_countByChair_4 n k u y1) (ls : Array Slot) (hl : lv_has ls 3 [(0, .ref (a 8)), (1, .int y1), (2, .int (nI k))]), W p l e (headSpec wsX3_countByChair ({ frames := 1, cells := 0, slots := 0, locals := 22 })).room s m ([.ref (a 8)] : List Value).toArray below meth c s.heap [] 0 0 (MQ below (vp_Si (fun r => r = fX3_countByChair u)) ([.ref (a 8)] : List Value).toArray s 0 0 (fun _ => False)) (F0 m 4 ls []) := by
    intro n
    induction n with
    | zero =>
      intro k hnk y1 hf ls hl
      obtain rfl : k = 40 := by omega
      refine lv_iload_n hx hb dX3_countByChair_4 rfl (lv_at hl 2 rfl) ?_
      refine lv_bipush (v := 40) hx hb dX3_countByChair_5 (by decide) ?_
      refine lv_icmp_ge (tgt := 28) hx hb dX3_countByChair_7 (by decide) (fun _ => ?_) (fun q => absurd (by decide) q)
      refine lv_iload_n hx hb dX3_countByChair_28 rfl (lv_at hl 1 rfl) ?_
      exact W.iret (v := y1) hx hb hr (fun t ht hW => ⟨y1, rfl, hf.symm, ht⟩) (fun _ h => by cases h) dX3_countByChair_29
    | succ n ih =>
      intro k hnk y1 hf ls hl
      refine lv_iload_n hx hb dX3_countByChair_4 rfl (lv_at hl 2 rfl) ?_
      refine lv_bipush (v := 40) hx hb dX3_countByChair_5 (by decide) ?_
      refine lv_icmp_ge (tgt := 28) hx hb dX3_countByChair_7 (by decide) (fun q => absurd q (show ¬ (40 : Int32) ≤ nI k from nI_ge (b := 40) (by omega) (by decide))) (fun _ => ?_)
      refine lv_aload_n hx hb dX3_countByChair_10 rfl (lv_at hl 0 rfl) ?_
      refine lv_iload_n hx hb dX3_countByChair_11 rfl (lv_at hl 2 rfl) ?_
      refine hcRi (As := [.int (nI k)]) (rest := []) 0 4 ⟨hx, hb, hml, hown, hts⟩ (kX3_covererAt l D ca a u (nI k) ) (cwV 1 hts gX3_countByChair_X3_covererAt rfl rfl rfl (by decide +kernel) ⟨Nat.le_of_ble_eq_true rfl, Nat.le_of_ble_eq_true rfl⟩) hK hP rfl rfl rfl hl.1 rfl (Nat.le_of_ble_eq_true rfl) ⟨Nat.zero_le _, Nat.zero_le _⟩ dX3_countByChair_12 ?_
      refine lv_iconst (v := (-1)) hx hb dX3_countByChair_15 (by decide) ?_
      refine lv_icmp_eq (tgt := 22) hx hb dX3_countByChair_16 (by decide) (fun c_16 => ?_) (fun c_16 => ?_)
      · have hf := hf.trans (if_pos c_16)
        refine lv_iinc (v := nI (k + 1)) (lv' := [(2, .int (nI (k + 1))), (0, .ref (a 8)), (1, .int y1)]) hx hb dX3_countByChair_22 hl (k := 2) rfl (nI_1 k) (by decide) rfl (fun ls hl => ?_)
        refine lv_goto (tgt := 4) hx hb dX3_countByChair_25 (by decide) ?_
        exact ih (k + 1) (by omega) y1  hf ls (lv_sub hl [1, 2, 0] rfl)
      · have hf := hf.trans (if_neg c_16)
        refine lv_iinc (v := y1 + 1) (lv' := [(1, .int (y1 + 1)), (0, .ref (a 8)), (2, .int (nI k))]) hx hb dX3_countByChair_19 hl (k := 1) rfl rfl (by decide) rfl (fun ls hl => ?_)
        refine lv_iinc (v := nI (k + 1)) (lv' := [(2, .int (nI (k + 1))), (1, .int (y1 + 1)), (0, .ref (a 8))]) hx hb dX3_countByChair_22 hl (k := 2) rfl (nI_1 k) (by decide) rfl (fun ls hl => ?_)
        refine lv_goto (tgt := 4) hx hb dX3_countByChair_25 (by decide) ?_
        exact ih (k + 1) (by omega) (y1 + 1)  hf ls (lv_sub hl [2, 1, 0] rfl)
  have hf : fX3_countByChair u = fX3_countByChair u := rfl
  refine W_entry (Nat.le_of_ble_eq_true rfl) (fun ls hl => ?_)
  have hl : lv_has ls 3 [(0, .ref (a 8))] := hl
  refine lv_iconst (v := 0) hx hb dX3_countByChair_0 (by decide) ?_
  refine lv_istore_n (lv' := [(1, .int 0), (0, .ref (a 8))]) hx hb dX3_countByChair_1 rfl hl (by decide) rfl (fun ls hl => ?_)
  refine lv_iconst (v := 0) hx hb dX3_countByChair_2 (by decide) ?_
  refine lv_istore_n (lv' := [(2, .int 0), (1, .int 0), (0, .ref (a 8))]) hx hb dX3_countByChair_3 rfl hl (by decide) rfl (fun ls hl => ?_)
  exact cut_4 40 0 (by omega) 0  hf ls (lv_sub hl [2, 1, 0] rfl)
def fX3_countPlaced_4 : Nat → Nat → HS → Int32 → Int32
  | 0, k, u, y1 => y1
  | n + 1, k, u, y1 => (if (fX3_hatIsPlaced u (nI k)) = 0 then fX3_countPlaced_4 n (k + 1) u y1 else fX3_countPlaced_4 n (k + 1) u (y1 + 1))
def fX3_countPlaced (u : HS) : Int32 :=
  fX3_countPlaced_4 8 0 u 0
set_option maxHeartbeats 4000000 in
set_option maxRecDepth 100000 in
/-- countPlaced -/
theorem kX3_countPlaced (l : Launch) (D : va_G) (ca : Nat → ClassId) (a : Nat → Nat) (u : HS) : Met l yX3_countPlaced wsX3_countPlaced ({ frames := 1, cells := 0, slots := 0, locals := 21 }) (RPc D ca (HW ca a u) [.ref (a 8)]) (vp_Si (fun r => r = fX3_countPlaced u)) 0 0 (fun _ => False) := by
  refine Met.ofW (cc := cX3_countPlaced) (maxL := 3) (ret := (some .int)) (by decide) rfl ?_
  intro p e s m args below meth c s₁ B hml hv
  obtain ⟨rfl, hP, hK⟩ := hv
  have hx := B.exec
  have hb := B.bytes
  have hr := B.returns
  have hts := atoms_spec (ws := wsX3_countPlaced) B.pre
  have hown : s.vm.findClass RX3 = some m.cls := findClass_of_methodNamed B.named
  have hlocks := B.notSynchronized
  have cut_4 : ∀ (n k : Nat) (hnk : n + k = 8) (y1 : Int32) (hf : fX3_countPlaced u = fX3_countPlaced_4 n k u y1) (ls : Array Slot) (hl : lv_has ls 3 [(0, .ref (a 8)), (1, .int y1), (2, .int (nI k))]), W p l e (headSpec wsX3_countPlaced ({ frames := 1, cells := 0, slots := 0, locals := 21 })).room s m ([.ref (a 8)] : List Value).toArray below meth c s.heap [] 0 0 (MQ below (vp_Si (fun r => r = fX3_countPlaced u)) ([.ref (a 8)] : List Value).toArray s 0 0 (fun _ => False)) (F0 m 4 ls []) := by
    intro n
    induction n with
    | zero =>
      intro k hnk y1 hf ls hl
      obtain rfl : k = 8 := by omega
      refine lv_iload_n hx hb dX3_countPlaced_4 rfl (lv_at hl 2 rfl) ?_
      refine lv_bipush (v := 8) hx hb dX3_countPlaced_5 (by decide) ?_
      refine lv_icmp_ge (tgt := 27) hx hb dX3_countPlaced_7 (by decide) (fun _ => ?_) (fun q => absurd (by decide) q)
      refine lv_iload_n hx hb dX3_countPlaced_27 rfl (lv_at hl 1 rfl) ?_
      exact W.iret (v := y1) hx hb hr (fun t ht hW => ⟨y1, rfl, hf.symm, ht⟩) (fun _ h => by cases h) dX3_countPlaced_28
    | succ n ih =>
      intro k hnk y1 hf ls hl
      refine lv_iload_n hx hb dX3_countPlaced_4 rfl (lv_at hl 2 rfl) ?_
      refine lv_bipush (v := 8) hx hb dX3_countPlaced_5 (by decide) ?_
      refine lv_icmp_ge (tgt := 27) hx hb dX3_countPlaced_7 (by decide) (fun q => absurd q (show ¬ (8 : Int32) ≤ nI k from nI_ge (b := 8) (by omega) (by decide))) (fun _ => ?_)
      refine lv_aload_n hx hb dX3_countPlaced_10 rfl (lv_at hl 0 rfl) ?_
      refine lv_iload_n hx hb dX3_countPlaced_11 rfl (lv_at hl 2 rfl) ?_
      refine hcRi (As := [.int (nI k)]) (rest := []) 0 4 ⟨hx, hb, hml, hown, hts⟩ (kX3_hatIsPlaced l D ca a u (nI k) (vp_in_nI (by omega) (by decide))) (cwV 1 hts gX3_countPlaced_X3_hatIsPlaced rfl rfl rfl (by decide +kernel) ⟨Nat.le_of_ble_eq_true rfl, Nat.le_of_ble_eq_true rfl⟩) hK hP rfl rfl rfl hl.1 rfl (Nat.le_of_ble_eq_true rfl) ⟨Nat.zero_le _, Nat.zero_le _⟩ dX3_countPlaced_12 ?_
      refine lv_if_eq (tgt := 21) hx hb dX3_countPlaced_15 (by decide) (fun c_15 => ?_) (fun c_15 => ?_)
      · have hf := hf.trans (if_pos c_15)
        refine lv_iinc (v := nI (k + 1)) (lv' := [(2, .int (nI (k + 1))), (0, .ref (a 8)), (1, .int y1)]) hx hb dX3_countPlaced_21 hl (k := 2) rfl (nI_1 k) (by decide) rfl (fun ls hl => ?_)
        refine lv_goto (tgt := 4) hx hb dX3_countPlaced_24 (by decide) ?_
        exact ih (k + 1) (by omega) y1  hf ls (lv_sub hl [1, 2, 0] rfl)
      · have hf := hf.trans (if_neg c_15)
        refine lv_iinc (v := y1 + 1) (lv' := [(1, .int (y1 + 1)), (0, .ref (a 8)), (2, .int (nI k))]) hx hb dX3_countPlaced_18 hl (k := 1) rfl rfl (by decide) rfl (fun ls hl => ?_)
        refine lv_iinc (v := nI (k + 1)) (lv' := [(2, .int (nI (k + 1))), (1, .int (y1 + 1)), (0, .ref (a 8))]) hx hb dX3_countPlaced_21 hl (k := 2) rfl (nI_1 k) (by decide) rfl (fun ls hl => ?_)
        refine lv_goto (tgt := 4) hx hb dX3_countPlaced_24 (by decide) ?_
        exact ih (k + 1) (by omega) (y1 + 1)  hf ls (lv_sub hl [2, 1, 0] rfl)
  have hf : fX3_countPlaced u = fX3_countPlaced u := rfl
  refine W_entry (Nat.le_of_ble_eq_true rfl) (fun ls hl => ?_)
  have hl : lv_has ls 3 [(0, .ref (a 8))] := hl
  refine lv_iconst (v := 0) hx hb dX3_countPlaced_0 (by decide) ?_
  refine lv_istore_n (lv' := [(1, .int 0), (0, .ref (a 8))]) hx hb dX3_countPlaced_1 rfl hl (by decide) rfl (fun ls hl => ?_)
  refine lv_iconst (v := 0) hx hb dX3_countPlaced_2 (by decide) ?_
  refine lv_istore_n (lv' := [(2, .int 0), (1, .int 0), (0, .ref (a 8))]) hx hb dX3_countPlaced_3 rfl hl (by decide) rfl (fun ls hl => ?_)
  exact cut_4 8 0 (by omega) 0  hf ls (lv_sub hl [2, 1, 0] rfl)
def fX3_freeRunByScan_7 : Nat → Nat → HS → Int32 → Int32 → Int32 → Int32
  | 0, k, u, x1, y2, y3 => y2
  | n + 1, k, u, x1, y2, y3 => (if (fX3_covererAt u ((x1 * 10) + (nI k))) = (-1) then fX3_freeRunByScan_7 n (k + 1) u x1 (if y2 < y3 + 1 then y3 + 1 else y2) (y3 + 1) else fX3_freeRunByScan_7 n (k + 1) u x1 (if y2 < 0 then 0 else y2) 0)
def fX3_freeRunByScan (u : HS) (x1 : Int32) : Int32 :=
  fX3_freeRunByScan_7 10 0 u x1 0 0
set_option maxHeartbeats 4000000 in
set_option maxRecDepth 100000 in
/-- freeRunByScan -/
theorem kX3_freeRunByScan (l : Launch) (D : va_G) (ca : Nat → ClassId) (a : Nat → Nat) (u : HS) (x1 : Int32) : Met l yX3_freeRunByScan wsX3_freeRunByScan ({ frames := 1, cells := 0, slots := 0, locals := 22 }) (RPc D ca (HW ca a u) [.ref (a 8), .int x1]) (vp_Si (fun r => r = fX3_freeRunByScan u x1)) 0 0 (fun _ => False) := by
  refine Met.ofW (cc := cX3_freeRunByScan) (maxL := 5) (ret := (some .int)) (by decide) rfl ?_
  intro p e s m args below meth c s₁ B hml hv
  obtain ⟨rfl, hP, hK⟩ := hv
  have hx := B.exec
  have hb := B.bytes
  have hr := B.returns
  have hts := atoms_spec (ws := wsX3_freeRunByScan) B.pre
  have hown : s.vm.findClass RX3 = some m.cls := findClass_of_methodNamed B.named
  have hlocks := B.notSynchronized
  have cut_7 : ∀ (n k : Nat) (hnk : n + k = 10) (y2 : Int32) (y3 : Int32) (hf : fX3_freeRunByScan u x1 = fX3_freeRunByScan_7 n k u x1 y2 y3) (ls : Array Slot) (hl : lv_has ls 5 [(0, .ref (a 8)), (1, .int x1), (2, .int y2), (3, .int y3), (4, .int (nI k))]), W p l e (headSpec wsX3_freeRunByScan ({ frames := 1, cells := 0, slots := 0, locals := 22 })).room s m ([.ref (a 8), .int x1] : List Value).toArray below meth c s.heap [] 0 0 (MQ below (vp_Si (fun r => r = fX3_freeRunByScan u x1)) ([.ref (a 8), .int x1] : List Value).toArray s 0 0 (fun _ => False)) (F0 m 7 ls []) := by
    intro n
    induction n with
    | zero =>
      intro k hnk y2 y3 hf ls hl
      obtain rfl : k = 10 := by omega
      refine lv_iload hx hb dX3_freeRunByScan_7 (lv_at hl 4 rfl) ?_
      refine lv_bipush (v := 10) hx hb dX3_freeRunByScan_9 (by decide) ?_
      refine lv_icmp_ge (tgt := 49) hx hb dX3_freeRunByScan_11 (by decide) (fun _ => ?_) (fun q => absurd (by decide) q)
      refine lv_iload_n hx hb dX3_freeRunByScan_49 rfl (lv_at hl 2 rfl) ?_
      exact W.iret (v := y2) hx hb hr (fun t ht hW => ⟨y2, rfl, hf.symm, ht⟩) (fun _ h => by cases h) dX3_freeRunByScan_50
    | succ n ih =>
      intro k hnk y2 y3 hf ls hl
      refine lv_iload hx hb dX3_freeRunByScan_7 (lv_at hl 4 rfl) ?_
      refine lv_bipush (v := 10) hx hb dX3_freeRunByScan_9 (by decide) ?_
      refine lv_icmp_ge (tgt := 49) hx hb dX3_freeRunByScan_11 (by decide) (fun q => absurd q (show ¬ (10 : Int32) ≤ nI k from nI_ge (b := 10) (by omega) (by decide))) (fun _ => ?_)
      refine lv_aload_n hx hb dX3_freeRunByScan_14 rfl (lv_at hl 0 rfl) ?_
      refine lv_iload_n hx hb dX3_freeRunByScan_15 rfl (lv_at hl 1 rfl) ?_
      refine lv_bipush (v := 10) hx hb dX3_freeRunByScan_16 (by decide) ?_
      refine lv_imul hx hb dX3_freeRunByScan_18 ?_
      refine lv_iload hx hb dX3_freeRunByScan_19 (lv_at hl 4 rfl) ?_
      refine lv_iadd hx hb dX3_freeRunByScan_21 ?_
      refine hcRi (As := [.int ((x1 * 10) + (nI k))]) (rest := []) 0 4 ⟨hx, hb, hml, hown, hts⟩ (kX3_covererAt l D ca a u ((x1 * 10) + (nI k)) ) (cwV 1 hts gX3_freeRunByScan_X3_covererAt rfl rfl rfl (by decide +kernel) ⟨Nat.le_of_ble_eq_true rfl, Nat.le_of_ble_eq_true rfl⟩) hK hP rfl rfl rfl hl.1 rfl (Nat.le_of_ble_eq_true rfl) ⟨Nat.zero_le _, Nat.zero_le _⟩ dX3_freeRunByScan_22 ?_
      refine lv_iconst (v := (-1)) hx hb dX3_freeRunByScan_25 (by decide) ?_
      refine lv_icmp_ne (tgt := 35) hx hb dX3_freeRunByScan_26 (by decide) (fun c_26 => ?_) (fun c_26 => ?_)
      · have hf := hf.trans (if_neg c_26)
        refine lv_iconst (v := 0) hx hb dX3_freeRunByScan_35 (by decide) ?_
        refine lv_istore_n (lv' := [(3, .int 0), (0, .ref (a 8)), (1, .int x1), (2, .int y2), (4, .int (nI k))]) hx hb dX3_freeRunByScan_36 rfl hl (by decide) rfl (fun ls hl => ?_)
        refine lv_iload_n hx hb dX3_freeRunByScan_37 rfl (lv_at hl 3 rfl) ?_
        refine lv_iload_n hx hb dX3_freeRunByScan_38 rfl (lv_at hl 0 rfl) ?_
        refine va_mmax hx hb (by rw [hml]; exact hl.1.symm) hown (hts (.methodLink RX3 125 Lib.Math.max.name) (by decide +kernel)) (hts (.static Lib.Math.max.name) (by decide +kernel)) (hts (.initialized "java/lang/Math") (by decide +kernel)) (hts (.code Lib.Math.max.name Lib.Math.max.code 2 (some .int)) (by decide +kernel)) (Nat.le_of_ble_eq_true rfl) (Nat.le_of_ble_eq_true rfl) (Nat.zero_le _) (Nat.zero_le _) dX3_freeRunByScan_39 ?_
        refine lv_istore_n (lv' := [(2, .int (if y2 < 0 then 0 else y2)), (3, .int 0), (0, .ref (a 8)), (1, .int x1), (4, .int (nI k))]) hx hb dX3_freeRunByScan_42 rfl hl (by decide) rfl (fun ls hl => ?_)
        refine lv_iinc (v := nI (k + 1)) (lv' := [(4, .int (nI (k + 1))), (2, .int (if y2 < 0 then 0 else y2)), (3, .int 0), (0, .ref (a 8)), (1, .int x1)]) hx hb dX3_freeRunByScan_43 hl (k := 4) rfl (nI_1 k) (by decide) rfl (fun ls hl => ?_)
        refine lv_goto (tgt := 7) hx hb dX3_freeRunByScan_46 (by decide) ?_
        exact ih (k + 1) (by omega) (if y2 < 0 then 0 else y2) 0  hf ls (lv_sub hl [3, 4, 1, 2, 0] rfl)
      · have hf := hf.trans (if_pos c_26)
        refine lv_iload_n hx hb dX3_freeRunByScan_29 rfl (lv_at hl 3 rfl) ?_
        refine lv_iconst (v := 1) hx hb dX3_freeRunByScan_30 (by decide) ?_
        refine lv_iadd hx hb dX3_freeRunByScan_31 ?_
        refine lv_goto (tgt := 36) hx hb dX3_freeRunByScan_32 (by decide) ?_
        refine lv_istore_n (lv' := [(3, .int (y3 + 1)), (0, .ref (a 8)), (1, .int x1), (2, .int y2), (4, .int (nI k))]) hx hb dX3_freeRunByScan_36 rfl hl (by decide) rfl (fun ls hl => ?_)
        refine lv_iload_n hx hb dX3_freeRunByScan_37 rfl (lv_at hl 3 rfl) ?_
        refine lv_iload_n hx hb dX3_freeRunByScan_38 rfl (lv_at hl 0 rfl) ?_
        refine va_mmax hx hb (by rw [hml]; exact hl.1.symm) hown (hts (.methodLink RX3 125 Lib.Math.max.name) (by decide +kernel)) (hts (.static Lib.Math.max.name) (by decide +kernel)) (hts (.initialized "java/lang/Math") (by decide +kernel)) (hts (.code Lib.Math.max.name Lib.Math.max.code 2 (some .int)) (by decide +kernel)) (Nat.le_of_ble_eq_true rfl) (Nat.le_of_ble_eq_true rfl) (Nat.zero_le _) (Nat.zero_le _) dX3_freeRunByScan_39 ?_
        refine lv_istore_n (lv' := [(2, .int (if y2 < y3 + 1 then y3 + 1 else y2)), (3, .int (y3 + 1)), (0, .ref (a 8)), (1, .int x1), (4, .int (nI k))]) hx hb dX3_freeRunByScan_42 rfl hl (by decide) rfl (fun ls hl => ?_)
        refine lv_iinc (v := nI (k + 1)) (lv' := [(4, .int (nI (k + 1))), (2, .int (if y2 < y3 + 1 then y3 + 1 else y2)), (3, .int (y3 + 1)), (0, .ref (a 8)), (1, .int x1)]) hx hb dX3_freeRunByScan_43 hl (k := 4) rfl (nI_1 k) (by decide) rfl (fun ls hl => ?_)
        refine lv_goto (tgt := 7) hx hb dX3_freeRunByScan_46 (by decide) ?_
        exact ih (k + 1) (by omega) (if y2 < y3 + 1 then y3 + 1 else y2) (y3 + 1)  hf ls (lv_sub hl [3, 4, 1, 2, 0] rfl)
  have hf : fX3_freeRunByScan u x1 = fX3_freeRunByScan u x1 := rfl
  refine W_entry (Nat.le_of_ble_eq_true rfl) (fun ls hl => ?_)
  have hl : lv_has ls 5 [(0, .ref (a 8)), (1, .int x1)] := hl
  refine lv_iconst (v := 0) hx hb dX3_freeRunByScan_0 (by decide) ?_
  refine lv_istore_n (lv' := [(2, .int 0), (0, .ref (a 8)), (1, .int x1)]) hx hb dX3_freeRunByScan_1 rfl hl (by decide) rfl (fun ls hl => ?_)
  refine lv_iconst (v := 0) hx hb dX3_freeRunByScan_2 (by decide) ?_
  refine lv_istore_n (lv' := [(3, .int 0), (2, .int 0), (0, .ref (a 8)), (1, .int x1)]) hx hb dX3_freeRunByScan_3 rfl hl (by decide) rfl (fun ls hl => ?_)
  refine lv_iconst (v := 0) hx hb dX3_freeRunByScan_4 (by decide) ?_
  refine lv_istore (lv' := [(4, .int 0), (3, .int 0), (2, .int 0), (0, .ref (a 8)), (1, .int x1)]) hx hb dX3_freeRunByScan_5 hl (by decide) rfl (fun ls hl => ?_)
  exact cut_7 10 0 (by omega) 0 0  hf ls (lv_sub hl [3, 4, 2, 1, 0] rfl)
def fX3_precedes (u : HS) (x1 : Int32) (x2 : Int32) : Int32 :=
  (if (fX3_coverOf u x1) = (fX3_coverOf u x2) then (if ((h0 u) x1.toNatClampNeg) = ((h0 u) x2.toNatClampNeg) then (if x2 ≤ x1 then 0 else 1) else (if ((h0 u) x1.toNatClampNeg) ≤ ((h0 u) x2.toNatClampNeg) then 0 else 1)) else (if (fX3_coverOf u x1) ≤ (fX3_coverOf u x2) then 0 else 1))
set_option maxHeartbeats 4000000 in
set_option maxRecDepth 100000 in
/-- precedes -/
theorem kX3_precedes (l : Launch) (D : va_G) (ca : Nat → ClassId) (a : Nat → Nat) (u : HS) (x1 : Int32) (x2 : Int32) (hg : vp_in x1 8) (hg2 : vp_in x2 8) : Met l yX3_precedes wsX3_precedes ({ frames := 2, cells := 0, slots := 0, locals := 42 }) (RPc D ca (HW ca a u) [.ref (a 8), .int x1, .int x2]) (vp_Si (fun r => r = fX3_precedes u x1 x2)) 0 0 (fun _ => False) := by
  refine Met.ofW (cc := cX3_precedes) (maxL := 3) (ret := (some .boolean)) (by decide) rfl ?_
  intro p e s m args below meth c s₁ B hml hv
  obtain ⟨rfl, hP, hK⟩ := hv
  have hx := B.exec
  have hb := B.bytes
  have hr := B.returns
  have hts := atoms_spec (ws := wsX3_precedes) B.pre
  have hown : s.vm.findClass RX3 = some m.cls := findClass_of_methodNamed B.named
  have hlocks := B.notSynchronized
  have hin3 : ∀ w ∈ wsX30, w ∈ wsX3_precedes := by decide +kernel
  have hf : fX3_precedes u x1 x2 = fX3_precedes u x1 x2 := rfl
  refine W_entry (Nat.le_of_ble_eq_true rfl) (fun ls hl => ?_)
  have hl : lv_has ls 3 [(0, .ref (a 8)), (1, .int x1), (2, .int x2)] := hl
  refine lv_aload_n hx hb dX3_precedes_0 rfl (lv_at hl 0 rfl) ?_
  refine lv_iload_n hx hb dX3_precedes_1 rfl (lv_at hl 1 rfl) ?_
  refine hcRi (As := [.int x1]) (rest := []) 0 4 ⟨hx, hb, hml, hown, hts⟩ (kX3_coverOf l D ca a u x1 hg) (cwV 1 hts gX3_precedes_X3_coverOf rfl rfl rfl (by decide +kernel) ⟨Nat.le_of_ble_eq_true rfl, Nat.le_of_ble_eq_true rfl⟩) hK hP rfl rfl rfl hl.1 rfl (Nat.le_of_ble_eq_true rfl) ⟨Nat.zero_le _, Nat.zero_le _⟩ dX3_precedes_2 ?_
  refine lv_aload_n hx hb dX3_precedes_5 rfl (lv_at hl 0 rfl) ?_
  refine lv_iload_n hx hb dX3_precedes_6 rfl (lv_at hl 2 rfl) ?_
  refine hcRi (As := [.int x2]) (rest := [.int (fX3_coverOf u x1)]) 0 4 ⟨hx, hb, hml, hown, hts⟩ (kX3_coverOf l D ca a u x2 hg2) (cwV 1 hts gX3_precedes_X3_coverOf rfl rfl rfl (by decide +kernel) ⟨Nat.le_of_ble_eq_true rfl, Nat.le_of_ble_eq_true rfl⟩) hK hP rfl rfl rfl hl.1 rfl (Nat.le_of_ble_eq_true rfl) ⟨Nat.zero_le _, Nat.zero_le _⟩ dX3_precedes_7 ?_
  refine lv_icmp_eq (tgt := 32) hx hb dX3_precedes_10 (by decide) (fun c_10 => ?_) (fun c_10 => ?_)
  · have hf := hf.trans (if_pos c_10)
    refine lv_aload_n hx hb dX3_precedes_32 rfl (lv_at hl 0 rfl) ?_
    refine va_get (D := D) (ci := 4) (v := .ref (a 0)) (C := RX3) (T := TX3) (N := 15) hx hb hts hin3 hown hK hP 0 rfl rfl 0 (by decide) (hts (.fieldLink RX3 9 "HatReservations$Hall" "feathers" "[I") (by decide +kernel)) (fun _ h9 => h9) rfl dX3_precedes_33 ?_
    refine lv_iload_n hx hb dX3_precedes_36 rfl (lv_at hl 1 rfl) ?_
    refine va_iald (f := h0 u) hx hb hK hP 1 0 rfl rfl hg dX3_precedes_37 ?_
    refine lv_aload_n hx hb dX3_precedes_38 rfl (lv_at hl 0 rfl) ?_
    refine va_get (D := D) (ci := 4) (v := .ref (a 0)) (C := RX3) (T := TX3) (N := 15) hx hb hts hin3 hown hK hP 0 rfl rfl 0 (by decide) (hts (.fieldLink RX3 9 "HatReservations$Hall" "feathers" "[I") (by decide +kernel)) (fun _ h9 => h9) rfl dX3_precedes_39 ?_
    refine lv_iload_n hx hb dX3_precedes_42 rfl (lv_at hl 2 rfl) ?_
    refine va_iald (f := h0 u) hx hb hK hP 1 0 rfl rfl hg2 dX3_precedes_43 ?_
    refine lv_icmp_eq (tgt := 68) hx hb dX3_precedes_44 (by decide) (fun c_44 => ?_) (fun c_44 => ?_)
    · have hf := hf.trans (if_pos c_44)
      refine lv_iload_n hx hb dX3_precedes_68 rfl (lv_at hl 1 rfl) ?_
      refine lv_iload_n hx hb dX3_precedes_69 rfl (lv_at hl 2 rfl) ?_
      refine lv_icmp_ge (tgt := 77) hx hb dX3_precedes_70 (by decide) (fun c_70 => ?_) (fun c_70 => ?_)
      · have hf := hf.trans (if_pos c_70)
        refine lv_iconst (v := 0) hx hb dX3_precedes_77 (by decide) ?_
        exact W.zret (ty := .boolean) (v := 0) hx hb hr (by decide) (fun t ht hW => ⟨0, rfl, hf.symm, ht⟩) (fun _ h => by cases h) dX3_precedes_78
      · have hf := hf.trans (if_neg c_70)
        refine lv_iconst (v := 1) hx hb dX3_precedes_73 (by decide) ?_
        refine lv_goto (tgt := 78) hx hb dX3_precedes_74 (by decide) ?_
        exact W.zret (ty := .boolean) (v := 1) hx hb hr (by decide) (fun t ht hW => ⟨1, rfl, hf.symm, ht⟩) (fun _ h => by cases h) dX3_precedes_78
    · have hf := hf.trans (if_neg c_44)
      refine lv_aload_n hx hb dX3_precedes_47 rfl (lv_at hl 0 rfl) ?_
      refine va_get (D := D) (ci := 4) (v := .ref (a 0)) (C := RX3) (T := TX3) (N := 15) hx hb hts hin3 hown hK hP 0 rfl rfl 0 (by decide) (hts (.fieldLink RX3 9 "HatReservations$Hall" "feathers" "[I") (by decide +kernel)) (fun _ h9 => h9) rfl dX3_precedes_48 ?_
      refine lv_iload_n hx hb dX3_precedes_51 rfl (lv_at hl 1 rfl) ?_
      refine va_iald (f := h0 u) hx hb hK hP 1 0 rfl rfl hg dX3_precedes_52 ?_
      refine lv_aload_n hx hb dX3_precedes_53 rfl (lv_at hl 0 rfl) ?_
      refine va_get (D := D) (ci := 4) (v := .ref (a 0)) (C := RX3) (T := TX3) (N := 15) hx hb hts hin3 hown hK hP 0 rfl rfl 0 (by decide) (hts (.fieldLink RX3 9 "HatReservations$Hall" "feathers" "[I") (by decide +kernel)) (fun _ h9 => h9) rfl dX3_precedes_54 ?_
      refine lv_iload_n hx hb dX3_precedes_57 rfl (lv_at hl 2 rfl) ?_
      refine va_iald (f := h0 u) hx hb hK hP 1 0 rfl rfl hg2 dX3_precedes_58 ?_
      refine lv_icmp_le (tgt := 66) hx hb dX3_precedes_59 (by decide) (fun c_59 => ?_) (fun c_59 => ?_)
      · have hf := hf.trans (if_pos c_59)
        refine lv_iconst (v := 0) hx hb dX3_precedes_66 (by decide) ?_
        exact W.zret (ty := .boolean) (v := 0) hx hb hr (by decide) (fun t ht hW => ⟨0, rfl, hf.symm, ht⟩) (fun _ h => by cases h) dX3_precedes_67
      · have hf := hf.trans (if_neg c_59)
        refine lv_iconst (v := 1) hx hb dX3_precedes_62 (by decide) ?_
        refine lv_goto (tgt := 67) hx hb dX3_precedes_63 (by decide) ?_
        exact W.zret (ty := .boolean) (v := 1) hx hb hr (by decide) (fun t ht hW => ⟨1, rfl, hf.symm, ht⟩) (fun _ h => by cases h) dX3_precedes_67
  · have hf := hf.trans (if_neg c_10)
    refine lv_aload_n hx hb dX3_precedes_13 rfl (lv_at hl 0 rfl) ?_
    refine lv_iload_n hx hb dX3_precedes_14 rfl (lv_at hl 1 rfl) ?_
    refine hcRi (As := [.int x1]) (rest := []) 0 4 ⟨hx, hb, hml, hown, hts⟩ (kX3_coverOf l D ca a u x1 hg) (cwV 1 hts gX3_precedes_X3_coverOf rfl rfl rfl (by decide +kernel) ⟨Nat.le_of_ble_eq_true rfl, Nat.le_of_ble_eq_true rfl⟩) hK hP rfl rfl rfl hl.1 rfl (Nat.le_of_ble_eq_true rfl) ⟨Nat.zero_le _, Nat.zero_le _⟩ dX3_precedes_15 ?_
    refine lv_aload_n hx hb dX3_precedes_18 rfl (lv_at hl 0 rfl) ?_
    refine lv_iload_n hx hb dX3_precedes_19 rfl (lv_at hl 2 rfl) ?_
    refine hcRi (As := [.int x2]) (rest := [.int (fX3_coverOf u x1)]) 0 4 ⟨hx, hb, hml, hown, hts⟩ (kX3_coverOf l D ca a u x2 hg2) (cwV 1 hts gX3_precedes_X3_coverOf rfl rfl rfl (by decide +kernel) ⟨Nat.le_of_ble_eq_true rfl, Nat.le_of_ble_eq_true rfl⟩) hK hP rfl rfl rfl hl.1 rfl (Nat.le_of_ble_eq_true rfl) ⟨Nat.zero_le _, Nat.zero_le _⟩ dX3_precedes_20 ?_
    refine lv_icmp_le (tgt := 30) hx hb dX3_precedes_23 (by decide) (fun c_23 => ?_) (fun c_23 => ?_)
    · have hf := hf.trans (if_pos c_23)
      refine lv_iconst (v := 0) hx hb dX3_precedes_30 (by decide) ?_
      exact W.zret (ty := .boolean) (v := 0) hx hb hr (by decide) (fun t ht hW => ⟨0, rfl, hf.symm, ht⟩) (fun _ h => by cases h) dX3_precedes_31
    · have hf := hf.trans (if_neg c_23)
      refine lv_iconst (v := 1) hx hb dX3_precedes_26 (by decide) ?_
      refine lv_goto (tgt := 31) hx hb dX3_precedes_27 (by decide) ?_
      exact W.zret (ty := .boolean) (v := 1) hx hb hr (by decide) (fun t ht hW => ⟨1, rfl, hf.symm, ht⟩) (fun _ h => by cases h) dX3_precedes_31
def fX3_countBefore_4 : Nat → Nat → HS → Int32 → Int32 → Int32
  | 0, k, u, x1, y2 => y2
  | n + 1, k, u, x1, y2 => (if (h9 u) ≤ (nI k) then y2 else (if (fX3_precedes u (nI k) x1) = 0 then fX3_countBefore_4 n (k + 1) u x1 y2 else fX3_countBefore_4 n (k + 1) u x1 (y2 + 1)))
def fX3_countBefore (u : HS) (x1 : Int32) : Int32 :=
  fX3_countBefore_4 8 0 u x1 0
set_option maxHeartbeats 4000000 in
set_option maxRecDepth 100000 in
/-- countBefore -/
theorem kX3_countBefore (l : Launch) (D : va_G) (ca : Nat → ClassId) (a : Nat → Nat) (u : HS) (x1 : Int32) (hg : vp_in x1 8) : Met l yX3_countBefore wsX3_countBefore ({ frames := 3, cells := 0, slots := 0, locals := 64 }) (RPc D ca (HW ca a u) [.ref (a 8), .int x1]) (vp_Si (fun r => r = fX3_countBefore u x1)) 0 0 (fun _ => False) := by
  refine Met.ofW (cc := cX3_countBefore) (maxL := 4) (ret := (some .int)) (by decide) rfl ?_
  intro p e s m args below meth c s₁ B hml hv
  obtain ⟨rfl, hP, hK⟩ := hv
  have hx := B.exec
  have hb := B.bytes
  have hr := B.returns
  have hts := atoms_spec (ws := wsX3_countBefore) B.pre
  have hown : s.vm.findClass RX3 = some m.cls := findClass_of_methodNamed B.named
  have hlocks := B.notSynchronized
  have hin3 : ∀ w ∈ wsX30, w ∈ wsX3_countBefore := by decide +kernel
  have cut_4 : ∀ (n k : Nat) (hnk : n + k = 8) (y2 : Int32) (hf : fX3_countBefore u x1 = fX3_countBefore_4 n k u x1 y2) (ls : Array Slot) (hl : lv_has ls 4 [(0, .ref (a 8)), (1, .int x1), (2, .int y2), (3, .int (nI k))]), W p l e (headSpec wsX3_countBefore ({ frames := 3, cells := 0, slots := 0, locals := 64 })).room s m ([.ref (a 8), .int x1] : List Value).toArray below meth c s.heap [] 0 0 (MQ below (vp_Si (fun r => r = fX3_countBefore u x1)) ([.ref (a 8), .int x1] : List Value).toArray s 0 0 (fun _ => False)) (F0 m 4 ls []) := by
    intro n
    induction n with
    | zero =>
      intro k hnk y2 hf ls hl
      obtain rfl : k = 8 := by omega
      refine lv_iload_n hx hb dX3_countBefore_4 rfl (lv_at hl 3 rfl) ?_
      refine lv_bipush (v := 8) hx hb dX3_countBefore_5 (by decide) ?_
      refine lv_icmp_ge (tgt := 36) hx hb dX3_countBefore_7 (by decide) (fun _ => ?_) (fun q => absurd (by decide) q)
      refine lv_iload_n hx hb dX3_countBefore_36 rfl (lv_at hl 2 rfl) ?_
      exact W.iret (v := y2) hx hb hr (fun t ht hW => ⟨y2, rfl, hf.symm, ht⟩) (fun _ h => by cases h) dX3_countBefore_37
    | succ n ih =>
      intro k hnk y2 hf ls hl
      refine lv_iload_n hx hb dX3_countBefore_4 rfl (lv_at hl 3 rfl) ?_
      refine lv_bipush (v := 8) hx hb dX3_countBefore_5 (by decide) ?_
      refine lv_icmp_ge (tgt := 36) hx hb dX3_countBefore_7 (by decide) (fun q => absurd q (show ¬ (8 : Int32) ≤ nI k from nI_ge (b := 8) (by omega) (by decide))) (fun _ => ?_)
      refine lv_iload_n hx hb dX3_countBefore_10 rfl (lv_at hl 3 rfl) ?_
      refine lv_aload_n hx hb dX3_countBefore_11 rfl (lv_at hl 0 rfl) ?_
      refine va_get (D := D) (ci := 4) (v := .int (h9 u)) (C := RX3) (T := TX3) (N := 15) hx hb hts hin3 hown hK hP 0 rfl rfl 9 (by decide) (hts (.fieldLink RX3 41 "HatReservations$Hall" "guests" "I") (by decide +kernel)) (fun _ h9 => h9) rfl dX3_countBefore_12 ?_
      refine lv_icmp_ge (tgt := 36) hx hb dX3_countBefore_15 (by decide) (fun c_15 => ?_) (fun c_15 => ?_)
      · have hf := hf.trans (if_pos c_15)
        refine lv_iload_n hx hb dX3_countBefore_36 rfl (lv_at hl 2 rfl) ?_
        exact W.iret (v := y2) hx hb hr (fun t ht hW => ⟨y2, rfl, hf.symm, ht⟩) (fun _ h => by cases h) dX3_countBefore_37
      · have hf := hf.trans (if_neg c_15)
        refine lv_aload_n hx hb dX3_countBefore_18 rfl (lv_at hl 0 rfl) ?_
        refine lv_iload_n hx hb dX3_countBefore_19 rfl (lv_at hl 3 rfl) ?_
        refine lv_iload_n hx hb dX3_countBefore_20 rfl (lv_at hl 1 rfl) ?_
        refine hcRi (As := [.int (nI k), .int x1]) (rest := []) 0 4 ⟨hx, hb, hml, hown, hts⟩ (kX3_precedes l D ca a u (nI k) x1 (vp_in_nI (by omega) (by decide)) hg) (cwV 2 hts gX3_countBefore_X3_precedes rfl rfl rfl (by decide +kernel) ⟨Nat.le_of_ble_eq_true rfl, Nat.le_of_ble_eq_true rfl⟩) hK hP rfl rfl rfl hl.1 rfl (Nat.le_of_ble_eq_true rfl) ⟨Nat.zero_le _, Nat.zero_le _⟩ dX3_countBefore_21 ?_
        refine lv_if_eq (tgt := 30) hx hb dX3_countBefore_24 (by decide) (fun c_24 => ?_) (fun c_24 => ?_)
        · have hf := hf.trans (if_pos c_24)
          refine lv_iinc (v := nI (k + 1)) (lv' := [(3, .int (nI (k + 1))), (0, .ref (a 8)), (1, .int x1), (2, .int y2)]) hx hb dX3_countBefore_30 hl (k := 3) rfl (nI_1 k) (by decide) rfl (fun ls hl => ?_)
          refine lv_goto (tgt := 4) hx hb dX3_countBefore_33 (by decide) ?_
          exact ih (k + 1) (by omega) y2  hf ls (lv_sub hl [1, 2, 3, 0] rfl)
        · have hf := hf.trans (if_neg c_24)
          refine lv_iinc (v := y2 + 1) (lv' := [(2, .int (y2 + 1)), (0, .ref (a 8)), (1, .int x1), (3, .int (nI k))]) hx hb dX3_countBefore_27 hl (k := 2) rfl rfl (by decide) rfl (fun ls hl => ?_)
          refine lv_iinc (v := nI (k + 1)) (lv' := [(3, .int (nI (k + 1))), (2, .int (y2 + 1)), (0, .ref (a 8)), (1, .int x1)]) hx hb dX3_countBefore_30 hl (k := 3) rfl (nI_1 k) (by decide) rfl (fun ls hl => ?_)
          refine lv_goto (tgt := 4) hx hb dX3_countBefore_33 (by decide) ?_
          exact ih (k + 1) (by omega) (y2 + 1)  hf ls (lv_sub hl [2, 3, 1, 0] rfl)
  have hf : fX3_countBefore u x1 = fX3_countBefore u x1 := rfl
  refine W_entry (Nat.le_of_ble_eq_true rfl) (fun ls hl => ?_)
  have hl : lv_has ls 4 [(0, .ref (a 8)), (1, .int x1)] := hl
  refine lv_iconst (v := 0) hx hb dX3_countBefore_0 (by decide) ?_
  refine lv_istore_n (lv' := [(2, .int 0), (0, .ref (a 8)), (1, .int x1)]) hx hb dX3_countBefore_1 rfl hl (by decide) rfl (fun ls hl => ?_)
  refine lv_iconst (v := 0) hx hb dX3_countBefore_2 (by decide) ?_
  refine lv_istore_n (lv' := [(3, .int 0), (2, .int 0), (0, .ref (a 8)), (1, .int x1)]) hx hb dX3_countBefore_3 rfl hl (by decide) rfl (fun ls hl => ?_)
  exact cut_4 8 0 (by omega) 0  hf ls (lv_sub hl [2, 3, 1, 0] rfl)
def fX3_guestBehind_2 : Nat → Nat → HS → Int32 → Int32
  | 0, k, u, x1 => (-1)
  | n + 1, k, u, x1 => (if (h9 u) ≤ (nI k) then (-1) else (if (fX3_countBefore u (nI k)) = x1 then (nI k) else fX3_guestBehind_2 n (k + 1) u x1))
def fX3_guestBehind (u : HS) (x1 : Int32) : Int32 :=
  fX3_guestBehind_2 8 0 u x1
set_option maxHeartbeats 4000000 in
set_option maxRecDepth 100000 in
/-- guestBehind -/
theorem kX3_guestBehind (l : Launch) (D : va_G) (ca : Nat → ClassId) (a : Nat → Nat) (u : HS) (x1 : Int32) : Met l yX3_guestBehind wsX3_guestBehind ({ frames := 4, cells := 0, slots := 0, locals := 87 }) (RPc D ca (HW ca a u) [.ref (a 8), .int x1]) (vp_Si (fun r => r = fX3_guestBehind u x1)) 0 0 (fun _ => False) := by
  refine Met.ofW (cc := cX3_guestBehind) (maxL := 3) (ret := (some .int)) (by decide) rfl ?_
  intro p e s m args below meth c s₁ B hml hv
  obtain ⟨rfl, hP, hK⟩ := hv
  have hx := B.exec
  have hb := B.bytes
  have hr := B.returns
  have hts := atoms_spec (ws := wsX3_guestBehind) B.pre
  have hown : s.vm.findClass RX3 = some m.cls := findClass_of_methodNamed B.named
  have hlocks := B.notSynchronized
  have hin3 : ∀ w ∈ wsX30, w ∈ wsX3_guestBehind := by decide +kernel
  have cut_2 : ∀ (n k : Nat) (hnk : n + k = 8) (hf : fX3_guestBehind u x1 = fX3_guestBehind_2 n k u x1) (ls : Array Slot) (hl : lv_has ls 3 [(0, .ref (a 8)), (1, .int x1), (2, .int (nI k))]), W p l e (headSpec wsX3_guestBehind ({ frames := 4, cells := 0, slots := 0, locals := 87 })).room s m ([.ref (a 8), .int x1] : List Value).toArray below meth c s.heap [] 0 0 (MQ below (vp_Si (fun r => r = fX3_guestBehind u x1)) ([.ref (a 8), .int x1] : List Value).toArray s 0 0 (fun _ => False)) (F0 m 2 ls []) := by
    intro n
    induction n with
    | zero =>
      intro k hnk hf ls hl
      obtain rfl : k = 8 := by omega
      refine lv_iload_n hx hb dX3_guestBehind_2 rfl (lv_at hl 2 rfl) ?_
      refine lv_bipush (v := 8) hx hb dX3_guestBehind_3 (by decide) ?_
      refine lv_icmp_ge (tgt := 33) hx hb dX3_guestBehind_5 (by decide) (fun _ => ?_) (fun q => absurd (by decide) q)
      refine lv_iconst (v := (-1)) hx hb dX3_guestBehind_33 (by decide) ?_
      exact W.iret (v := (-1)) hx hb hr (fun t ht hW => ⟨(-1), rfl, hf.symm, ht⟩) (fun _ h => by cases h) dX3_guestBehind_34
    | succ n ih =>
      intro k hnk hf ls hl
      refine lv_iload_n hx hb dX3_guestBehind_2 rfl (lv_at hl 2 rfl) ?_
      refine lv_bipush (v := 8) hx hb dX3_guestBehind_3 (by decide) ?_
      refine lv_icmp_ge (tgt := 33) hx hb dX3_guestBehind_5 (by decide) (fun q => absurd q (show ¬ (8 : Int32) ≤ nI k from nI_ge (b := 8) (by omega) (by decide))) (fun _ => ?_)
      refine lv_iload_n hx hb dX3_guestBehind_8 rfl (lv_at hl 2 rfl) ?_
      refine lv_aload_n hx hb dX3_guestBehind_9 rfl (lv_at hl 0 rfl) ?_
      refine va_get (D := D) (ci := 4) (v := .int (h9 u)) (C := RX3) (T := TX3) (N := 15) hx hb hts hin3 hown hK hP 0 rfl rfl 9 (by decide) (hts (.fieldLink RX3 41 "HatReservations$Hall" "guests" "I") (by decide +kernel)) (fun _ h9 => h9) rfl dX3_guestBehind_10 ?_
      refine lv_icmp_ge (tgt := 33) hx hb dX3_guestBehind_13 (by decide) (fun c_13 => ?_) (fun c_13 => ?_)
      · have hf := hf.trans (if_pos c_13)
        refine lv_iconst (v := (-1)) hx hb dX3_guestBehind_33 (by decide) ?_
        exact W.iret (v := (-1)) hx hb hr (fun t ht hW => ⟨(-1), rfl, hf.symm, ht⟩) (fun _ h => by cases h) dX3_guestBehind_34
      · have hf := hf.trans (if_neg c_13)
        refine lv_aload_n hx hb dX3_guestBehind_16 rfl (lv_at hl 0 rfl) ?_
        refine lv_iload_n hx hb dX3_guestBehind_17 rfl (lv_at hl 2 rfl) ?_
        refine hcRi (As := [.int (nI k)]) (rest := []) 0 4 ⟨hx, hb, hml, hown, hts⟩ (kX3_countBefore l D ca a u (nI k) (vp_in_nI (by omega) (by decide))) (cwV 1 hts gX3_guestBehind_X3_countBefore rfl rfl rfl (by decide +kernel) ⟨Nat.le_of_ble_eq_true rfl, Nat.le_of_ble_eq_true rfl⟩) hK hP rfl rfl rfl hl.1 rfl (Nat.le_of_ble_eq_true rfl) ⟨Nat.zero_le _, Nat.zero_le _⟩ dX3_guestBehind_18 ?_
        refine lv_iload_n hx hb dX3_guestBehind_21 rfl (lv_at hl 1 rfl) ?_
        refine lv_icmp_ne (tgt := 27) hx hb dX3_guestBehind_22 (by decide) (fun c_22 => ?_) (fun c_22 => ?_)
        · have hf := hf.trans (if_neg c_22)
          refine lv_iinc (v := nI (k + 1)) (lv' := [(2, .int (nI (k + 1))), (0, .ref (a 8)), (1, .int x1)]) hx hb dX3_guestBehind_27 hl (k := 2) rfl (nI_1 k) (by decide) rfl (fun ls hl => ?_)
          refine lv_goto (tgt := 2) hx hb dX3_guestBehind_30 (by decide) ?_
          exact ih (k + 1) (by omega)   hf ls (lv_sub hl [1, 2, 0] rfl)
        · have hf := hf.trans (if_pos c_22)
          refine lv_iload_n hx hb dX3_guestBehind_25 rfl (lv_at hl 2 rfl) ?_
          exact W.iret (v := nI k) hx hb hr (fun t ht hW => ⟨nI k, rfl, hf.symm, ht⟩) (fun _ h => by cases h) dX3_guestBehind_26
  have hf : fX3_guestBehind u x1 = fX3_guestBehind u x1 := rfl
  refine W_entry (Nat.le_of_ble_eq_true rfl) (fun ls hl => ?_)
  have hl : lv_has ls 3 [(0, .ref (a 8)), (1, .int x1)] := hl
  refine lv_iconst (v := 0) hx hb dX3_guestBehind_0 (by decide) ?_
  refine lv_istore_n (lv' := [(2, .int 0), (0, .ref (a 8)), (1, .int x1)]) hx hb dX3_guestBehind_1 rfl hl (by decide) rfl (fun ls hl => ?_)
  exact cut_2 8 0 (by omega)   hf ls (lv_sub hl [1, 2, 0] rfl)
def fX3_signOf (u : HS) (x1 : Int32) : Int32 :=
  (if (fX3_covererAt u x1) = (-1) then 46 else (if ((h2 u) (fX3_covererAt u x1).toNatClampNeg) = x1 then (((65 + (fX3_covererAt u x1)).toUInt32 % 65536).toInt32) else (((97 + (fX3_covererAt u x1)).toUInt32 % 65536).toInt32)))
set_option maxHeartbeats 4000000 in
set_option maxRecDepth 100000 in
/-- signOf -/
theorem kX3_signOf (l : Launch) (D : va_G) (ca : Nat → ClassId) (a : Nat → Nat) (u : HS) (x1 : Int32) : Met l yX3_signOf wsX3_signOf ({ frames := 1, cells := 0, slots := 0, locals := 22 }) (RPc D ca (HW ca a u) [.ref (a 8), .int x1]) (vp_Si (fun r => r = fX3_signOf u x1)) 0 0 (fun _ => False) := by
  refine Met.ofW (cc := cX3_signOf) (maxL := 3) (ret := (some .char)) (by decide) rfl ?_
  intro p e s m args below meth c s₁ B hml hv
  obtain ⟨rfl, hP, hK⟩ := hv
  have hx := B.exec
  have hb := B.bytes
  have hr := B.returns
  have hts := atoms_spec (ws := wsX3_signOf) B.pre
  have hown : s.vm.findClass RX3 = some m.cls := findClass_of_methodNamed B.named
  have hlocks := B.notSynchronized
  have hin3 : ∀ w ∈ wsX30, w ∈ wsX3_signOf := by decide +kernel
  have hf : fX3_signOf u x1 = fX3_signOf u x1 := rfl
  refine W_entry (Nat.le_of_ble_eq_true rfl) (fun ls hl => ?_)
  have hl : lv_has ls 3 [(0, .ref (a 8)), (1, .int x1)] := hl
  refine lv_aload_n hx hb dX3_signOf_0 rfl (lv_at hl 0 rfl) ?_
  refine lv_iload_n hx hb dX3_signOf_1 rfl (lv_at hl 1 rfl) ?_
  refine hcRi (As := [.int x1]) (rest := []) 0 4 ⟨hx, hb, hml, hown, hts⟩ (kX3_covererAt l D ca a u x1 ) (cwV 1 hts gX3_signOf_X3_covererAt rfl rfl rfl (by decide +kernel) ⟨Nat.le_of_ble_eq_true rfl, Nat.le_of_ble_eq_true rfl⟩) hK hP rfl rfl rfl hl.1 rfl (Nat.le_of_ble_eq_true rfl) ⟨Nat.zero_le _, Nat.zero_le _⟩ dX3_signOf_2 ?_
  refine lv_istore_n (lv' := [(2, .int (fX3_covererAt u x1)), (0, .ref (a 8)), (1, .int x1)]) hx hb dX3_signOf_5 rfl hl (by decide) rfl (fun ls hl => ?_)
  refine lv_iload_n hx hb dX3_signOf_6 rfl (lv_at hl 0 rfl) ?_
  refine lv_iconst (v := (-1)) hx hb dX3_signOf_7 (by decide) ?_
  refine lv_icmp_ne (tgt := 14) hx hb dX3_signOf_8 (by decide) (fun c_8 => ?_) (fun c_8 => ?_)
  · have hf := hf.trans (if_neg c_8)
    refine lv_aload_n hx hb dX3_signOf_14 rfl (lv_at hl 1 rfl) ?_
    refine va_get (D := D) (ci := 4) (v := .ref (a 2)) (C := RX3) (T := TX3) (N := 15) hx hb hts hin3 hown hK hP 0 rfl rfl 2 (by decide) (hts (.fieldLink RX3 18 "HatReservations$Hall" "hatChairs" "[I") (by decide +kernel)) (fun _ h9 => h9) rfl dX3_signOf_15 ?_
    refine lv_iload_n hx hb dX3_signOf_18 rfl (lv_at hl 0 rfl) ?_
    refine va_iald (f := h2 u) hx hb hK hP 3 0 rfl rfl (Or.resolve_left (covererAt_in u x1) c_8) dX3_signOf_19 ?_
    refine lv_iload_n hx hb dX3_signOf_20 rfl (lv_at hl 2 rfl) ?_
    refine lv_icmp_ne (tgt := 31) hx hb dX3_signOf_21 (by decide) (fun c_21 => ?_) (fun c_21 => ?_)
    · have hf := hf.trans (if_neg c_21)
      refine lv_bipush (v := 97) hx hb dX3_signOf_31 (by decide) ?_
      refine lv_iload_n hx hb dX3_signOf_33 rfl (lv_at hl 0 rfl) ?_
      refine lv_iadd hx hb dX3_signOf_34 ?_
      refine lv_i2c (v := ((97 + (fX3_covererAt u x1)).toUInt32 % 65536).toInt32) hx hb dX3_signOf_35 rfl ?_
      exact W.zret (ty := .char) (v := ((97 + (fX3_covererAt u x1)).toUInt32 % 65536).toInt32) hx hb hr (pk_nc _) (fun t ht hW => ⟨((97 + (fX3_covererAt u x1)).toUInt32 % 65536).toInt32, rfl, hf.symm, ht⟩) (fun _ h => by cases h) dX3_signOf_36
    · have hf := hf.trans (if_pos c_21)
      refine lv_bipush (v := 65) hx hb dX3_signOf_24 (by decide) ?_
      refine lv_iload_n hx hb dX3_signOf_26 rfl (lv_at hl 0 rfl) ?_
      refine lv_iadd hx hb dX3_signOf_27 ?_
      refine lv_goto (tgt := 35) hx hb dX3_signOf_28 (by decide) ?_
      refine lv_i2c (v := ((65 + (fX3_covererAt u x1)).toUInt32 % 65536).toInt32) hx hb dX3_signOf_35 rfl ?_
      exact W.zret (ty := .char) (v := ((65 + (fX3_covererAt u x1)).toUInt32 % 65536).toInt32) hx hb hr (pk_nc _) (fun t ht hW => ⟨((65 + (fX3_covererAt u x1)).toUInt32 % 65536).toInt32, rfl, hf.symm, ht⟩) (fun _ h => by cases h) dX3_signOf_36
  · have hf := hf.trans (if_pos c_8)
    refine lv_bipush (v := 46) hx hb dX3_signOf_11 (by decide) ?_
    exact W.zret (ty := .char) (v := 46) hx hb hr (by decide) (fun t ht hW => ⟨46, rfl, hf.symm, ht⟩) (fun _ h => by cases h) dX3_signOf_13
