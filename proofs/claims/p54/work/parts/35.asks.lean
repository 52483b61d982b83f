/-! asks -/
section ROWF
variable {p : Program} {l : Launch} {e : Env} {R : Room} {s : State} {m : MethodId} {args : Array Value} {below : List Frame} {meth : Method} {c : Code} {H : Heap} {locs : List Loc} {cells slots : Nat} {Q : State → Prop} {D : va_G} {ca : Nat → ClassId} {wc : va_W} {As rest st0 : List Value} {index n pc nL maxL b N : Nat} {y : MethodName} {bytes cc : ByteArray} {ret : Option FieldType} {wsy Ts : List Cond} {rm : Room} {own C : String} {T : u_T} {fs : List Value} {ls : Array Slot}
theorem hcRf {v : UInt32} (q0 ci : Nat) (S : CallFix p m c cc nL s args Ts own) (hM : Met l y wsy rm (RPc D ca wc (.ref b :: As)) (vp_Sf (fun r => r = v)) 0 0 (fun _ => False)) (cw : CallW R s args own C index y bytes maxL ret wsy rm 0 0 n) (hK : va_K D vwCl (TYS ca) s) (hP : va_P D vwCl wc H) (he : wc[q0]? = some (b, .inr (ci, fs))) (hc : vwCl[ci]? = some (C, T, N)) (hn : As.length = n) (hsize : ls.size = nL) (hst : st0 = As.reverse ++ .ref b :: rest) (hW : (rest.map fun v => v.category).sum ≤ 8) (hf : cells ≤ R.cells ∧ slots ≤ R.slots) (hdg : decode cc pc = .ok (.invokevirtual index, 3))
    (kk : W p l e R s m args below meth c H locs cells slots Q (F0 m (pc + 3) ls (.float v :: rest))) : W p l e R s m args below meth c H locs cells slots Q (F0 m pc ls st0) :=
  vp_callSf (W.runV S hM cw ⟨RPc_blind, P_recv hK hP he hc, fun U hU hW => ⟨rfl, by rw [hU]; exact hP, va_K.moved hW.alike hK⟩⟩ rfl hn hsize hst (lv_room hW) hdg hf) (fun r h => by cases h; exact kk)
end ROWF
theorem cnt_4 (u : HS) (x : Int32) : ∀ (n k j : Nat), ∃ i, i ≤ j + n ∧ fX3_coatsOn_4 n k u x (nI j) = nI i := by
  intro n
  induction n with
  | zero => intro k j; exact ⟨j, Nat.le_refl _, rfl⟩
  | succ n ih =>
    intro k j
    rw [fX3_coatsOn_4]
    split
    · rw [nI_s]
      obtain ⟨i, h1, h2⟩ := ih (k + 1) (j + 1)
      exact ⟨i, by omega, h2⟩
    · obtain ⟨i, h1, h2⟩ := ih (k + 1) j
      exact ⟨i, by omega, h2⟩
theorem cnt_bd (u : HS) (x : Int32) : ∃ j, j ≤ 8 ∧ fX3_coatsOn u x = nI j := by
  obtain ⟨i, h1, h2⟩ := cnt_4 u x 8 0 0
  exact ⟨i, by omega, h2⟩
theorem cnt_le (u : HS) (x : Int32) : wv (r_coatCount u x) ≤ nI 8 := by
  unfold r_coatCount
  split
  · obtain ⟨j, h1, h2⟩ := cnt_bd u x
    show fX3_coatsOn u x ≤ nI 8
    rw [h2]
    exact nI_le h1 (by decide)
  · rename_i h
    unfold wv
    show (if fX5_requireChair x = 0 then (0 : Int32) else if fX5_requireChair x = 1 then -1001 else if fX5_requireChair x = 2 then -1002 else -1003) ≤ nI 8
    repeat' split
    all_goals decide
def fA_290 : Nat → Nat → HS → Int64 → Int64
  | 0, _, _, y => y
  | n + 1, k, h, y => fA_290 n (k + 1) h (31 * y + (wv (r_longestFreeRun h (nI k))).toInt64)
def fA_248 : Nat → Nat → HS → Int32 → Int64 → Int64
  | 0, _, _, _, y => y
  | n + 1, j, h, c, y => if wv (r_coatCount h c) ≤ nI j then y else fA_248 n (j + 1) h c (31 * y + (wv (r_coatOwner h c (nI j))).toInt64)
def fA_212 : Nat → Nat → HS → Int64 → Int64
  | 0, _, h, y => fA_290 4 0 h y
  | n + 1, k, h, y => fA_212 n (k + 1) h (fA_248 8 0 h (nI k) (31 * (31 * y + (wv (r_covererOf h (nI k))).toInt64) + (wv (r_nextClaimant h (nI k))).toInt64))
def gA (h : HS) (k : Nat) (y : Int64) : Int64 := 31 * (31 * (31 * (31 * (31 * (31 * (31 * y + (wv (r_feathers h (nI k))).toInt64) + (wv (r_brim h (nI k))).toInt64) + (wv (r_hatChair h (nI k))).toInt64) + (wv (r_idleMinutes h (nI k))).toInt64) + (wv (r_coatChair h (nI k))).toInt64) + (wv (r_coverSize h (nI k))).toInt64) + (wv (r_guestAtRank h (nI k))).toInt64
def fA_109 : Nat → Nat → HS → Int64 → Int64
  | 0, _, h, y => fA_212 40 0 h y
  | n + 1, k, h, y => if h9 h ≤ nI k then fA_212 40 0 h y else fA_109 n (k + 1) h (gA h k y)
def fA_0 (h : HS) : Int64 := 31 * (31 * (31 * (31 * (31 * (31 * (31 * (31 * (31 * (gMC h).toInt64 + (gCS h).toInt32.toInt64) + fX3_coveredChairs h) + (h9 h).toInt64) + (h10 h).toInt64) + (h11 h).toInt64) + (h12 h).toInt64) + (h13 h).toInt64) + (h14 h).toInt64) + (wv (r_idlestGuest h)).toInt64
/-- the sum -/
def asks (h : HS) : Int64 := fA_109 8 0 h (fA_0 h)
def wmL_asks : List Cond := .code yL_asks cL_asks 6 (some .long) :: .constantLong RL 189 31 :: (wsV RL 186 RX5 yX5_guestCount wsX5_guestCount ++ (va_wsS RL 191 yL_meanCover wsL_meanCover ++ (va_wsS RL 194 yJxe99ae_doubleToLongBits_ccdee wsJxe99ae_doubleToLongBits_ccdee ++ (wsV RL 200 RX5 yX5_coveredShare wsX5_coveredShare ++ (va_wsS RL 204 yJxf58ca_floatToIntBits_5c35a wsJxf58ca_floatToIntBits_5c35a ++ (wsV RL 210 RX5 yX5_coveredMask wsX5_coveredMask ++ (wsV RL 214 RX5 yX5_now wsX5_now ++ (wsV RL 217 RX5 yX5_sweptTotal wsX5_sweptTotal ++ (wsV RL 220 RX5 yX5_lapsedTotal wsX5_lapsedTotal ++ (wsV RL 223 RX5 yX5_offersTaken wsX5_offersTaken ++ (wsV RL 226 RX5 yX5_contestsWon wsX5_contestsWon ++ (va_wsS RL 229 yL_idlest wmL_idlest ++ (va_wsS RL 232 yL_feathers wmL_feathers ++ (va_wsS RL 234 yL_brim wmL_brim ++ (va_wsS RL 236 yL_hatChair wmL_hatChair ++ (va_wsS RL 238 yL_idle wmL_idle ++ (va_wsS RL 241 yL_coatChair wmL_coatChair ++ (va_wsS RL 243 yL_coverSize wmL_coverSize ++ (va_wsS RL 245 yL_atRank wmL_atRank ++ (va_wsS RL 248 yL_coverer wmL_coverer ++ (va_wsS RL 251 yL_next wmL_next ++ (va_wsS RL 254 yL_coatCount wmL_coatCount ++ (va_wsS RL 256 yL_coatOwner wmL_coatOwner ++ (va_wsS RL 258 yL_longest wmL_longest))))))))))))))))))))))))
theorem mL_asks_X5_guestCount : GoodIn wmL_asks (wsV RL 186 RX5 yX5_guestCount wsX5_guestCount) := goodIn_sub (fun w h => List.mem_cons_of_mem _ (List.mem_cons_of_mem _ (List.mem_append_left _ h))) (by decide +kernel)
theorem mL_asks_L_meanCover : GoodIn wmL_asks (va_wsS RL 191 yL_meanCover wsL_meanCover) := goodIn_sub (fun w h => List.mem_cons_of_mem _ (List.mem_cons_of_mem _ (List.mem_append_right _ (List.mem_append_left _ h)))) (by decide +kernel)
theorem mL_asks_Jxe99ae_doubleToLongBits_ccdee : GoodIn wmL_asks (va_wsS RL 194 yJxe99ae_doubleToLongBits_ccdee wsJxe99ae_doubleToLongBits_ccdee) := goodIn_sub (fun w h => List.mem_cons_of_mem _ (List.mem_cons_of_mem _ (List.mem_append_right _ (List.mem_append_right _ (List.mem_append_left _ h))))) (by decide +kernel)
theorem mL_asks_X5_coveredShare : GoodIn wmL_asks (wsV RL 200 RX5 yX5_coveredShare wsX5_coveredShare) := goodIn_sub (fun w h => List.mem_cons_of_mem _ (List.mem_cons_of_mem _ (List.mem_append_right _ (List.mem_append_right _ (List.mem_append_right _ (List.mem_append_left _ h)))))) (by decide +kernel)
theorem mL_asks_Jxf58ca_floatToIntBits_5c35a : GoodIn wmL_asks (va_wsS RL 204 yJxf58ca_floatToIntBits_5c35a wsJxf58ca_floatToIntBits_5c35a) := goodIn_sub (fun w h => List.mem_cons_of_mem _ (List.mem_cons_of_mem _ (List.mem_append_right _ (List.mem_append_right _ (List.mem_append_right _ (List.mem_append_right _ (List.mem_append_left _ h))))))) (by decide +kernel)
theorem mL_asks_X5_coveredMask : GoodIn wmL_asks (wsV RL 210 RX5 yX5_coveredMask wsX5_coveredMask) := goodIn_sub (fun w h => List.mem_cons_of_mem _ (List.mem_cons_of_mem _ (List.mem_append_right _ (List.mem_append_right _ (List.mem_append_right _ (List.mem_append_right _ (List.mem_append_right _ (List.mem_append_left _ h)))))))) (by decide +kernel)
theorem mL_asks_X5_now : GoodIn wmL_asks (wsV RL 214 RX5 yX5_now wsX5_now) := goodIn_sub (fun w h => List.mem_cons_of_mem _ (List.mem_cons_of_mem _ (List.mem_append_right _ (List.mem_append_right _ (List.mem_append_right _ (List.mem_append_right _ (List.mem_append_right _ (List.mem_append_right _ (List.mem_append_left _ h))))))))) (by decide +kernel)
theorem mL_asks_X5_sweptTotal : GoodIn wmL_asks (wsV RL 217 RX5 yX5_sweptTotal wsX5_sweptTotal) := goodIn_sub (fun w h => List.mem_cons_of_mem _ (List.mem_cons_of_mem _ (List.mem_append_right _ (List.mem_append_right _ (List.mem_append_right _ (List.mem_append_right _ (List.mem_append_right _ (List.mem_append_right _ (List.mem_append_right _ (List.mem_append_left _ h)))))))))) (by decide +kernel)
theorem mL_asks_X5_lapsedTotal : GoodIn wmL_asks (wsV RL 220 RX5 yX5_lapsedTotal wsX5_lapsedTotal) := goodIn_sub (fun w h => List.mem_cons_of_mem _ (List.mem_cons_of_mem _ (List.mem_append_right _ (List.mem_append_right _ (List.mem_append_right _ (List.mem_append_right _ (List.mem_append_right _ (List.mem_append_right _ (List.mem_append_right _ (List.mem_append_right _ (List.mem_append_left _ h))))))))))) (by decide +kernel)
theorem mL_asks_X5_offersTaken : GoodIn wmL_asks (wsV RL 223 RX5 yX5_offersTaken wsX5_offersTaken) := goodIn_sub (fun w h => List.mem_cons_of_mem _ (List.mem_cons_of_mem _ (List.mem_append_right _ (List.mem_append_right _ (List.mem_append_right _ (List.mem_append_right _ (List.mem_append_right _ (List.mem_append_right _ (List.mem_append_right _ (List.mem_append_right _ (List.mem_append_right _ (List.mem_append_left _ h)))))))))))) (by decide +kernel)
theorem mL_asks_X5_contestsWon : GoodIn wmL_asks (wsV RL 226 RX5 yX5_contestsWon wsX5_contestsWon) := goodIn_sub (fun w h => List.mem_cons_of_mem _ (List.mem_cons_of_mem _ (List.mem_append_right _ (List.mem_append_right _ (List.mem_append_right _ (List.mem_append_right _ (List.mem_append_right _ (List.mem_append_right _ (List.mem_append_right _ (List.mem_append_right _ (List.mem_append_right _ (List.mem_append_right _ (List.mem_append_left _ h))))))))))))) (by decide +kernel)
theorem mL_asks_L_idlest : GoodIn wmL_asks (va_wsS RL 229 yL_idlest wmL_idlest) := goodIn_sub (fun w h => List.mem_cons_of_mem _ (List.mem_cons_of_mem _ (List.mem_append_right _ (List.mem_append_right _ (List.mem_append_right _ (List.mem_append_right _ (List.mem_append_right _ (List.mem_append_right _ (List.mem_append_right _ (List.mem_append_right _ (List.mem_append_right _ (List.mem_append_right _ (List.mem_append_right _ (List.mem_append_left _ h)))))))))))))) (by decide +kernel)
theorem mL_asks_L_feathers : GoodIn wmL_asks (va_wsS RL 232 yL_feathers wmL_feathers) := goodIn_sub (fun w h => List.mem_cons_of_mem _ (List.mem_cons_of_mem _ (List.mem_append_right _ (List.mem_append_right _ (List.mem_append_right _ (List.mem_append_right _ (List.mem_append_right _ (List.mem_append_right _ (List.mem_append_right _ (List.mem_append_right _ (List.mem_append_right _ (List.mem_append_right _ (List.mem_append_right _ (List.mem_append_right _ (List.mem_append_left _ h))))))))))))))) (by decide +kernel)
theorem mL_asks_L_brim : GoodIn wmL_asks (va_wsS RL 234 yL_brim wmL_brim) := goodIn_sub (fun w h => List.mem_cons_of_mem _ (List.mem_cons_of_mem _ (List.mem_append_right _ (List.mem_append_right _ (List.mem_append_right _ (List.mem_append_right _ (List.mem_append_right _ (List.mem_append_right _ (List.mem_append_right _ (List.mem_append_right _ (List.mem_append_right _ (List.mem_append_right _ (List.mem_append_right _ (List.mem_append_right _ (List.mem_append_right _ (List.mem_append_left _ h)))))))))))))))) (by decide +kernel)
theorem mL_asks_L_hatChair : GoodIn wmL_asks (va_wsS RL 236 yL_hatChair wmL_hatChair) := goodIn_sub (fun w h => List.mem_cons_of_mem _ (List.mem_cons_of_mem _ (List.mem_append_right _ (List.mem_append_right _ (List.mem_append_right _ (List.mem_append_right _ (List.mem_append_right _ (List.mem_append_right _ (List.mem_append_right _ (List.mem_append_right _ (List.mem_append_right _ (List.mem_append_right _ (List.mem_append_right _ (List.mem_append_right _ (List.mem_append_right _ (List.mem_append_right _ (List.mem_append_left _ h))))))))))))))))) (by decide +kernel)
theorem mL_asks_L_idle : GoodIn wmL_asks (va_wsS RL 238 yL_idle wmL_idle) := goodIn_sub (fun w h => List.mem_cons_of_mem _ (List.mem_cons_of_mem _ (List.mem_append_right _ (List.mem_append_right _ (List.mem_append_right _ (List.mem_append_right _ (List.mem_append_right _ (List.mem_append_right _ (List.mem_append_right _ (List.mem_append_right _ (List.mem_append_right _ (List.mem_append_right _ (List.mem_append_right _ (List.mem_append_right _ (List.mem_append_right _ (List.mem_append_right _ (List.mem_append_right _ (List.mem_append_left _ h)))))))))))))))))) (by decide +kernel)
theorem mL_asks_L_coatChair : GoodIn wmL_asks (va_wsS RL 241 yL_coatChair wmL_coatChair) := goodIn_sub (fun w h => List.mem_cons_of_mem _ (List.mem_cons_of_mem _ (List.mem_append_right _ (List.mem_append_right _ (List.mem_append_right _ (List.mem_append_right _ (List.mem_append_right _ (List.mem_append_right _ (List.mem_append_right _ (List.mem_append_right _ (List.mem_append_right _ (List.mem_append_right _ (List.mem_append_right _ (List.mem_append_right _ (List.mem_append_right _ (List.mem_append_right _ (List.mem_append_right _ (List.mem_append_right _ (List.mem_append_left _ h))))))))))))))))))) (by decide +kernel)
theorem mL_asks_L_coverSize : GoodIn wmL_asks (va_wsS RL 243 yL_coverSize wmL_coverSize) := goodIn_sub (fun w h => List.mem_cons_of_mem _ (List.mem_cons_of_mem _ (List.mem_append_right _ (List.mem_append_right _ (List.mem_append_right _ (List.mem_append_right _ (List.mem_append_right _ (List.mem_append_right _ (List.mem_append_right _ (List.mem_append_right _ (List.mem_append_right _ (List.mem_append_right _ (List.mem_append_right _ (List.mem_append_right _ (List.mem_append_right _ (List.mem_append_right _ (List.mem_append_right _ (List.mem_append_right _ (List.mem_append_right _ (List.mem_append_left _ h)))))))))))))))))))) (by decide +kernel)
theorem mL_asks_L_atRank : GoodIn wmL_asks (va_wsS RL 245 yL_atRank wmL_atRank) := goodIn_sub (fun w h => List.mem_cons_of_mem _ (List.mem_cons_of_mem _ (List.mem_append_right _ (List.mem_append_right _ (List.mem_append_right _ (List.mem_append_right _ (List.mem_append_right _ (List.mem_append_right _ (List.mem_append_right _ (List.mem_append_right _ (List.mem_append_right _ (List.mem_append_right _ (List.mem_append_right _ (List.mem_append_right _ (List.mem_append_right _ (List.mem_append_right _ (List.mem_append_right _ (List.mem_append_right _ (List.mem_append_right _ (List.mem_append_right _ (List.mem_append_left _ h))))))))))))))))))))) (by decide +kernel)
theorem mL_asks_L_coverer : GoodIn wmL_asks (va_wsS RL 248 yL_coverer wmL_coverer) := goodIn_sub (fun w h => List.mem_cons_of_mem _ (List.mem_cons_of_mem _ (List.mem_append_right _ (List.mem_append_right _ (List.mem_append_right _ (List.mem_append_right _ (List.mem_append_right _ (List.mem_append_right _ (List.mem_append_right _ (List.mem_append_right _ (List.mem_append_right _ (List.mem_append_right _ (List.mem_append_right _ (List.mem_append_right _ (List.mem_append_right _ (List.mem_append_right _ (List.mem_append_right _ (List.mem_append_right _ (List.mem_append_right _ (List.mem_append_right _ (List.mem_append_right _ (List.mem_append_left _ h)))))))))))))))))))))) (by decide +kernel)
theorem mL_asks_L_next : GoodIn wmL_asks (va_wsS RL 251 yL_next wmL_next) := goodIn_sub (fun w h => List.mem_cons_of_mem _ (List.mem_cons_of_mem _ (List.mem_append_right _ (List.mem_append_right _ (List.mem_append_right _ (List.mem_append_right _ (List.mem_append_right _ (List.mem_append_right _ (List.mem_append_right _ (List.mem_append_right _ (List.mem_append_right _ (List.mem_append_right _ (List.mem_append_right _ (List.mem_append_right _ (List.mem_append_right _ (List.mem_append_right _ (List.mem_append_right _ (List.mem_append_right _ (List.mem_append_right _ (List.mem_append_right _ (List.mem_append_right _ (List.mem_append_right _ (List.mem_append_left _ h))))))))))))))))))))))) (by decide +kernel)
theorem mL_asks_L_coatCount : GoodIn wmL_asks (va_wsS RL 254 yL_coatCount wmL_coatCount) := goodIn_sub (fun w h => List.mem_cons_of_mem _ (List.mem_cons_of_mem _ (List.mem_append_right _ (List.mem_append_right _ (List.mem_append_right _ (List.mem_append_right _ (List.mem_append_right _ (List.mem_append_right _ (List.mem_append_right _ (List.mem_append_right _ (List.mem_append_right _ (List.mem_append_right _ (List.mem_append_right _ (List.mem_append_right _ (List.mem_append_right _ (List.mem_append_right _ (List.mem_append_right _ (List.mem_append_right _ (List.mem_append_right _ (List.mem_append_right _ (List.mem_append_right _ (List.mem_append_right _ (List.mem_append_right _ (List.mem_append_left _ h)))))))))))))))))))))))) (by decide +kernel)
theorem mL_asks_L_coatOwner : GoodIn wmL_asks (va_wsS RL 256 yL_coatOwner wmL_coatOwner) := goodIn_sub (fun w h => List.mem_cons_of_mem _ (List.mem_cons_of_mem _ (List.mem_append_right _ (List.mem_append_right _ (List.mem_append_right _ (List.mem_append_right _ (List.mem_append_right _ (List.mem_append_right _ (List.mem_append_right _ (List.mem_append_right _ (List.mem_append_right _ (List.mem_append_right _ (List.mem_append_right _ (List.mem_append_right _ (List.mem_append_right _ (List.mem_append_right _ (List.mem_append_right _ (List.mem_append_right _ (List.mem_append_right _ (List.mem_append_right _ (List.mem_append_right _ (List.mem_append_right _ (List.mem_append_right _ (List.mem_append_right _ (List.mem_append_left _ h))))))))))))))))))))))))) (by decide +kernel)
theorem mL_asks_L_longest : GoodIn wmL_asks (va_wsS RL 258 yL_longest wmL_longest) := goodIn_sub (fun w h => List.mem_cons_of_mem _ (List.mem_cons_of_mem _ (List.mem_append_right _ (List.mem_append_right _ (List.mem_append_right _ (List.mem_append_right _ (List.mem_append_right _ (List.mem_append_right _ (List.mem_append_right _ (List.mem_append_right _ (List.mem_append_right _ (List.mem_append_right _ (List.mem_append_right _ (List.mem_append_right _ (List.mem_append_right _ (List.mem_append_right _ (List.mem_append_right _ (List.mem_append_right _ (List.mem_append_right _ (List.mem_append_right _ (List.mem_append_right _ (List.mem_append_right _ (List.mem_append_right _ (List.mem_append_right _ (List.mem_append_right _ (h)))))))))))))))))))))))))) (by decide +kernel)
set_option maxHeartbeats 4000000 in
set_option maxRecDepth 100000 in
theorem kL_asks (l : Launch) (hfl : l.stackTraces = false) (D : va_G) (ca : Nat → ClassId) (en ks vs : Nat → Nat) (ai : Nat → Nat → Nat) (ad bd : Nat → Nat) (sz : Nat) (u : OS) (hoi : OI u) : Met l yL_asks wmL_asks ({ frames := 9, cells := 1644, slots := 9864, locals := 153 }) (MGPc D ca (HX en ks vs) sz (OW ca en ai ad bd u) [.ref (ad 0)]) (va_Ql (fun r v => (r, v) = (asks (og0 u), u)) (MB D ca (va_A (OW ca en ai ad bd u) sz) (fun v => OW ca en ai ad bd v)) (va_A (OW ca en ai ad bd u) sz)) 1644 9864 (va_A (OW ca en ai ad bd u) sz) := by
  refine Met.ofW (cc := cL_asks) (maxL := 6) (ret := some .long) (by decide) rfl ?_
  intro p e s m args below meth c s₁ B hml hv
  obtain ⟨rfl, hsz, hP, hK, hD0, hX⟩ := hv
  have hx := B.exec
  have hb := B.bytes
  have hr := B.returns
  have hts := atoms_spec (ws := wmL_asks) B.pre
  have hown : s.vm.findClass RL = some m.cls := findClass_of_methodNamed B.named
  have hlocks := B.notSynchronized
  subst hsz
  have hD := hD0.self (sz := s.heap.size)
  generalize hAe : va_A (OW ca en ai ad bd u) s.heap.size = A at hD hX ⊢
  have hA : ∀ q : Nat, s.heap.size ≤ q → A q := fun q h => by rw [← hAe]; exact Or.inr h
  have hS : va_S A s.heap s.heap [] := va_S.rf
  have c290 : ∀ (n k : Nat) (hnk : n + k = 4) (y : Int64) (H : Heap) (locs : List Loc) (hP : va_P D vwCl (OW ca en ai ad bd u) H) (hD : va_D A (OW ca en ai ad bd u)) (hS : va_S A s.heap H locs) (hf : asks (og0 u) = fA_290 n k (og0 u) y) (ls : Array Slot) (hl : lv_has ls 6 [(4, .int (nI k)), (2, .long y), (0, .ref (ad 0))]), W p l e (headSpec wmL_asks ({ frames := 9, cells := 1644, slots := 9864, locals := 153 })).room s m ([.ref (ad 0)] : List Value).toArray below meth c H locs (1636 + 2 * k) (9816 + 12 * k) (MQ below (va_Ql (fun r v => (r, v) = (asks (og0 u), u)) (MB D ca A (fun v => OW ca en ai ad bd v)) A) ([.ref (ad 0)] : List Value).toArray s 1644 9864 A) (F0 m 290 ls []) := by
    intro n
    induction n with
    | zero =>
      intro k hnk y H locs hP hD hS hf ls hl
      obtain rfl : 4 = k := by omega
      refine lv_iload hx hb dL_asks_290 (lv_at hl 0 rfl) ?_
      refine lv_iconst (v := 4) hx hb dL_asks_292 (by decide) ?_
      refine lv_icmp_ge (tgt := 316) hx hb dL_asks_293 (by decide) (fun _ => ?_) (fun q => absurd (by decide) q)
      refine lv_lload_n hx hb dL_asks_316 rfl (lv_at hl 1 rfl) ?_
      refine W.widen (k := 1644) (n := 9864) (by omega) (by omega) ?_
      exact W.lret hx hb hr (fun t ht hW => ⟨⟨y, u, rfl, by rw [hf]; rfl, by rw [ht]; exact hP, va_K.moved hW.alike hK, hD⟩, hS.F ht⟩) hS.2.2 dL_asks_317
    | succ n ih =>
      intro k hnk y H locs hP hD hS hf ls hl
      refine lv_iload hx hb dL_asks_290 (lv_at hl 0 rfl) ?_
      refine lv_iconst (v := 4) hx hb dL_asks_292 (by decide) ?_
      refine lv_icmp_ge (tgt := 316) hx hb dL_asks_293 (by decide) (fun q => absurd q (show ¬ (4 : Int32) ≤ nI k from nI_ge (b := 4) (by omega) (by decide))) (fun _ => ?_)
      refine lv_ldc2 (v := 31) hx hb hown (hts (.constantLong RL 189 31) (List.mem_cons_of_mem _ List.mem_cons_self)) dL_asks_296 ?_
      refine lv_lload_n hx hb dL_asks_299 rfl (lv_at hl 1 rfl) ?_
      refine lv_lmul hx hb dL_asks_300 ?_
      refine lv_aload_n hx hb dL_asks_301 rfl (lv_at hl 2 rfl) ?_
      refine lv_iload hx hb dL_asks_302 (lv_at hl 0 rfl) ?_
      refine hcLi (wr := []) (u := u) (G := ((wv (r_longestFreeRun (og0 u) ((nI k)))), u)) (As := [.ref (ad 0), .int (nI k)]) (rest := [.long (31 * y)]) ⟨hx, hb, hml, hown, hts⟩ (by rw [← rd_longestFreeRun u ((nI k))]; exact kL_longest l hfl D ca en ks vs ai ad bd _ u ((nI k)) hoi) (vx_cwSW 2 hts mL_asks_L_longest rfl rfl rfl (by decide +kernel) ⟨Nat.le_of_ble_eq_true rfl, Nat.le_of_ble_eq_true rfl⟩) hK hP hD hS hA hX (List.Perm.refl _) rfl hl.1 rfl (Nat.le_of_ble_eq_true rfl) ⟨by show _ ≤ 1644; omega, by show _ ≤ 9864; omega⟩ dL_asks_304 (fun H locs hP hD hS => ?_)
      refine W.widen (k := ((1636 + 2 * k) + 2)) (n := ((9816 + 12 * k) + 12)) (by omega) (by omega) ?_
      refine lv_i2l (v := ((wv (r_longestFreeRun (og0 u) ((nI k))))).toInt64) hx hb dL_asks_307 rfl ?_
      refine lv_ladd hx hb dL_asks_308 ?_
      refine lv_lstore_n (lv' := [(2, .long ((31 * y) + (((wv (r_longestFreeRun (og0 u) ((nI k))))).toInt64))), (4, .int (nI k)), (0, .ref (ad 0))]) hx hb dL_asks_309 rfl hl (by decide) rfl (fun ls hl => ?_)
      refine lv_iinc (v := nI (k + 1)) (lv' := [(4, .int (nI (k + 1))), (2, .long ((31 * y) + (((wv (r_longestFreeRun (og0 u) ((nI k))))).toInt64))), (0, .ref (ad 0))]) hx hb dL_asks_310 hl (k := 1) rfl (nI_1 k) (by decide) rfl (fun ls hl => ?_)
      refine lv_goto (tgt := 290) hx hb dL_asks_313 (by decide) ?_
      refine W.widen (k := (1636 + 2 * (k + 1))) (n := (9816 + 12 * (k + 1))) (by omega) (by omega) ?_
      exact ih (k + 1) (by omega) _ _ _ hP hD hS (by rw [hf, fA_290]) ls (lv_sub hl [0, 1, 2] rfl)
  have c212 : ∀ (n k : Nat) (hnk : n + k = 40) (y : Int64) (H : Heap) (locs : List Loc) (hP : va_P D vwCl (OW ca en ai ad bd u) H) (hD : va_D A (OW ca en ai ad bd u)) (hS : va_S A s.heap H locs) (hf : asks (og0 u) = fA_212 n k (og0 u) y) (ls : Array Slot) (hl : lv_has ls 6 [(4, .int (nI k)), (2, .long y), (0, .ref (ad 0))]), W p l e (headSpec wmL_asks ({ frames := 9, cells := 1644, slots := 9864, locals := 153 })).room s m ([.ref (ad 0)] : List Value).toArray below meth c H locs (116 + 38 * k) (696 + 228 * k) (MQ below (va_Ql (fun r v => (r, v) = (asks (og0 u), u)) (MB D ca A (fun v => OW ca en ai ad bd v)) A) ([.ref (ad 0)] : List Value).toArray s 1644 9864 A) (F0 m 212 ls []) := by
    intro n
    induction n with
    | zero =>
      intro k hnk y H locs hP hD hS hf ls hl
      obtain rfl : 40 = k := by omega
      refine lv_iload hx hb dL_asks_212 (lv_at hl 0 rfl) ?_
      refine lv_bipush (v := 40) hx hb dL_asks_214 (by decide) ?_
      refine lv_icmp_ge (tgt := 287) hx hb dL_asks_216 (by decide) (fun _ => ?_) (fun q => absurd (by decide) q)
      refine lv_iconst (v := 0) hx hb dL_asks_287 (by decide) ?_
      refine lv_istore (lv' := [(4, .int 0), (2, .long y), (0, .ref (ad 0))]) hx hb dL_asks_288 hl (by decide) rfl (fun ls hl => ?_)
      refine W.widen (k := (1636 + 2 * 0)) (n := (9816 + 12 * 0)) (by omega) (by omega) ?_
      exact c290 4 0 rfl _ _ _ hP hD hS (by rw [hf, fA_212]) ls (lv_sub hl [0, 1, 2] rfl)
    | succ n ih =>
      intro k hnk y H locs hP hD hS hf ls hl
      have c248 : ∀ (q j : Nat) (hqj : q + j = 8) (y : Int64) (H : Heap) (locs : List Loc) (hP : va_P D vwCl (OW ca en ai ad bd u) H) (hD : va_D A (OW ca en ai ad bd u)) (hS : va_S A s.heap H locs) (hf : asks (og0 u) = fA_212 n (k + 1) (og0 u) (fA_248 q j (og0 u) (nI k) y)) (ls : Array Slot) (hl : lv_has ls 6 [(5, .int (nI j)), (4, .int (nI k)), (2, .long y), (0, .ref (ad 0))]), W p l e (headSpec wmL_asks ({ frames := 9, cells := 1644, slots := 9864, locals := 153 })).room s m ([.ref (ad 0)] : List Value).toArray below meth c H locs (116 + 38 * k + 4 + 4 * j) (696 + 228 * k + 24 + 24 * j) (MQ below (va_Ql (fun r v => (r, v) = (asks (og0 u), u)) (MB D ca A (fun v => OW ca en ai ad bd v)) A) ([.ref (ad 0)] : List Value).toArray s 1644 9864 A) (F0 m 248 ls []) := by
        intro q
        induction q with
        | zero =>
          intro j hqj y H locs hP hD hS hf ls hl
          obtain rfl : 8 = j := by omega
          refine lv_iload hx hb dL_asks_248 (lv_at hl 0 rfl) ?_
          refine lv_aload_n hx hb dL_asks_250 rfl (lv_at hl 3 rfl) ?_
          refine lv_iload hx hb dL_asks_251 (lv_at hl 1 rfl) ?_
          refine hcLi (wr := []) (u := u) (G := ((wv (r_coatCount (og0 u) ((nI k)))), u)) (As := [.ref (ad 0), .int (nI k)]) (rest := [.int (nI 8)]) ⟨hx, hb, hml, hown, hts⟩ (by rw [← rd_coatCount u ((nI k))]; exact kL_coatCount l hfl D ca en ks vs ai ad bd _ u ((nI k)) hoi) (vx_cwSW 2 hts mL_asks_L_coatCount rfl rfl rfl (by decide +kernel) ⟨Nat.le_of_ble_eq_true rfl, Nat.le_of_ble_eq_true rfl⟩) hK hP hD hS hA hX (List.Perm.refl _) rfl hl.1 rfl (Nat.le_of_ble_eq_true rfl) ⟨by show _ ≤ 1644; omega, by show _ ≤ 9864; omega⟩ dL_asks_253 (fun H locs hP hD hS => ?_)
          refine W.widen (k := ((116 + 38 * k + 4 + 4 * 8) + 2)) (n := ((696 + 228 * k + 24 + 24 * 8) + 12)) (by omega) (by omega) ?_
          refine lv_icmp_ge (tgt := 281) hx hb dL_asks_256 (by decide) (fun c256 => ?_) (fun q => absurd (cnt_le _ _) q)
          refine lv_iinc (v := nI (k + 1)) (lv' := [(4, .int (nI (k + 1))), (5, .int (nI 8)), (2, .long y), (0, .ref (ad 0))]) hx hb dL_asks_281 hl (k := 1) rfl (nI_1 k) (by decide) rfl (fun ls hl => ?_)
          refine lv_goto (tgt := 212) hx hb dL_asks_284 (by decide) ?_
          refine W.widen (k := (116 + 38 * (k + 1))) (n := (696 + 228 * (k + 1))) (by omega) (by omega) ?_
          exact ih (k + 1) (by omega) _ _ _ hP hD hS (by rw [hf, fA_248]) ls (lv_sub hl [0, 2, 3] rfl)
        | succ q iq =>
          intro j hqj y H locs hP hD hS hf ls hl
          refine lv_iload hx hb dL_asks_248 (lv_at hl 0 rfl) ?_
          refine lv_aload_n hx hb dL_asks_250 rfl (lv_at hl 3 rfl) ?_
          refine lv_iload hx hb dL_asks_251 (lv_at hl 1 rfl) ?_
          refine hcLi (wr := []) (u := u) (G := ((wv (r_coatCount (og0 u) ((nI k)))), u)) (As := [.ref (ad 0), .int (nI k)]) (rest := [.int (nI j)]) ⟨hx, hb, hml, hown, hts⟩ (by rw [← rd_coatCount u ((nI k))]; exact kL_coatCount l hfl D ca en ks vs ai ad bd _ u ((nI k)) hoi) (vx_cwSW 2 hts mL_asks_L_coatCount rfl rfl rfl (by decide +kernel) ⟨Nat.le_of_ble_eq_true rfl, Nat.le_of_ble_eq_true rfl⟩) hK hP hD hS hA hX (List.Perm.refl _) rfl hl.1 rfl (Nat.le_of_ble_eq_true rfl) ⟨by show _ ≤ 1644; omega, by show _ ≤ 9864; omega⟩ dL_asks_253 (fun H locs hP hD hS => ?_)
          refine W.widen (k := ((116 + 38 * k + 4 + 4 * j) + 2)) (n := ((696 + 228 * k + 24 + 24 * j) + 12)) (by omega) (by omega) ?_
          refine lv_icmp_ge (tgt := 281) hx hb dL_asks_256 (by decide) (fun c256 => ?_) (fun c256 => ?_)
          · rw [fA_248, if_pos c256] at hf
            refine lv_iinc (v := nI (k + 1)) (lv' := [(4, .int (nI (k + 1))), (5, .int (nI j)), (2, .long y), (0, .ref (ad 0))]) hx hb dL_asks_281 hl (k := 1) rfl (nI_1 k) (by decide) rfl (fun ls hl => ?_)
            refine lv_goto (tgt := 212) hx hb dL_asks_284 (by decide) ?_
            refine W.widen (k := (116 + 38 * (k + 1))) (n := (696 + 228 * (k + 1))) (by omega) (by omega) ?_
            exact ih (k + 1) (by omega) _ _ _ hP hD hS hf ls (lv_sub hl [0, 2, 3] rfl)
          · rw [fA_248, if_neg c256] at hf
            refine lv_ldc2 (v := 31) hx hb hown (hts (.constantLong RL 189 31) (List.mem_cons_of_mem _ List.mem_cons_self)) dL_asks_259 ?_
            refine lv_lload_n hx hb dL_asks_262 rfl (lv_at hl 2 rfl) ?_
            refine lv_lmul hx hb dL_asks_263 ?_
            refine lv_aload_n hx hb dL_asks_264 rfl (lv_at hl 3 rfl) ?_
            refine lv_iload hx hb dL_asks_265 (lv_at hl 1 rfl) ?_
            refine lv_iload hx hb dL_asks_267 (lv_at hl 0 rfl) ?_
            refine hcLi (wr := []) (u := u) (G := ((wv (r_coatOwner (og0 u) ((nI k)) ((nI j)))), u)) (As := [.ref (ad 0), .int (nI k), .int (nI j)]) (rest := [.long (31 * y)]) ⟨hx, hb, hml, hown, hts⟩ (by rw [← rd_coatOwner u ((nI k)) ((nI j))]; exact kL_coatOwner l hfl D ca en ks vs ai ad bd _ u ((nI k)) ((nI j)) hoi) (vx_cwSW 3 hts mL_asks_L_coatOwner rfl rfl rfl (by decide +kernel) ⟨Nat.le_of_ble_eq_true rfl, Nat.le_of_ble_eq_true rfl⟩) hK hP hD hS hA hX (List.Perm.refl _) rfl hl.1 rfl (Nat.le_of_ble_eq_true rfl) ⟨by show _ ≤ 1644; omega, by show _ ≤ 9864; omega⟩ dL_asks_269 (fun H locs hP hD hS => ?_)
            refine W.widen (k := ((116 + 38 * k + 4 + 4 * j) + 4)) (n := ((696 + 228 * k + 24 + 24 * j) + 24)) (by omega) (by omega) ?_
            refine lv_i2l (v := ((wv (r_coatOwner (og0 u) ((nI k)) ((nI j))))).toInt64) hx hb dL_asks_272 rfl ?_
            refine lv_ladd hx hb dL_asks_273 ?_
            refine lv_lstore_n (lv' := [(2, .long ((31 * y) + (((wv (r_coatOwner (og0 u) ((nI k)) ((nI j))))).toInt64))), (5, .int (nI j)), (4, .int (nI k)), (0, .ref (ad 0))]) hx hb dL_asks_274 rfl hl (by decide) rfl (fun ls hl => ?_)
            refine lv_iinc (v := nI (j + 1)) (lv' := [(5, .int (nI (j + 1))), (2, .long ((31 * y) + (((wv (r_coatOwner (og0 u) ((nI k)) ((nI j))))).toInt64))), (4, .int (nI k)), (0, .ref (ad 0))]) hx hb dL_asks_275 hl (k := 1) rfl (nI_1 j) (by decide) rfl (fun ls hl => ?_)
            refine lv_goto (tgt := 248) hx hb dL_asks_278 (by decide) ?_
            refine W.widen (k := (116 + 38 * k + 4 + 4 * (j + 1))) (n := (696 + 228 * k + 24 + 24 * (j + 1))) (by omega) (by omega) ?_
            exact iq (j + 1) (by omega) _ _ _ hP hD hS hf ls (lv_sub hl [0, 2, 1, 3] rfl)
      refine lv_iload hx hb dL_asks_212 (lv_at hl 0 rfl) ?_
      refine lv_bipush (v := 40) hx hb dL_asks_214 (by decide) ?_
      refine lv_icmp_ge (tgt := 287) hx hb dL_asks_216 (by decide) (fun q => absurd q (show ¬ (40 : Int32) ≤ nI k from nI_ge (b := 40) (by omega) (by decide))) (fun _ => ?_)
      refine lv_ldc2 (v := 31) hx hb hown (hts (.constantLong RL 189 31) (List.mem_cons_of_mem _ List.mem_cons_self)) dL_asks_219 ?_
      refine lv_ldc2 (v := 31) hx hb hown (hts (.constantLong RL 189 31) (List.mem_cons_of_mem _ List.mem_cons_self)) dL_asks_222 ?_
      refine lv_lload_n hx hb dL_asks_225 rfl (lv_at hl 1 rfl) ?_
      refine lv_lmul hx hb dL_asks_226 ?_
      refine lv_aload_n hx hb dL_asks_227 rfl (lv_at hl 2 rfl) ?_
      refine lv_iload hx hb dL_asks_228 (lv_at hl 0 rfl) ?_
      refine hcLi (wr := []) (u := u) (G := ((wv (r_covererOf (og0 u) ((nI k)))), u)) (As := [.ref (ad 0), .int (nI k)]) (rest := [.long (31 * y), .long 31]) ⟨hx, hb, hml, hown, hts⟩ (by rw [← rd_covererOf u ((nI k))]; exact kL_coverer l hfl D ca en ks vs ai ad bd _ u ((nI k)) hoi) (vx_cwSW 2 hts mL_asks_L_coverer rfl rfl rfl (by decide +kernel) ⟨Nat.le_of_ble_eq_true rfl, Nat.le_of_ble_eq_true rfl⟩) hK hP hD hS hA hX (List.Perm.refl _) rfl hl.1 rfl (Nat.le_of_ble_eq_true rfl) ⟨by show _ ≤ 1644; omega, by show _ ≤ 9864; omega⟩ dL_asks_230 (fun H locs hP hD hS => ?_)
      refine W.widen (k := ((116 + 38 * k) + 2)) (n := ((696 + 228 * k) + 12)) (by omega) (by omega) ?_
      refine lv_i2l (v := ((wv (r_covererOf (og0 u) ((nI k))))).toInt64) hx hb dL_asks_233 rfl ?_
      refine lv_ladd hx hb dL_asks_234 ?_
      refine lv_lmul hx hb dL_asks_235 ?_
      refine lv_aload_n hx hb dL_asks_236 rfl (lv_at hl 2 rfl) ?_
      refine lv_iload hx hb dL_asks_237 (lv_at hl 0 rfl) ?_
      refine hcLi (wr := []) (u := u) (G := ((wv (r_nextClaimant (og0 u) ((nI k)))), u)) (As := [.ref (ad 0), .int (nI k)]) (rest := [.long (31 * ((31 * y) + (((wv (r_covererOf (og0 u) ((nI k))))).toInt64)))]) ⟨hx, hb, hml, hown, hts⟩ (by rw [← rd_nextClaimant u ((nI k))]; exact kL_next l hfl D ca en ks vs ai ad bd _ u ((nI k)) hoi) (vx_cwSW 2 hts mL_asks_L_next rfl rfl rfl (by decide +kernel) ⟨Nat.le_of_ble_eq_true rfl, Nat.le_of_ble_eq_true rfl⟩) hK hP hD hS hA hX (List.Perm.refl _) rfl hl.1 rfl (Nat.le_of_ble_eq_true rfl) ⟨by show _ ≤ 1644; omega, by show _ ≤ 9864; omega⟩ dL_asks_239 (fun H locs hP hD hS => ?_)
      refine W.widen (k := ((116 + 38 * k) + 4)) (n := ((696 + 228 * k) + 24)) (by omega) (by omega) ?_
      refine lv_i2l (v := ((wv (r_nextClaimant (og0 u) ((nI k))))).toInt64) hx hb dL_asks_242 rfl ?_
      refine lv_ladd hx hb dL_asks_243 ?_
      refine lv_lstore_n (lv' := [(2, .long ((31 * ((31 * y) + (((wv (r_covererOf (og0 u) ((nI k))))).toInt64))) + (((wv (r_nextClaimant (og0 u) ((nI k))))).toInt64))), (4, .int (nI k)), (0, .ref (ad 0))]) hx hb dL_asks_244 rfl hl (by decide) rfl (fun ls hl => ?_)
      refine lv_iconst (v := 0) hx hb dL_asks_245 (by decide) ?_
      refine lv_istore (lv' := [(5, .int 0), (2, .long ((31 * ((31 * y) + (((wv (r_covererOf (og0 u) ((nI k))))).toInt64))) + (((wv (r_nextClaimant (og0 u) ((nI k))))).toInt64))), (4, .int (nI k)), (0, .ref (ad 0))]) hx hb dL_asks_246 hl (by decide) rfl (fun ls hl => ?_)
      refine W.widen (k := (116 + 38 * k + 4 + 4 * 0)) (n := (696 + 228 * k + 24 + 24 * 0)) (by omega) (by omega) ?_
      exact c248 8 0 rfl _ _ _ hP hD hS (by rw [hf, fA_212]) ls (lv_sub hl [0, 2, 1, 3] rfl)
  have c109 : ∀ (n k : Nat) (hnk : n + k = 8) (y : Int64) (H : Heap) (locs : List Loc) (hP : va_P D vwCl (OW ca en ai ad bd u) H) (hD : va_D A (OW ca en ai ad bd u)) (hS : va_S A s.heap H locs) (hf : asks (og0 u) = fA_109 n k (og0 u) y) (ls : Array Slot) (hl : lv_has ls 6 [(4, .int (nI k)), (2, .long y), (1, .int (h9 (og0 u))), (0, .ref (ad 0))]), W p l e (headSpec wmL_asks ({ frames := 9, cells := 1644, slots := 9864, locals := 153 })).room s m ([.ref (ad 0)] : List Value).toArray below meth c H locs (4 + 14 * k) (24 + 84 * k) (MQ below (va_Ql (fun r v => (r, v) = (asks (og0 u), u)) (MB D ca A (fun v => OW ca en ai ad bd v)) A) ([.ref (ad 0)] : List Value).toArray s 1644 9864 A) (F0 m 109 ls []) := by
    intro n
    induction n with
    | zero =>
      intro k hnk y H locs hP hD hS hf ls hl
      obtain rfl : 8 = k := by omega
      refine lv_iload hx hb dL_asks_109 (lv_at hl 0 rfl) ?_
      refine lv_iload_n hx hb dL_asks_111 rfl (lv_at hl 2 rfl) ?_
      refine lv_icmp_ge (tgt := 209) hx hb dL_asks_112 (by decide) (fun _ => ?_) (fun q => absurd hoi.1.2 q)
      refine lv_iconst (v := 0) hx hb dL_asks_209 (by decide) ?_
      refine lv_istore (lv' := [(4, .int 0), (2, .long y), (1, .int (h9 (og0 u))), (0, .ref (ad 0))]) hx hb dL_asks_210 hl (by decide) rfl (fun ls hl => ?_)
      refine W.widen (k := (116 + 38 * 0)) (n := (696 + 228 * 0)) (by omega) (by omega) ?_
      exact c212 40 0 rfl _ _ _ hP hD hS (by rw [hf, fA_109]) ls (lv_sub hl [0, 1, 3] rfl)
    | succ n ih =>
      intro k hnk y H locs hP hD hS hf ls hl
      refine lv_iload hx hb dL_asks_109 (lv_at hl 0 rfl) ?_
      refine lv_iload_n hx hb dL_asks_111 rfl (lv_at hl 2 rfl) ?_
      refine lv_icmp_ge (tgt := 209) hx hb dL_asks_112 (by decide) (fun c112 => ?_) (fun c112 => ?_)
      · rw [fA_109, if_pos c112] at hf
        refine lv_iconst (v := 0) hx hb dL_asks_209 (by decide) ?_
        refine lv_istore (lv' := [(4, .int 0), (2, .long y), (1, .int (h9 (og0 u))), (0, .ref (ad 0))]) hx hb dL_asks_210 hl (by decide) rfl (fun ls hl => ?_)
        refine W.widen (k := (116 + 38 * 0)) (n := (696 + 228 * 0)) (by omega) (by omega) ?_
        exact c212 40 0 rfl _ _ _ hP hD hS hf ls (lv_sub hl [0, 1, 3] rfl)
      · rw [fA_109, if_neg c112] at hf
        refine lv_ldc2 (v := 31) hx hb hown (hts (.constantLong RL 189 31) (List.mem_cons_of_mem _ List.mem_cons_self)) dL_asks_115 ?_
        refine lv_ldc2 (v := 31) hx hb hown (hts (.constantLong RL 189 31) (List.mem_cons_of_mem _ List.mem_cons_self)) dL_asks_118 ?_
        refine lv_ldc2 (v := 31) hx hb hown (hts (.constantLong RL 189 31) (List.mem_cons_of_mem _ List.mem_cons_self)) dL_asks_121 ?_
        refine lv_ldc2 (v := 31) hx hb hown (hts (.constantLong RL 189 31) (List.mem_cons_of_mem _ List.mem_cons_self)) dL_asks_124 ?_
        refine lv_lload_n hx hb dL_asks_127 rfl (lv_at hl 1 rfl) ?_
        refine lv_lmul hx hb dL_asks_128 ?_
        refine lv_aload_n hx hb dL_asks_129 rfl (lv_at hl 3 rfl) ?_
        refine lv_iload hx hb dL_asks_130 (lv_at hl 0 rfl) ?_
        refine hcLi (wr := []) (u := u) (G := ((wv (r_feathers (og0 u) ((nI k)))), u)) (As := [.ref (ad 0), .int (nI k)]) (rest := [.long (31 * y), .long 31, .long 31, .long 31]) ⟨hx, hb, hml, hown, hts⟩ (by rw [← rd_feathers u ((nI k))]; exact kL_feathers l hfl D ca en ks vs ai ad bd _ u ((nI k)) hoi) (vx_cwSW 2 hts mL_asks_L_feathers rfl rfl rfl (by decide +kernel) ⟨Nat.le_of_ble_eq_true rfl, Nat.le_of_ble_eq_true rfl⟩) hK hP hD hS hA hX (List.Perm.refl _) rfl hl.1 rfl (Nat.le_of_ble_eq_true rfl) ⟨by show _ ≤ 1644; omega, by show _ ≤ 9864; omega⟩ dL_asks_132 (fun H locs hP hD hS => ?_)
        refine W.widen (k := ((4 + 14 * k) + 2)) (n := ((24 + 84 * k) + 12)) (by omega) (by omega) ?_
        refine lv_i2l (v := ((wv (r_feathers (og0 u) ((nI k))))).toInt64) hx hb dL_asks_135 rfl ?_
        refine lv_ladd hx hb dL_asks_136 ?_
        refine lv_lmul hx hb dL_asks_137 ?_
        refine lv_aload_n hx hb dL_asks_138 rfl (lv_at hl 3 rfl) ?_
        refine lv_iload hx hb dL_asks_139 (lv_at hl 0 rfl) ?_
        refine hcLi (wr := []) (u := u) (G := ((wv (r_brim (og0 u) ((nI k)))), u)) (As := [.ref (ad 0), .int (nI k)]) (rest := [.long (31 * ((31 * y) + (((wv (r_feathers (og0 u) ((nI k))))).toInt64))), .long 31, .long 31]) ⟨hx, hb, hml, hown, hts⟩ (by rw [← rd_brim u ((nI k))]; exact kL_brim l hfl D ca en ks vs ai ad bd _ u ((nI k)) hoi) (vx_cwSW 2 hts mL_asks_L_brim rfl rfl rfl (by decide +kernel) ⟨Nat.le_of_ble_eq_true rfl, Nat.le_of_ble_eq_true rfl⟩) hK hP hD hS hA hX (List.Perm.refl _) rfl hl.1 rfl (Nat.le_of_ble_eq_true rfl) ⟨by show _ ≤ 1644; omega, by show _ ≤ 9864; omega⟩ dL_asks_141 (fun H locs hP hD hS => ?_)
        refine W.widen (k := ((4 + 14 * k) + 4)) (n := ((24 + 84 * k) + 24)) (by omega) (by omega) ?_
        refine lv_i2l (v := ((wv (r_brim (og0 u) ((nI k))))).toInt64) hx hb dL_asks_144 rfl ?_
        refine lv_ladd hx hb dL_asks_145 ?_
        refine lv_lmul hx hb dL_asks_146 ?_
        refine lv_aload_n hx hb dL_asks_147 rfl (lv_at hl 3 rfl) ?_
        refine lv_iload hx hb dL_asks_148 (lv_at hl 0 rfl) ?_
        refine hcLi (wr := []) (u := u) (G := ((wv (r_hatChair (og0 u) ((nI k)))), u)) (As := [.ref (ad 0), .int (nI k)]) (rest := [.long (31 * ((31 * ((31 * y) + (((wv (r_feathers (og0 u) ((nI k))))).toInt64))) + (((wv (r_brim (og0 u) ((nI k))))).toInt64))), .long 31]) ⟨hx, hb, hml, hown, hts⟩ (by rw [← rd_hatChair u ((nI k))]; exact kL_hatChair l hfl D ca en ks vs ai ad bd _ u ((nI k)) hoi) (vx_cwSW 2 hts mL_asks_L_hatChair rfl rfl rfl (by decide +kernel) ⟨Nat.le_of_ble_eq_true rfl, Nat.le_of_ble_eq_true rfl⟩) hK hP hD hS hA hX (List.Perm.refl _) rfl hl.1 rfl (Nat.le_of_ble_eq_true rfl) ⟨by show _ ≤ 1644; omega, by show _ ≤ 9864; omega⟩ dL_asks_150 (fun H locs hP hD hS => ?_)
        refine W.widen (k := ((4 + 14 * k) + 6)) (n := ((24 + 84 * k) + 36)) (by omega) (by omega) ?_
        refine lv_i2l (v := ((wv (r_hatChair (og0 u) ((nI k))))).toInt64) hx hb dL_asks_153 rfl ?_
        refine lv_ladd hx hb dL_asks_154 ?_
        refine lv_lmul hx hb dL_asks_155 ?_
        refine lv_aload_n hx hb dL_asks_156 rfl (lv_at hl 3 rfl) ?_
        refine lv_iload hx hb dL_asks_157 (lv_at hl 0 rfl) ?_
        refine hcLi (wr := []) (u := u) (G := ((wv (r_idleMinutes (og0 u) ((nI k)))), u)) (As := [.ref (ad 0), .int (nI k)]) (rest := [.long (31 * ((31 * ((31 * ((31 * y) + (((wv (r_feathers (og0 u) ((nI k))))).toInt64))) + (((wv (r_brim (og0 u) ((nI k))))).toInt64))) + (((wv (r_hatChair (og0 u) ((nI k))))).toInt64)))]) ⟨hx, hb, hml, hown, hts⟩ (by rw [← rd_idleMinutes u ((nI k))]; exact kL_idle l hfl D ca en ks vs ai ad bd _ u ((nI k)) hoi) (vx_cwSW 2 hts mL_asks_L_idle rfl rfl rfl (by decide +kernel) ⟨Nat.le_of_ble_eq_true rfl, Nat.le_of_ble_eq_true rfl⟩) hK hP hD hS hA hX (List.Perm.refl _) rfl hl.1 rfl (Nat.le_of_ble_eq_true rfl) ⟨by show _ ≤ 1644; omega, by show _ ≤ 9864; omega⟩ dL_asks_159 (fun H locs hP hD hS => ?_)
        refine W.widen (k := ((4 + 14 * k) + 8)) (n := ((24 + 84 * k) + 48)) (by omega) (by omega) ?_
        refine lv_i2l (v := ((wv (r_idleMinutes (og0 u) ((nI k))))).toInt64) hx hb dL_asks_162 rfl ?_
        refine lv_ladd hx hb dL_asks_163 ?_
        refine lv_lstore_n (lv' := [(2, .long ((31 * ((31 * ((31 * ((31 * y) + (((wv (r_feathers (og0 u) ((nI k))))).toInt64))) + (((wv (r_brim (og0 u) ((nI k))))).toInt64))) + (((wv (r_hatChair (og0 u) ((nI k))))).toInt64))) + (((wv (r_idleMinutes (og0 u) ((nI k))))).toInt64))), (4, .int (nI k)), (1, .int (h9 (og0 u))), (0, .ref (ad 0))]) hx hb dL_asks_164 rfl hl (by decide) rfl (fun ls hl => ?_)
        refine lv_ldc2 (v := 31) hx hb hown (hts (.constantLong RL 189 31) (List.mem_cons_of_mem _ List.mem_cons_self)) dL_asks_165 ?_
        refine lv_ldc2 (v := 31) hx hb hown (hts (.constantLong RL 189 31) (List.mem_cons_of_mem _ List.mem_cons_self)) dL_asks_168 ?_
        refine lv_ldc2 (v := 31) hx hb hown (hts (.constantLong RL 189 31) (List.mem_cons_of_mem _ List.mem_cons_self)) dL_asks_171 ?_
        refine lv_lload_n hx hb dL_asks_174 rfl (lv_at hl 0 rfl) ?_
        refine lv_lmul hx hb dL_asks_175 ?_
        refine lv_aload_n hx hb dL_asks_176 rfl (lv_at hl 3 rfl) ?_
        refine lv_iload hx hb dL_asks_177 (lv_at hl 1 rfl) ?_
        refine hcLi (wr := []) (u := u) (G := ((wv (r_coatChair (og0 u) ((nI k)))), u)) (As := [.ref (ad 0), .int (nI k)]) (rest := [.long (31 * ((31 * ((31 * ((31 * ((31 * y) + (((wv (r_feathers (og0 u) ((nI k))))).toInt64))) + (((wv (r_brim (og0 u) ((nI k))))).toInt64))) + (((wv (r_hatChair (og0 u) ((nI k))))).toInt64))) + (((wv (r_idleMinutes (og0 u) ((nI k))))).toInt64))), .long 31, .long 31]) ⟨hx, hb, hml, hown, hts⟩ (by rw [← rd_coatChair u ((nI k))]; exact kL_coatChair l hfl D ca en ks vs ai ad bd _ u ((nI k)) hoi) (vx_cwSW 2 hts mL_asks_L_coatChair rfl rfl rfl (by decide +kernel) ⟨Nat.le_of_ble_eq_true rfl, Nat.le_of_ble_eq_true rfl⟩) hK hP hD hS hA hX (List.Perm.refl _) rfl hl.1 rfl (Nat.le_of_ble_eq_true rfl) ⟨by show _ ≤ 1644; omega, by show _ ≤ 9864; omega⟩ dL_asks_179 (fun H locs hP hD hS => ?_)
        refine W.widen (k := ((4 + 14 * k) + 10)) (n := ((24 + 84 * k) + 60)) (by omega) (by omega) ?_
        refine lv_i2l (v := ((wv (r_coatChair (og0 u) ((nI k))))).toInt64) hx hb dL_asks_182 rfl ?_
        refine lv_ladd hx hb dL_asks_183 ?_
        refine lv_lmul hx hb dL_asks_184 ?_
        refine lv_aload_n hx hb dL_asks_185 rfl (lv_at hl 3 rfl) ?_
        refine lv_iload hx hb dL_asks_186 (lv_at hl 1 rfl) ?_
        refine hcLi (wr := []) (u := u) (G := ((wv (r_coverSize (og0 u) ((nI k)))), u)) (As := [.ref (ad 0), .int (nI k)]) (rest := [.long (31 * ((31 * ((31 * ((31 * ((31 * ((31 * y) + (((wv (r_feathers (og0 u) ((nI k))))).toInt64))) + (((wv (r_brim (og0 u) ((nI k))))).toInt64))) + (((wv (r_hatChair (og0 u) ((nI k))))).toInt64))) + (((wv (r_idleMinutes (og0 u) ((nI k))))).toInt64))) + (((wv (r_coatChair (og0 u) ((nI k))))).toInt64))), .long 31]) ⟨hx, hb, hml, hown, hts⟩ (by rw [← rd_coverSize u ((nI k))]; exact kL_coverSize l hfl D ca en ks vs ai ad bd _ u ((nI k)) hoi) (vx_cwSW 2 hts mL_asks_L_coverSize rfl rfl rfl (by decide +kernel) ⟨Nat.le_of_ble_eq_true rfl, Nat.le_of_ble_eq_true rfl⟩) hK hP hD hS hA hX (List.Perm.refl _) rfl hl.1 rfl (Nat.le_of_ble_eq_true rfl) ⟨by show _ ≤ 1644; omega, by show _ ≤ 9864; omega⟩ dL_asks_188 (fun H locs hP hD hS => ?_)
        refine W.widen (k := ((4 + 14 * k) + 12)) (n := ((24 + 84 * k) + 72)) (by omega) (by omega) ?_
        refine lv_i2l (v := ((wv (r_coverSize (og0 u) ((nI k))))).toInt64) hx hb dL_asks_191 rfl ?_
        refine lv_ladd hx hb dL_asks_192 ?_
        refine lv_lmul hx hb dL_asks_193 ?_
        refine lv_aload_n hx hb dL_asks_194 rfl (lv_at hl 3 rfl) ?_
        refine lv_iload hx hb dL_asks_195 (lv_at hl 1 rfl) ?_
        refine hcLi (wr := []) (u := u) (G := ((wv (r_guestAtRank (og0 u) ((nI k)))), u)) (As := [.ref (ad 0), .int (nI k)]) (rest := [.long (31 * ((31 * ((31 * ((31 * ((31 * ((31 * ((31 * y) + (((wv (r_feathers (og0 u) ((nI k))))).toInt64))) + (((wv (r_brim (og0 u) ((nI k))))).toInt64))) + (((wv (r_hatChair (og0 u) ((nI k))))).toInt64))) + (((wv (r_idleMinutes (og0 u) ((nI k))))).toInt64))) + (((wv (r_coatChair (og0 u) ((nI k))))).toInt64))) + (((wv (r_coverSize (og0 u) ((nI k))))).toInt64)))]) ⟨hx, hb, hml, hown, hts⟩ (by rw [← rd_guestAtRank u ((nI k))]; exact kL_atRank l hfl D ca en ks vs ai ad bd _ u ((nI k)) hoi) (vx_cwSW 2 hts mL_asks_L_atRank rfl rfl rfl (by decide +kernel) ⟨Nat.le_of_ble_eq_true rfl, Nat.le_of_ble_eq_true rfl⟩) hK hP hD hS hA hX (List.Perm.refl _) rfl hl.1 rfl (Nat.le_of_ble_eq_true rfl) ⟨by show _ ≤ 1644; omega, by show _ ≤ 9864; omega⟩ dL_asks_197 (fun H locs hP hD hS => ?_)
        refine W.widen (k := ((4 + 14 * k) + 14)) (n := ((24 + 84 * k) + 84)) (by omega) (by omega) ?_
        refine lv_i2l (v := ((wv (r_guestAtRank (og0 u) ((nI k))))).toInt64) hx hb dL_asks_200 rfl ?_
        refine lv_ladd hx hb dL_asks_201 ?_
        refine lv_lstore_n (lv' := [(2, .long ((31 * ((31 * ((31 * ((31 * ((31 * ((31 * ((31 * y) + (((wv (r_feathers (og0 u) ((nI k))))).toInt64))) + (((wv (r_brim (og0 u) ((nI k))))).toInt64))) + (((wv (r_hatChair (og0 u) ((nI k))))).toInt64))) + (((wv (r_idleMinutes (og0 u) ((nI k))))).toInt64))) + (((wv (r_coatChair (og0 u) ((nI k))))).toInt64))) + (((wv (r_coverSize (og0 u) ((nI k))))).toInt64))) + (((wv (r_guestAtRank (og0 u) ((nI k))))).toInt64))), (4, .int (nI k)), (1, .int (h9 (og0 u))), (0, .ref (ad 0))]) hx hb dL_asks_202 rfl hl (by decide) rfl (fun ls hl => ?_)
        refine lv_iinc (v := nI (k + 1)) (lv' := [(4, .int (nI (k + 1))), (2, .long ((31 * ((31 * ((31 * ((31 * ((31 * ((31 * ((31 * y) + (((wv (r_feathers (og0 u) ((nI k))))).toInt64))) + (((wv (r_brim (og0 u) ((nI k))))).toInt64))) + (((wv (r_hatChair (og0 u) ((nI k))))).toInt64))) + (((wv (r_idleMinutes (og0 u) ((nI k))))).toInt64))) + (((wv (r_coatChair (og0 u) ((nI k))))).toInt64))) + (((wv (r_coverSize (og0 u) ((nI k))))).toInt64))) + (((wv (r_guestAtRank (og0 u) ((nI k))))).toInt64))), (1, .int (h9 (og0 u))), (0, .ref (ad 0))]) hx hb dL_asks_203 hl (k := 1) rfl (nI_1 k) (by decide) rfl (fun ls hl => ?_)
        refine lv_goto (tgt := 109) hx hb dL_asks_206 (by decide) ?_
        refine W.widen (k := (4 + 14 * (k + 1))) (n := (24 + 84 * (k + 1))) (by omega) (by omega) ?_
        exact ih (k + 1) (by omega) _ _ _ hP hD hS hf ls (lv_sub hl [0, 1, 2, 3] rfl)
  refine W_entry (Nat.le_of_ble_eq_true rfl) (fun ls hl => ?_)
  have hl : lv_has ls 6 [(0, .ref (ad 0))] := hl
  refine lv_aload_n hx hb dL_asks_0 rfl (lv_at hl 0 rfl) ?_
  refine hcRi (v := h9 (og0 u)) (As := []) (rest := []) 0 6 ⟨hx, hb, hml, hown, hts⟩ (kX5_guestCount l D ca en ks vs ai ad bd u) (cwV 0 hts mL_asks_X5_guestCount rfl rfl rfl (by decide +kernel) ⟨Nat.le_of_ble_eq_true rfl, Nat.le_of_ble_eq_true rfl⟩) hK hP rfl rfl rfl hl.1 rfl (Nat.le_of_ble_eq_true rfl) ⟨by show _ ≤ 1644; omega, by show _ ≤ 9864; omega⟩ dL_asks_1 ?_
  refine lv_istore_n (lv' := [(1, .int (h9 (og0 u))), (0, .ref (ad 0))]) hx hb dL_asks_4 rfl hl (by decide) rfl (fun ls hl => ?_)
  refine lv_ldc2 (v := 31) hx hb hown (hts (.constantLong RL 189 31) (List.mem_cons_of_mem _ List.mem_cons_self)) dL_asks_5 ?_
  refine lv_ldc2 (v := 31) hx hb hown (hts (.constantLong RL 189 31) (List.mem_cons_of_mem _ List.mem_cons_self)) dL_asks_8 ?_
  refine lv_aload_n hx hb dL_asks_11 rfl (lv_at hl 1 rfl) ?_
  refine hcLd (wr := []) (v := gMC (og0 u)) (As := [.ref (ad 0)]) (rest := [.long 31, .long 31]) ⟨hx, hb, hml, hown, hts⟩ (kL_meanCover l hfl D ca en ks vs ai ad bd _ u hoi) (vx_cwSW 1 hts mL_asks_L_meanCover rfl rfl rfl (by decide +kernel) ⟨Nat.le_of_ble_eq_true rfl, Nat.le_of_ble_eq_true rfl⟩) hK hP hD hS hA hX (List.Perm.refl _) rfl hl.1 rfl (Nat.le_of_ble_eq_true rfl) ⟨by show _ ≤ 1644; omega, by show _ ≤ 9864; omega⟩ dL_asks_12 (fun H locs hP hD hS => ?_)
  refine W.widen (k := (0 + 2)) (n := (0 + 12)) (by omega) (by omega) ?_
  refine hcSl (As := [.double (gMC (og0 u))]) (rest := [.long 31, .long 31]) ⟨hx, hb, hml, hown, hts⟩ (kJxe99ae_doubleToLongBits_ccdee l (gMC (og0 u)) (okD_g _)) (va_cwS 1 hts mL_asks_Jxe99ae_doubleToLongBits_ccdee rfl rfl rfl (by decide +kernel) ⟨Nat.le_of_ble_eq_true rfl, Nat.le_of_ble_eq_true rfl⟩) rfl hl.1 rfl (Nat.le_of_ble_eq_true rfl) ⟨by show _ ≤ 1644; omega, by show _ ≤ 9864; omega⟩ dL_asks_15 ?_
  refine lv_lmul hx hb dL_asks_18 ?_
  refine lv_aload_n hx hb dL_asks_19 rfl (lv_at hl 1 rfl) ?_
  refine hcRf (v := gCS (og0 u)) (As := []) (rest := [.long (31 * ((gMC (og0 u)).toInt64)), .long 31]) 0 6 ⟨hx, hb, hml, hown, hts⟩ (kX5_coveredShare l D ca en ks vs ai ad bd u) (cwV 0 hts mL_asks_X5_coveredShare rfl rfl rfl (by decide +kernel) ⟨Nat.le_of_ble_eq_true rfl, Nat.le_of_ble_eq_true rfl⟩) hK hP rfl rfl rfl hl.1 rfl (Nat.le_of_ble_eq_true rfl) ⟨by show _ ≤ 1644; omega, by show _ ≤ 9864; omega⟩ dL_asks_20 ?_
  refine hcSi (As := [.float (gCS (og0 u))]) (rest := [.long (31 * ((gMC (og0 u)).toInt64)), .long 31]) ⟨hx, hb, hml, hown, hts⟩ (kJxf58ca_floatToIntBits_5c35a l (gCS (og0 u)) (okF_cs _)) (va_cwS 1 hts mL_asks_Jxf58ca_floatToIntBits_5c35a rfl rfl rfl (by decide +kernel) ⟨Nat.le_of_ble_eq_true rfl, Nat.le_of_ble_eq_true rfl⟩) rfl hl.1 rfl (Nat.le_of_ble_eq_true rfl) ⟨by show _ ≤ 1644; omega, by show _ ≤ 9864; omega⟩ dL_asks_23 ?_
  refine lv_i2l (v := (((gCS (og0 u)).toInt32)).toInt64) hx hb dL_asks_26 rfl ?_
  refine lv_ladd hx hb dL_asks_27 ?_
  refine lv_lmul hx hb dL_asks_28 ?_
  refine lv_aload_n hx hb dL_asks_29 rfl (lv_at hl 1 rfl) ?_
  refine hcRl (v := fX3_coveredChairs (og0 u)) (As := []) (rest := [.long (31 * ((31 * ((gMC (og0 u)).toInt64)) + ((((gCS (og0 u)).toInt32)).toInt64)))]) 0 6 ⟨hx, hb, hml, hown, hts⟩ (kX5_coveredMask l D ca en ks vs ai ad bd u) (cwV 0 hts mL_asks_X5_coveredMask rfl rfl rfl (by decide +kernel) ⟨Nat.le_of_ble_eq_true rfl, Nat.le_of_ble_eq_true rfl⟩) hK hP rfl rfl rfl hl.1 rfl (Nat.le_of_ble_eq_true rfl) ⟨by show _ ≤ 1644; omega, by show _ ≤ 9864; omega⟩ dL_asks_30 ?_
  refine lv_ladd hx hb dL_asks_33 ?_
  refine lv_lstore_n (lv' := [(2, .long ((31 * ((31 * ((gMC (og0 u)).toInt64)) + ((((gCS (og0 u)).toInt32)).toInt64))) + (fX3_coveredChairs (og0 u)))), (1, .int (h9 (og0 u))), (0, .ref (ad 0))]) hx hb dL_asks_34 rfl hl (by decide) rfl (fun ls hl => ?_)
  refine lv_ldc2 (v := 31) hx hb hown (hts (.constantLong RL 189 31) (List.mem_cons_of_mem _ List.mem_cons_self)) dL_asks_35 ?_
  refine lv_ldc2 (v := 31) hx hb hown (hts (.constantLong RL 189 31) (List.mem_cons_of_mem _ List.mem_cons_self)) dL_asks_38 ?_
  refine lv_ldc2 (v := 31) hx hb hown (hts (.constantLong RL 189 31) (List.mem_cons_of_mem _ List.mem_cons_self)) dL_asks_41 ?_
  refine lv_ldc2 (v := 31) hx hb hown (hts (.constantLong RL 189 31) (List.mem_cons_of_mem _ List.mem_cons_self)) dL_asks_44 ?_
  refine lv_ldc2 (v := 31) hx hb hown (hts (.constantLong RL 189 31) (List.mem_cons_of_mem _ List.mem_cons_self)) dL_asks_47 ?_
  refine lv_lload_n hx hb dL_asks_50 rfl (lv_at hl 0 rfl) ?_
  refine lv_lmul hx hb dL_asks_51 ?_
  refine lv_iload_n hx hb dL_asks_52 rfl (lv_at hl 1 rfl) ?_
  refine lv_i2l (v := ((h9 (og0 u))).toInt64) hx hb dL_asks_53 rfl ?_
  refine lv_ladd hx hb dL_asks_54 ?_
  refine lv_lmul hx hb dL_asks_55 ?_
  refine lv_aload_n hx hb dL_asks_56 rfl (lv_at hl 2 rfl) ?_
  refine hcRi (v := h10 (og0 u)) (As := []) (rest := [.long (31 * ((31 * ((31 * ((31 * ((gMC (og0 u)).toInt64)) + ((((gCS (og0 u)).toInt32)).toInt64))) + (fX3_coveredChairs (og0 u)))) + (((h9 (og0 u))).toInt64))), .long 31, .long 31, .long 31]) 0 6 ⟨hx, hb, hml, hown, hts⟩ (kX5_now l D ca en ks vs ai ad bd u) (cwV 0 hts mL_asks_X5_now rfl rfl rfl (by decide +kernel) ⟨Nat.le_of_ble_eq_true rfl, Nat.le_of_ble_eq_true rfl⟩) hK hP rfl rfl rfl hl.1 rfl (Nat.le_of_ble_eq_true rfl) ⟨by show _ ≤ 1644; omega, by show _ ≤ 9864; omega⟩ dL_asks_57 ?_
  refine lv_i2l (v := ((h10 (og0 u))).toInt64) hx hb dL_asks_60 rfl ?_
  refine lv_ladd hx hb dL_asks_61 ?_
  refine lv_lmul hx hb dL_asks_62 ?_
  refine lv_aload_n hx hb dL_asks_63 rfl (lv_at hl 2 rfl) ?_
  refine hcRi (v := h11 (og0 u)) (As := []) (rest := [.long (31 * ((31 * ((31 * ((31 * ((31 * ((gMC (og0 u)).toInt64)) + ((((gCS (og0 u)).toInt32)).toInt64))) + (fX3_coveredChairs (og0 u)))) + (((h9 (og0 u))).toInt64))) + (((h10 (og0 u))).toInt64))), .long 31, .long 31]) 0 6 ⟨hx, hb, hml, hown, hts⟩ (kX5_sweptTotal l D ca en ks vs ai ad bd u) (cwV 0 hts mL_asks_X5_sweptTotal rfl rfl rfl (by decide +kernel) ⟨Nat.le_of_ble_eq_true rfl, Nat.le_of_ble_eq_true rfl⟩) hK hP rfl rfl rfl hl.1 rfl (Nat.le_of_ble_eq_true rfl) ⟨by show _ ≤ 1644; omega, by show _ ≤ 9864; omega⟩ dL_asks_64 ?_
  refine lv_i2l (v := ((h11 (og0 u))).toInt64) hx hb dL_asks_67 rfl ?_
  refine lv_ladd hx hb dL_asks_68 ?_
  refine lv_lmul hx hb dL_asks_69 ?_
  refine lv_aload_n hx hb dL_asks_70 rfl (lv_at hl 2 rfl) ?_
  refine hcRi (v := h12 (og0 u)) (As := []) (rest := [.long (31 * ((31 * ((31 * ((31 * ((31 * ((31 * ((gMC (og0 u)).toInt64)) + ((((gCS (og0 u)).toInt32)).toInt64))) + (fX3_coveredChairs (og0 u)))) + (((h9 (og0 u))).toInt64))) + (((h10 (og0 u))).toInt64))) + (((h11 (og0 u))).toInt64))), .long 31]) 0 6 ⟨hx, hb, hml, hown, hts⟩ (kX5_lapsedTotal l D ca en ks vs ai ad bd u) (cwV 0 hts mL_asks_X5_lapsedTotal rfl rfl rfl (by decide +kernel) ⟨Nat.le_of_ble_eq_true rfl, Nat.le_of_ble_eq_true rfl⟩) hK hP rfl rfl rfl hl.1 rfl (Nat.le_of_ble_eq_true rfl) ⟨by show _ ≤ 1644; omega, by show _ ≤ 9864; omega⟩ dL_asks_71 ?_
  refine lv_i2l (v := ((h12 (og0 u))).toInt64) hx hb dL_asks_74 rfl ?_
  refine lv_ladd hx hb dL_asks_75 ?_
  refine lv_lmul hx hb dL_asks_76 ?_
  refine lv_aload_n hx hb dL_asks_77 rfl (lv_at hl 2 rfl) ?_
  refine hcRi (v := h13 (og0 u)) (As := []) (rest := [.long (31 * ((31 * ((31 * ((31 * ((31 * ((31 * ((31 * ((gMC (og0 u)).toInt64)) + ((((gCS (og0 u)).toInt32)).toInt64))) + (fX3_coveredChairs (og0 u)))) + (((h9 (og0 u))).toInt64))) + (((h10 (og0 u))).toInt64))) + (((h11 (og0 u))).toInt64))) + (((h12 (og0 u))).toInt64)))]) 0 6 ⟨hx, hb, hml, hown, hts⟩ (kX5_offersTaken l D ca en ks vs ai ad bd u) (cwV 0 hts mL_asks_X5_offersTaken rfl rfl rfl (by decide +kernel) ⟨Nat.le_of_ble_eq_true rfl, Nat.le_of_ble_eq_true rfl⟩) hK hP rfl rfl rfl hl.1 rfl (Nat.le_of_ble_eq_true rfl) ⟨by show _ ≤ 1644; omega, by show _ ≤ 9864; omega⟩ dL_asks_78 ?_
  refine lv_i2l (v := ((h13 (og0 u))).toInt64) hx hb dL_asks_81 rfl ?_
  refine lv_ladd hx hb dL_asks_82 ?_
  refine lv_lstore_n (lv' := [(2, .long ((31 * ((31 * ((31 * ((31 * ((31 * ((31 * ((31 * ((gMC (og0 u)).toInt64)) + ((((gCS (og0 u)).toInt32)).toInt64))) + (fX3_coveredChairs (og0 u)))) + (((h9 (og0 u))).toInt64))) + (((h10 (og0 u))).toInt64))) + (((h11 (og0 u))).toInt64))) + (((h12 (og0 u))).toInt64))) + (((h13 (og0 u))).toInt64))), (1, .int (h9 (og0 u))), (0, .ref (ad 0))]) hx hb dL_asks_83 rfl hl (by decide) rfl (fun ls hl => ?_)
  refine lv_ldc2 (v := 31) hx hb hown (hts (.constantLong RL 189 31) (List.mem_cons_of_mem _ List.mem_cons_self)) dL_asks_84 ?_
  refine lv_ldc2 (v := 31) hx hb hown (hts (.constantLong RL 189 31) (List.mem_cons_of_mem _ List.mem_cons_self)) dL_asks_87 ?_
  refine lv_lload_n hx hb dL_asks_90 rfl (lv_at hl 0 rfl) ?_
  refine lv_lmul hx hb dL_asks_91 ?_
  refine lv_aload_n hx hb dL_asks_92 rfl (lv_at hl 2 rfl) ?_
  refine hcRi (v := h14 (og0 u)) (As := []) (rest := [.long (31 * ((31 * ((31 * ((31 * ((31 * ((31 * ((31 * ((31 * ((gMC (og0 u)).toInt64)) + ((((gCS (og0 u)).toInt32)).toInt64))) + (fX3_coveredChairs (og0 u)))) + (((h9 (og0 u))).toInt64))) + (((h10 (og0 u))).toInt64))) + (((h11 (og0 u))).toInt64))) + (((h12 (og0 u))).toInt64))) + (((h13 (og0 u))).toInt64))), .long 31]) 0 6 ⟨hx, hb, hml, hown, hts⟩ (kX5_contestsWon l D ca en ks vs ai ad bd u) (cwV 0 hts mL_asks_X5_contestsWon rfl rfl rfl (by decide +kernel) ⟨Nat.le_of_ble_eq_true rfl, Nat.le_of_ble_eq_true rfl⟩) hK hP rfl rfl rfl hl.1 rfl (Nat.le_of_ble_eq_true rfl) ⟨by show _ ≤ 1644; omega, by show _ ≤ 9864; omega⟩ dL_asks_93 ?_
  refine lv_i2l (v := ((h14 (og0 u))).toInt64) hx hb dL_asks_96 rfl ?_
  refine lv_ladd hx hb dL_asks_97 ?_
  refine lv_lmul hx hb dL_asks_98 ?_
  refine lv_aload_n hx hb dL_asks_99 rfl (lv_at hl 2 rfl) ?_
  refine hcLi (wr := []) (u := u) (G := ((wv (r_idlestGuest (og0 u))), u)) (As := [.ref (ad 0)]) (rest := [.long (31 * ((31 * ((31 * ((31 * ((31 * ((31 * ((31 * ((31 * ((31 * ((gMC (og0 u)).toInt64)) + ((((gCS (og0 u)).toInt32)).toInt64))) + (fX3_coveredChairs (og0 u)))) + (((h9 (og0 u))).toInt64))) + (((h10 (og0 u))).toInt64))) + (((h11 (og0 u))).toInt64))) + (((h12 (og0 u))).toInt64))) + (((h13 (og0 u))).toInt64))) + (((h14 (og0 u))).toInt64)))]) ⟨hx, hb, hml, hown, hts⟩ (by rw [← rd_idlestGuest u ]; exact kL_idlest l hfl D ca en ks vs ai ad bd _ u  hoi) (vx_cwSW 1 hts mL_asks_L_idlest rfl rfl rfl (by decide +kernel) ⟨Nat.le_of_ble_eq_true rfl, Nat.le_of_ble_eq_true rfl⟩) hK hP hD hS hA hX (List.Perm.refl _) rfl hl.1 rfl (Nat.le_of_ble_eq_true rfl) ⟨by show _ ≤ 1644; omega, by show _ ≤ 9864; omega⟩ dL_asks_100 (fun H locs hP hD hS => ?_)
  refine W.widen (k := (0 + 4)) (n := (0 + 24)) (by omega) (by omega) ?_
  refine lv_i2l (v := ((wv (r_idlestGuest (og0 u)))).toInt64) hx hb dL_asks_103 rfl ?_
  refine lv_ladd hx hb dL_asks_104 ?_
  refine lv_lstore_n (lv' := [(2, .long ((31 * ((31 * ((31 * ((31 * ((31 * ((31 * ((31 * ((31 * ((31 * ((gMC (og0 u)).toInt64)) + ((((gCS (og0 u)).toInt32)).toInt64))) + (fX3_coveredChairs (og0 u)))) + (((h9 (og0 u))).toInt64))) + (((h10 (og0 u))).toInt64))) + (((h11 (og0 u))).toInt64))) + (((h12 (og0 u))).toInt64))) + (((h13 (og0 u))).toInt64))) + (((h14 (og0 u))).toInt64))) + (((wv (r_idlestGuest (og0 u)))).toInt64))), (1, .int (h9 (og0 u))), (0, .ref (ad 0))]) hx hb dL_asks_105 rfl hl (by decide) rfl (fun ls hl => ?_)
  refine lv_iconst (v := 0) hx hb dL_asks_106 (by decide) ?_
  refine lv_istore (lv' := [(4, .int 0), (2, .long ((31 * ((31 * ((31 * ((31 * ((31 * ((31 * ((31 * ((31 * ((31 * ((gMC (og0 u)).toInt64)) + ((((gCS (og0 u)).toInt32)).toInt64))) + (fX3_coveredChairs (og0 u)))) + (((h9 (og0 u))).toInt64))) + (((h10 (og0 u))).toInt64))) + (((h11 (og0 u))).toInt64))) + (((h12 (og0 u))).toInt64))) + (((h13 (og0 u))).toInt64))) + (((h14 (og0 u))).toInt64))) + (((wv (r_idlestGuest (og0 u)))).toInt64))), (1, .int (h9 (og0 u))), (0, .ref (ad 0))]) hx hb dL_asks_107 hl (by decide) rfl (fun ls hl => ?_)
  refine W.widen (k := (4 + 14 * 0)) (n := (24 + 84 * 0)) (by omega) (by omega) ?_
  exact c109 8 0 rfl _ _ _ hP hD hS rfl ls (lv_sub hl [0, 1, 2, 3] rfl)
