/-! changes -/
theorem Chg_mono {n m : Int} {w : OS} {F : Nat × Int32 × OS} (hm : n ≤ m) (h : Chg n w F) : Chg m w F := by
  rcases h with h | ⟨a, b, x, e, g⟩
  · exact Or.inl h
  · exact Or.inr ⟨a, b, x, e, GI_mono g hm⟩
/-- the answer of changes and the world behind it -/
def CHG (n : Int) (L : List HS) (u : OS) (z : Int32) (v : OS) : Prop := (z = 0 ∧ LI n L v ∧ og0 v = og0 u ∧ og1 v = og1 u ∧ og8 v = og8 u ∧ q1 (og5 v) = 0) ∨ (z = 1 ∧ LI (n + 600) (og0 u :: L) v ∧ og1 v = og1 u ∧ og8 v = og8 u ∧ q1 (og5 v) = 0)
theorem chW {n : Int} {L : List HS} {u : OS} {F : Nat × Int32 × OS} (h : LI n L u) (hl : L.length < 8) (h0 : q1 (og5 u) = 0) (hc : Chg (n + 600) u F) : ∃ (a : Int32) (v : OS) (z : Int32), wrp F = (a, v) ∧ ((a < 0 ∧ z = 0) ∨ (¬ a < 0 ∧ z = 1)) ∧ CHG n L u z v := by
  rcases LI_chg h (show n ≤ n + 600 by omega) hl hc with ⟨a, b⟩ | ⟨a, b, c, d, e, f⟩
  · have t := wrp_neg a
    refine ⟨(wrp F).1, (wrp F).2, 0, rfl, Or.inl ⟨t.1, rfl⟩, Or.inl ⟨rfl, ?_⟩⟩
    rw [t.2, b]
    exact ⟨h, rfl, rfl, rfl, h0⟩
  · have t := wrp_pos a b
    refine ⟨(wrp F).1, (wrp F).2, 1, rfl, Or.inr ⟨t.1, rfl⟩, Or.inr ⟨rfl, ?_⟩⟩
    rw [t.2]
    exact ⟨c, d, f, by rw [e]; exact h0⟩
theorem chB {n : Int} {L : List HS} {u : OS} {F : Nat × Int32 × OS} (h : LI n L u) (hl : L.length < 8) (h0 : q1 (og5 u) = 0) (hc : Chg (n + 600) u F) : ∃ (a : Int32) (v : OS) (z : Int32), wrb F = (a, v) ∧ ((a < 0 ∧ z = 0) ∨ (¬ a < 0 ∧ z = 1)) ∧ CHG n L u z v := by
  rcases LI_chg h (show n ≤ n + 600 by omega) hl hc with ⟨a, b⟩ | ⟨a, b, c, d, e, f⟩
  · have t := wrb_neg a
    refine ⟨(wrb F).1, (wrb F).2, 0, rfl, Or.inl ⟨t.1, rfl⟩, Or.inl ⟨rfl, ?_⟩⟩
    rw [t.2, b]
    exact ⟨h, rfl, rfl, rfl, h0⟩
  · have t := wrb_pos a
    refine ⟨(wrb F).1, (wrb F).2, 1, rfl, Or.inr ⟨t.1, rfl⟩, Or.inr ⟨rfl, ?_⟩⟩
    rw [t.2]
    exact ⟨c, d, f, by rw [e]; exact h0⟩
theorem chR {n : Int} {L : List HS} {u : OS} {tn : Nat} {tf : Nat → Int32} (h : LI n L u) (hl : L.length < 8) (hn : n ≤ 800000) (h0 : q1 (og5 u) = 0) (ht : tn ≤ 60) : ∃ (a : Int32) (v : OS) (z : Int32), wrp (fX5_run (appK tf tn u)) = (a, v) ∧ ((a < 0 ∧ z = 0) ∨ (¬ a < 0 ∧ z = 1)) ∧ CHG n L u z v := by
  obtain ⟨a1, a2, a3, -, a5⟩ := appK_LI tf h h0 tn ht
  rcases run_spec a1 hl hn with ⟨b1, b2, b3, b4, b5, b6⟩ | ⟨b1, b2, b3, b4, b5, b6⟩
  · have t := wrp_pos b1 b2
    refine ⟨_, _, 1, rfl, Or.inr ⟨t.1, rfl⟩, Or.inr ⟨rfl, ?_⟩⟩
    rw [← a2]
    exact ⟨b3, b4.trans a3, b6.trans a5, b5⟩
  · have t := wrp_neg (F := fX5_run (appK tf tn u)) (by rcases b1 with b1 | b1 <;> rw [b1] <;> decide)
    refine ⟨_, _, 0, rfl, Or.inl ⟨t.1, rfl⟩, Or.inl ⟨rfl, ?_⟩⟩
    exact ⟨b3, b2.trans a2, b4.trans a3, b6.trans a5, b5⟩
/-- cells of a text are a text -/
theorem TX_cells {args : Array Value} {s : State} {D : va_G} {ca : Nat → ClassId} {ws : va_W} {H : Heap} {t v n : Nat} {f : Nat → Int32} {B : Nat → Prop} {Ts : List Cond} (hts : ∀ w ∈ Ts, w.before args s = true) (hin : ∀ w ∈ wsJ00, w ∈ Ts) (hK : va_K D vwCl (TYS ca) s) (hP : va_P D vwCl ws H) (q0 q1 : Nat) (h0 : ws[q0]? = some (t, .inr (0, [.ref v, .int 0, .int 0, .int 0]))) (h1 : ws[q1]? = some (v, .inl (ca 5, n, .inl f))) (ht : ¬ B t) (hv : ¬ B v) : TX t v n f B s H := by
  obtain ⟨r, h2, cell, c1, c2, c3, c4⟩ := hP q0 _ h0
  have hr : r = (RJ0, TJ0, 4) := Option.some.inj (h2.symm.trans rfl)
  subst hr
  obtain ⟨hS, hfc, kC, hkC, hkind⟩ := hK.1 0 _ rfl
  refine ⟨⟨cell, c1, by rw [c3]; rfl, by rw [c2]; exact hfc, ht⟩, ?_, ?_, ?_⟩
  · obtain ⟨cf, kf, fi, fd, hi, hsl⟩ := hS 1 (by decide)
    exact ⟨cf, kf, fi, fd, cell, hi, (u_facts hfc hkC (u_lays (T := TJ0) (N := 4) hts hin (k := 1) (by decide)) hi).1, c1, (by rw [c3]; exact fun h => (by cases h)), (by rw [hsl]; exact c4 1 (by decide)), ht⟩
  · obtain ⟨cf, kf, fi, fd, hi, hsl⟩ := hS 0 (by decide)
    exact ⟨cf, kf, fi, fd, cell, hi, (u_facts hfc hkC (u_lays (T := TJ0) (N := 4) hts hin (k := 0) (by decide)) hi).1, c1, (by rw [c3]; exact fun h => (by cases h)), (by rw [hsl]; exact c4 0 (by decide)), ht⟩
  · have hc := hP q1 _ h1
    refine ⟨_, hc, (hK.2 5 _ rfl).1 n (fun j => .int (f j)), fun q => (by cases q), ?_, ?_, fun j hj => ?_, hv⟩
    · show n ≤ (arrV (ca 5) n (fun j => .int (f j))).slots.size
      rw [arrV_size]
      exact Nat.le_refl _
    · show (arrV (ca 5) n (fun j => .int (f j))).slots.size.toInt32 = _
      rw [arrV_size]
    · exact arrV_read _ _ hj
/-- a cell of one part of the world is no cell of the other -/
theorem notA {D : va_G} {cl : List vw_C} {A : Nat → Prop} {w1 w2 : va_W} {H : Heap} (hP : va_P D cl (w1 ++ w2) H) (hD : va_D A (w1 ++ w2)) {q : Nat × va_E} (hq : q ∈ w2) : ¬ va_A w1 H.size q.1 := by
  obtain ⟨n1, -⟩ := D_iff.mp hD
  rw [List.map_append] at n1
  have n3 := (List.nodup_append.mp n1).2.2
  rintro (⟨k, e, hk⟩ | hk)
  · exact n3 _ (List.mem_map.mpr ⟨_, List.mem_of_getElem? hk, rfl⟩) _ (List.mem_map.mpr ⟨q, hq, rfl⟩) rfl
  · obtain ⟨i, hi⟩ := List.getElem?_of_mem (List.mem_append_right w1 hq)
    have hc := hP i q hi
    have hlt : q.1 < H.size := by
      obtain ⟨a, b⟩ := q
      cases b with
      | inl c => exact (Array.getElem?_eq_some_iff.mp (show H[a]? = some _ from hc)).1
      | inr o => obtain ⟨r, -, cell, h1, -⟩ := hc; exact (Array.getElem?_eq_some_iff.mp h1).1
    omega
def tx1 (d : Nat) : Nat → Int32 := upd (va_cpy (lawF 0) (fun _ => 0) 0 0 (lawN 0)) (0 + lawN 0) (vp_nar .byte (digF d))
def tx2 (d : Nat) : Nat → Int32 := va_cpy (lawF 2) (upd (va_cpy (lawF 1) (fun _ => 0) 0 0 (lawN 1)) (0 + lawN 1) (vp_nar .byte (digF d))) 0 (0 + lawN 1 + 1) (lawN 2)
theorem fits_dig : ∀ d, d < 9 → fits .byte (.int (vp_nar .byte (digF d))) = true := by decide +kernel
theorem ok_tx1 : ∀ d, d < 9 → ∀ k, k < 0 + lawN 0 + 1 → ¬ (tx1 d k &&& 255) < 32 ∧ (tx1 d k &&& 255) ≤ 126 := by decide +kernel
theorem ok_tx2 : ∀ d, d < 9 → ∀ k, k < 0 + lawN 1 + 1 + lawN 2 → ¬ (tx2 d k &&& 255) < 32 ∧ (tx2 d k &&& 255) ≤ 126 := by decide +kernel
theorem FB_tx1 {d : Nat} (h : d < 9) : FB (tx1 d) := FB_up (FB_cpy (FB_law 0 (by decide)) FB_0) (fits_dig d h)
theorem FB_tx2 {d : Nat} (h : d < 9) : FB (tx2 d) := FB_cpy (FB_law 2 (by decide)) (FB_up (FB_cpy (FB_law 1 (by decide)) FB_0) (fits_dig d h))
def wmL_changes : List Cond := .code yL_changes cL_changes 4 (some .boolean) :: .classLink RL 273 RJ4 :: .instantiable RJ4 4 :: .initialized RJ4 :: .methodLink RL 275 yJ4_init_da8c8 :: .instanceMethod yJ4_init_da8c8 :: (wsV RL 186 RX5 yX5_guestCount wsX5_guestCount ++ (va_wsS RL 174 yL_some wsL_some ++ (va_wsS RL 177 yL_addGuest wmL_addGuest ++ (va_wsS RL 261 yL_giveFeather wmL_giveFeather ++ (va_wsS RL 180 yL_placeHat wmL_placeHat ++ (va_wsS RL 263 yL_removeHat wmL_removeHat ++ (va_wsS RL 265 yL_touchHat wmL_touchHat ++ (va_wsS RL 182 yL_leaveCoat wmL_leaveCoat ++ (va_wsS RL 267 yL_takeCoat wmL_takeCoat ++ (va_wsS RL 269 yL_contest wmL_contest ++ (va_wsS RL 271 yL_sweep wmL_sweep ++ (wsJ4_init_da8c8 ++ (wsV RL 278 RJ4 yJ4_append_15ec4 wsJ4_append_15ec4 ++ (wsV RL 281 RJ4 yJ4_append_bf812 wsJ4_append_bf812 ++ (wsV RL 284 RJ4 yJ4_toString_0e30d wsJ4_toString_0e30d ++ (va_wsS RL 292 yL_runs wmL_runs ++ (va_wsS RL 184 yL_pass wmL_pass)))))))))))))))))
theorem mL_changes_X5_guestCount : GoodIn wmL_changes (wsV RL 186 RX5 yX5_guestCount wsX5_guestCount) := goodIn_sub (fun w h => List.mem_cons_of_mem _ (List.mem_cons_of_mem _ (List.mem_cons_of_mem _ (List.mem_cons_of_mem _ (List.mem_cons_of_mem _ (List.mem_cons_of_mem _ (List.mem_append_left _ h))))))) (by decide +kernel)
theorem mL_changes_L_some : GoodIn wmL_changes (va_wsS RL 174 yL_some wsL_some) := goodIn_sub (fun w h => List.mem_cons_of_mem _ (List.mem_cons_of_mem _ (List.mem_cons_of_mem _ (List.mem_cons_of_mem _ (List.mem_cons_of_mem _ (List.mem_cons_of_mem _ (List.mem_append_right _ (List.mem_append_left _ h)))))))) (by decide +kernel)
theorem mL_changes_L_addGuest : GoodIn wmL_changes (va_wsS RL 177 yL_addGuest wmL_addGuest) := goodIn_sub (fun w h => List.mem_cons_of_mem _ (List.mem_cons_of_mem _ (List.mem_cons_of_mem _ (List.mem_cons_of_mem _ (List.mem_cons_of_mem _ (List.mem_cons_of_mem _ (List.mem_append_right _ (List.mem_append_right _ (List.mem_append_left _ h))))))))) (by decide +kernel)
theorem mL_changes_L_giveFeather : GoodIn wmL_changes (va_wsS RL 261 yL_giveFeather wmL_giveFeather) := goodIn_sub (fun w h => List.mem_cons_of_mem _ (List.mem_cons_of_mem _ (List.mem_cons_of_mem _ (List.mem_cons_of_mem _ (List.mem_cons_of_mem _ (List.mem_cons_of_mem _ (List.mem_append_right _ (List.mem_append_right _ (List.mem_append_right _ (List.mem_append_left _ h)))))))))) (by decide +kernel)
theorem mL_changes_L_placeHat : GoodIn wmL_changes (va_wsS RL 180 yL_placeHat wmL_placeHat) := goodIn_sub (fun w h => List.mem_cons_of_mem _ (List.mem_cons_of_mem _ (List.mem_cons_of_mem _ (List.mem_cons_of_mem _ (List.mem_cons_of_mem _ (List.mem_cons_of_mem _ (List.mem_append_right _ (List.mem_append_right _ (List.mem_append_right _ (List.mem_append_right _ (List.mem_append_left _ h))))))))))) (by decide +kernel)
theorem mL_changes_L_removeHat : GoodIn wmL_changes (va_wsS RL 263 yL_removeHat wmL_removeHat) := goodIn_sub (fun w h => List.mem_cons_of_mem _ (List.mem_cons_of_mem _ (List.mem_cons_of_mem _ (List.mem_cons_of_mem _ (List.mem_cons_of_mem _ (List.mem_cons_of_mem _ (List.mem_append_right _ (List.mem_append_right _ (List.mem_append_right _ (List.mem_append_right _ (List.mem_append_right _ (List.mem_append_left _ h)))))))))))) (by decide +kernel)
theorem mL_changes_L_touchHat : GoodIn wmL_changes (va_wsS RL 265 yL_touchHat wmL_touchHat) := goodIn_sub (fun w h => List.mem_cons_of_mem _ (List.mem_cons_of_mem _ (List.mem_cons_of_mem _ (List.mem_cons_of_mem _ (List.mem_cons_of_mem _ (List.mem_cons_of_mem _ (List.mem_append_right _ (List.mem_append_right _ (List.mem_append_right _ (List.mem_append_right _ (List.mem_append_right _ (List.mem_append_right _ (List.mem_append_left _ h))))))))))))) (by decide +kernel)
theorem mL_changes_L_leaveCoat : GoodIn wmL_changes (va_wsS RL 182 yL_leaveCoat wmL_leaveCoat) := goodIn_sub (fun w h => List.mem_cons_of_mem _ (List.mem_cons_of_mem _ (List.mem_cons_of_mem _ (List.mem_cons_of_mem _ (List.mem_cons_of_mem _ (List.mem_cons_of_mem _ (List.mem_append_right _ (List.mem_append_right _ (List.mem_append_right _ (List.mem_append_right _ (List.mem_append_right _ (List.mem_append_right _ (List.mem_append_right _ (List.mem_append_left _ h)))))))))))))) (by decide +kernel)
theorem mL_changes_L_takeCoat : GoodIn wmL_changes (va_wsS RL 267 yL_takeCoat wmL_takeCoat) := goodIn_sub (fun w h => List.mem_cons_of_mem _ (List.mem_cons_of_mem _ (List.mem_cons_of_mem _ (List.mem_cons_of_mem _ (List.mem_cons_of_mem _ (List.mem_cons_of_mem _ (List.mem_append_right _ (List.mem_append_right _ (List.mem_append_right _ (List.mem_append_right _ (List.mem_append_right _ (List.mem_append_right _ (List.mem_append_right _ (List.mem_append_right _ (List.mem_append_left _ h))))))))))))))) (by decide +kernel)
theorem mL_changes_L_contest : GoodIn wmL_changes (va_wsS RL 269 yL_contest wmL_contest) := goodIn_sub (fun w h => List.mem_cons_of_mem _ (List.mem_cons_of_mem _ (List.mem_cons_of_mem _ (List.mem_cons_of_mem _ (List.mem_cons_of_mem _ (List.mem_cons_of_mem _ (List.mem_append_right _ (List.mem_append_right _ (List.mem_append_right _ (List.mem_append_right _ (List.mem_append_right _ (List.mem_append_right _ (List.mem_append_right _ (List.mem_append_right _ (List.mem_append_right _ (List.mem_append_left _ h)))))))))))))))) (by decide +kernel)
theorem mL_changes_L_sweep : GoodIn wmL_changes (va_wsS RL 271 yL_sweep wmL_sweep) := goodIn_sub (fun w h => List.mem_cons_of_mem _ (List.mem_cons_of_mem _ (List.mem_cons_of_mem _ (List.mem_cons_of_mem _ (List.mem_cons_of_mem _ (List.mem_cons_of_mem _ (List.mem_append_right _ (List.mem_append_right _ (List.mem_append_right _ (List.mem_append_right _ (List.mem_append_right _ (List.mem_append_right _ (List.mem_append_right _ (List.mem_append_right _ (List.mem_append_right _ (List.mem_append_right _ (List.mem_append_left _ h))))))))))))))))) (by decide +kernel)
theorem mL_changes_J4_init_da8c8 : GoodIn wmL_changes (wsJ4_init_da8c8) := goodIn_sub (fun w h => List.mem_cons_of_mem _ (List.mem_cons_of_mem _ (List.mem_cons_of_mem _ (List.mem_cons_of_mem _ (List.mem_cons_of_mem _ (List.mem_cons_of_mem _ (List.mem_append_right _ (List.mem_append_right _ (List.mem_append_right _ (List.mem_append_right _ (List.mem_append_right _ (List.mem_append_right _ (List.mem_append_right _ (List.mem_append_right _ (List.mem_append_right _ (List.mem_append_right _ (List.mem_append_right _ (List.mem_append_left _ h)))))))))))))))))) (by decide +kernel)
theorem mL_changes_J4_append_15ec4 : GoodIn wmL_changes (wsV RL 278 RJ4 yJ4_append_15ec4 wsJ4_append_15ec4) := goodIn_sub (fun w h => List.mem_cons_of_mem _ (List.mem_cons_of_mem _ (List.mem_cons_of_mem _ (List.mem_cons_of_mem _ (List.mem_cons_of_mem _ (List.mem_cons_of_mem _ (List.mem_append_right _ (List.mem_append_right _ (List.mem_append_right _ (List.mem_append_right _ (List.mem_append_right _ (List.mem_append_right _ (List.mem_append_right _ (List.mem_append_right _ (List.mem_append_right _ (List.mem_append_right _ (List.mem_append_right _ (List.mem_append_right _ (List.mem_append_left _ h))))))))))))))))))) (by decide +kernel)
theorem mL_changes_J4_append_bf812 : GoodIn wmL_changes (wsV RL 281 RJ4 yJ4_append_bf812 wsJ4_append_bf812) := goodIn_sub (fun w h => List.mem_cons_of_mem _ (List.mem_cons_of_mem _ (List.mem_cons_of_mem _ (List.mem_cons_of_mem _ (List.mem_cons_of_mem _ (List.mem_cons_of_mem _ (List.mem_append_right _ (List.mem_append_right _ (List.mem_append_right _ (List.mem_append_right _ (List.mem_append_right _ (List.mem_append_right _ (List.mem_append_right _ (List.mem_append_right _ (List.mem_append_right _ (List.mem_append_right _ (List.mem_append_right _ (List.mem_append_right _ (List.mem_append_right _ (List.mem_append_left _ h)))))))))))))))))))) (by decide +kernel)
theorem mL_changes_J4_toString_0e30d : GoodIn wmL_changes (wsV RL 284 RJ4 yJ4_toString_0e30d wsJ4_toString_0e30d) := goodIn_sub (fun w h => List.mem_cons_of_mem _ (List.mem_cons_of_mem _ (List.mem_cons_of_mem _ (List.mem_cons_of_mem _ (List.mem_cons_of_mem _ (List.mem_cons_of_mem _ (List.mem_append_right _ (List.mem_append_right _ (List.mem_append_right _ (List.mem_append_right _ (List.mem_append_right _ (List.mem_append_right _ (List.mem_append_right _ (List.mem_append_right _ (List.mem_append_right _ (List.mem_append_right _ (List.mem_append_right _ (List.mem_append_right _ (List.mem_append_right _ (List.mem_append_right _ (List.mem_append_left _ h))))))))))))))))))))) (by decide +kernel)
theorem mL_changes_L_runs : GoodIn wmL_changes (va_wsS RL 292 yL_runs wmL_runs) := goodIn_sub (fun w h => List.mem_cons_of_mem _ (List.mem_cons_of_mem _ (List.mem_cons_of_mem _ (List.mem_cons_of_mem _ (List.mem_cons_of_mem _ (List.mem_cons_of_mem _ (List.mem_append_right _ (List.mem_append_right _ (List.mem_append_right _ (List.mem_append_right _ (List.mem_append_right _ (List.mem_append_right _ (List.mem_append_right _ (List.mem_append_right _ (List.mem_append_right _ (List.mem_append_right _ (List.mem_append_right _ (List.mem_append_right _ (List.mem_append_right _ (List.mem_append_right _ (List.mem_append_right _ (List.mem_append_left _ h)))))))))))))))))))))) (by decide +kernel)
theorem mL_changes_L_pass : GoodIn wmL_changes (va_wsS RL 184 yL_pass wmL_pass) := goodIn_sub (fun w h => List.mem_cons_of_mem _ (List.mem_cons_of_mem _ (List.mem_cons_of_mem _ (List.mem_cons_of_mem _ (List.mem_cons_of_mem _ (List.mem_cons_of_mem _ (List.mem_append_right _ (List.mem_append_right _ (List.mem_append_right _ (List.mem_append_right _ (List.mem_append_right _ (List.mem_append_right _ (List.mem_append_right _ (List.mem_append_right _ (List.mem_append_right _ (List.mem_append_right _ (List.mem_append_right _ (List.mem_append_right _ (List.mem_append_right _ (List.mem_append_right _ (List.mem_append_right _ (List.mem_append_right _ (h))))))))))))))))))))))) (by decide +kernel)
set_option maxHeartbeats 4000000 in
set_option maxRecDepth 100000 in
theorem kL_changes (l : Launch) (hfl : l.stackTraces = false) (D : va_G) (ca : Nat → ClassId) (en ks vs : Nat → Nat) (ai : Nat → Nat → Nat) (ad bd : Nat → Nat) (lk lv : Nat → Nat) (sz : Nat) (u : OS) (x : Int32) (n9 : Int) (L9 : List HS) (hn9 : n9 ≤ 800000) (hu : LI n9 L9 u) (hl9 : L9.length < 8) (h0 : q1 (og5 u) = 0) : Met l yL_changes wmL_changes ({ frames := 11, cells := 130, slots := 780, locals := 248 }) (MGPc D ca (YX en ks vs lk lv) sz (OW ca en ai ad bd u) [.ref (ad 0), .int x]) (va_Qi (fun r v => CHG n9 L9 u r v) (MB D ca (va_A (OW ca en ai ad bd u) sz) (fun v => OW ca en ai ad bd v)) (va_A (OW ca en ai ad bd u) sz)) 130 780 (va_A (OW ca en ai ad bd u) sz) := by
  refine Met.ofW (cc := cL_changes) (maxL := 4) (ret := some .boolean) (by decide) rfl ?_
  intro p e s m args below meth c s₁ B hml hv
  obtain ⟨rfl, hsz, hP, hK, hD0, hY⟩ := hv
  have hx := B.exec
  have hb := B.bytes
  have hr := B.returns
  have hts := atoms_spec (ws := wmL_changes) B.pre
  have hown : s.vm.findClass RL = some m.cls := findClass_of_methodNamed B.named
  have hlocks := B.notSynchronized
  subst hsz
  have hD := hD0.self (sz := s.heap.size)
  generalize hAe : va_A (OW ca en ai ad bd u) s.heap.size = A at hD hY ⊢
  have hX := hY.1
  have hA : ∀ q : Nat, s.heap.size ≤ q → A q := fun q h => by rw [← hAe]; exact Or.inr h
  have hS : va_S A s.heap s.heap [] := va_S.rf
  obtain ⟨N, hN8, hN⟩ := HI_N hu.1.1
  have hin4 : ∀ w ∈ wsJ40, w ∈ wmL_changes := fun w h => (mL_changes_J4_init_da8c8 w (List.mem_cons_of_mem _ (List.mem_append_right _ h))).1
  have hin0 : ∀ w ∈ wsJ00, w ∈ wmL_changes := fun w h => (mL_changes_J4_toString_0e30d w (List.mem_append_right _ (List.mem_cons_of_mem _ (List.mem_append_left _ (List.mem_append_right _ h))))).1
  have c128 : ∀ (H : Heap) (locs : List Loc) (hP : va_P D vwCl (OW ca en ai ad bd u) H) (hD : va_D A (OW ca en ai ad bd u)) (hS : va_S A s.heap H locs) (ls : Array Slot) (hl : lv_has ls 4 [(3, .int (fSome (x >>> (7 &&& 31)) 22)), (2, .int (fSome (x >>> (4 &&& 31)) (nI (N + 1)))), (1, .int x), (0, .ref (ad 0))]), W p l e (headSpec wmL_changes ({ frames := 11, cells := 130, slots := 780, locals := 248 })).room s m ([.ref (ad 0), .int x] : List Value).toArray below meth c H locs 0 0 (MQ below (va_Qi (fun r v => CHG n9 L9 u r v) (MB D ca A (fun v => OW ca en ai ad bd v)) A) ([.ref (ad 0), .int x] : List Value).toArray s 130 780 A) (F0 m 128 ls []) := by
    intro H locs hP hD hS ls hl
    obtain ⟨a, v, z, hw, hz, hC⟩ := chW hu hl9 h0 (Chg_mono (by omega) (chg_addGuest hu.2.1 (fSome (x >>> (4 &&& 31)) 11) (fSome (x >>> (8 &&& 31)) 4)))
    refine lv_aload_n hx hb dL_changes_128 rfl (lv_at hl 3 rfl) ?_
    refine lv_iload_n hx hb dL_changes_129 rfl (lv_at hl 2 rfl) ?_
    refine lv_iconst (v := 4) hx hb dL_changes_130 (by decide) ?_
    refine lv_ishr hx hb dL_changes_131 ?_
    refine lv_bipush (v := 11) hx hb dL_changes_132 (by decide) ?_
    refine hcSi (v := (fSome (x >>> (4 &&& 31)) 11)) (As := [.int (x >>> (4 &&& 31)), .int 11]) (rest := [.ref (ad 0)]) ⟨hx, hb, hml, hown, hts⟩ (kL_some l (x >>> (4 &&& 31)) 11 (by decide)) (va_cwS 2 hts mL_changes_L_some rfl rfl rfl (by decide +kernel) ⟨Nat.le_of_ble_eq_true rfl, Nat.le_of_ble_eq_true rfl⟩) rfl hl.1 rfl (Nat.le_of_ble_eq_true rfl) ⟨by show _ ≤ 130; omega, by show _ ≤ 780; omega⟩ dL_changes_134 ?_
    refine lv_iload_n hx hb dL_changes_137 rfl (lv_at hl 2 rfl) ?_
    refine lv_bipush (v := 8) hx hb dL_changes_138 (by decide) ?_
    refine lv_ishr hx hb dL_changes_140 ?_
    refine lv_iconst (v := 4) hx hb dL_changes_141 (by decide) ?_
    refine hcSi (v := (fSome (x >>> (8 &&& 31)) 4)) (As := [.int (x >>> (8 &&& 31)), .int 4]) (rest := [.int (fSome (x >>> (4 &&& 31)) 11), .ref (ad 0)]) ⟨hx, hb, hml, hown, hts⟩ (kL_some l (x >>> (8 &&& 31)) 4 (by decide)) (va_cwS 2 hts mL_changes_L_some rfl rfl rfl (by decide +kernel) ⟨Nat.le_of_ble_eq_true rfl, Nat.le_of_ble_eq_true rfl⟩) rfl hl.1 rfl (Nat.le_of_ble_eq_true rfl) ⟨by show _ ≤ 130; omega, by show _ ≤ 780; omega⟩ dL_changes_142 ?_
    refine hcLi (wr := []) (u := u) (G := (a, v)) (As := [.ref (ad 0), .int (fSome (x >>> (4 &&& 31)) 11), .int (fSome (x >>> (8 &&& 31)) 4)]) (rest := []) ⟨hx, hb, hml, hown, hts⟩ (by rw [← hw]; exact kL_addGuest l hfl D ca en ks vs ai ad bd _ u (fSome (x >>> (4 &&& 31)) 11) (fSome (x >>> (8 &&& 31)) 4) hu.1) (vx_cwSW 3 hts mL_changes_L_addGuest rfl rfl rfl (by decide +kernel) ⟨Nat.le_of_ble_eq_true rfl, Nat.le_of_ble_eq_true rfl⟩) hK hP hD hS hA hX (List.Perm.refl _) rfl hl.1 rfl (Nat.le_of_ble_eq_true rfl) ⟨by show _ ≤ 130; omega, by show _ ≤ 780; omega⟩ dL_changes_145 (fun H locs hP hD hS => ?_)
    refine W.widen (k := (0 + 2)) (n := (0 + 12)) (by omega) (by omega) ?_
    refine lv_if_lt (tgt := 155) hx hb dL_changes_148 (by decide) (fun c9 => ?_) (fun c9 => ?_)
    · obtain rfl : z = 0 := hz.elim (fun h => h.2) (fun h => absurd c9 h.1)
      refine lv_iconst (v := 0) hx hb dL_changes_155 (by decide) ?_
      refine W.widen (k := 130) (n := 780) (by omega) (by omega) ?_
      exact W.zret (ty := .boolean) (v := 0) hx hb hr (by decide) (fun t ht hW => ⟨⟨0, v, rfl, hC, by rw [ht]; exact hP, va_K.moved hW.alike hK, hD⟩, hS.F ht⟩) hS.2.2 dL_changes_156
    · obtain rfl : z = 1 := hz.elim (fun h => absurd h.1 c9) (fun h => h.2)
      refine lv_iconst (v := 1) hx hb dL_changes_151 (by decide) ?_
      refine lv_goto (tgt := 156) hx hb dL_changes_152 (by decide) ?_
      refine W.widen (k := 130) (n := 780) (by omega) (by omega) ?_
      exact W.zret (ty := .boolean) (v := 1) hx hb hr (by decide) (fun t ht hW => ⟨⟨1, v, rfl, hC, by rw [ht]; exact hP, va_K.moved hW.alike hK, hD⟩, hS.F ht⟩) hS.2.2 dL_changes_156
  have c157 : ∀ (H : Heap) (locs : List Loc) (hP : va_P D vwCl (OW ca en ai ad bd u) H) (hD : va_D A (OW ca en ai ad bd u)) (hS : va_S A s.heap H locs) (ls : Array Slot) (hl : lv_has ls 4 [(3, .int (fSome (x >>> (7 &&& 31)) 22)), (2, .int (fSome (x >>> (4 &&& 31)) (nI (N + 1)))), (1, .int x), (0, .ref (ad 0))]), W p l e (headSpec wmL_changes ({ frames := 11, cells := 130, slots := 780, locals := 248 })).room s m ([.ref (ad 0), .int x] : List Value).toArray below meth c H locs 0 0 (MQ below (va_Qi (fun r v => CHG n9 L9 u r v) (MB D ca A (fun v => OW ca en ai ad bd v)) A) ([.ref (ad 0), .int x] : List Value).toArray s 130 780 A) (F0 m 157 ls []) := by
    intro H locs hP hD hS ls hl
    obtain ⟨a, v, z, hw, hz, hC⟩ := chW hu hl9 h0 (Chg_mono (by omega) (chg_giveFeather hu.2.1 (fSome (x >>> (4 &&& 31)) (nI (N + 1)))))
    refine lv_aload_n hx hb dL_changes_157 rfl (lv_at hl 3 rfl) ?_
    refine lv_iload_n hx hb dL_changes_158 rfl (lv_at hl 1 rfl) ?_
    refine hcLi (wr := []) (u := u) (G := (a, v)) (As := [.ref (ad 0), .int (fSome (x >>> (4 &&& 31)) (nI (N + 1)))]) (rest := []) ⟨hx, hb, hml, hown, hts⟩ (by rw [← hw]; exact kL_giveFeather l hfl D ca en ks vs ai ad bd _ u (fSome (x >>> (4 &&& 31)) (nI (N + 1))) hu.1) (vx_cwSW 2 hts mL_changes_L_giveFeather rfl rfl rfl (by decide +kernel) ⟨Nat.le_of_ble_eq_true rfl, Nat.le_of_ble_eq_true rfl⟩) hK hP hD hS hA hX (List.Perm.refl _) rfl hl.1 rfl (Nat.le_of_ble_eq_true rfl) ⟨by show _ ≤ 130; omega, by show _ ≤ 780; omega⟩ dL_changes_159 (fun H locs hP hD hS => ?_)
    refine W.widen (k := (0 + 2)) (n := (0 + 12)) (by omega) (by omega) ?_
    refine lv_if_lt (tgt := 169) hx hb dL_changes_162 (by decide) (fun c9 => ?_) (fun c9 => ?_)
    · obtain rfl : z = 0 := hz.elim (fun h => h.2) (fun h => absurd c9 h.1)
      refine lv_iconst (v := 0) hx hb dL_changes_169 (by decide) ?_
      refine W.widen (k := 130) (n := 780) (by omega) (by omega) ?_
      exact W.zret (ty := .boolean) (v := 0) hx hb hr (by decide) (fun t ht hW => ⟨⟨0, v, rfl, hC, by rw [ht]; exact hP, va_K.moved hW.alike hK, hD⟩, hS.F ht⟩) hS.2.2 dL_changes_170
    · obtain rfl : z = 1 := hz.elim (fun h => absurd h.1 c9) (fun h => h.2)
      refine lv_iconst (v := 1) hx hb dL_changes_165 (by decide) ?_
      refine lv_goto (tgt := 170) hx hb dL_changes_166 (by decide) ?_
      refine W.widen (k := 130) (n := 780) (by omega) (by omega) ?_
      exact W.zret (ty := .boolean) (v := 1) hx hb hr (by decide) (fun t ht hW => ⟨⟨1, v, rfl, hC, by rw [ht]; exact hP, va_K.moved hW.alike hK, hD⟩, hS.F ht⟩) hS.2.2 dL_changes_170
  have c171 : ∀ (H : Heap) (locs : List Loc) (hP : va_P D vwCl (OW ca en ai ad bd u) H) (hD : va_D A (OW ca en ai ad bd u)) (hS : va_S A s.heap H locs) (ls : Array Slot) (hl : lv_has ls 4 [(3, .int (fSome (x >>> (7 &&& 31)) 22)), (2, .int (fSome (x >>> (4 &&& 31)) (nI (N + 1)))), (1, .int x), (0, .ref (ad 0))]), W p l e (headSpec wmL_changes ({ frames := 11, cells := 130, slots := 780, locals := 248 })).room s m ([.ref (ad 0), .int x] : List Value).toArray below meth c H locs 0 0 (MQ below (va_Qi (fun r v => CHG n9 L9 u r v) (MB D ca A (fun v => OW ca en ai ad bd v)) A) ([.ref (ad 0), .int x] : List Value).toArray s 130 780 A) (F0 m 171 ls []) := by
    intro H locs hP hD hS ls hl
    obtain ⟨a, v, z, hw, hz, hC⟩ := chW hu hl9 h0 (Chg_mono (by omega) (chg_placeHat hu.2.1 (fSome (x >>> (4 &&& 31)) (nI (N + 1))) (fSome (x >>> (7 &&& 31)) 22)))
    refine lv_aload_n hx hb dL_changes_171 rfl (lv_at hl 3 rfl) ?_
    refine lv_iload_n hx hb dL_changes_172 rfl (lv_at hl 1 rfl) ?_
    refine lv_iload_n hx hb dL_changes_173 rfl (lv_at hl 0 rfl) ?_
    refine hcLi (wr := []) (u := u) (G := (a, v)) (As := [.ref (ad 0), .int (fSome (x >>> (4 &&& 31)) (nI (N + 1))), .int (fSome (x >>> (7 &&& 31)) 22)]) (rest := []) ⟨hx, hb, hml, hown, hts⟩ (by rw [← hw]; exact kL_placeHat l hfl D ca en ks vs ai ad bd _ u (fSome (x >>> (4 &&& 31)) (nI (N + 1))) (fSome (x >>> (7 &&& 31)) 22) hu.1) (vx_cwSW 3 hts mL_changes_L_placeHat rfl rfl rfl (by decide +kernel) ⟨Nat.le_of_ble_eq_true rfl, Nat.le_of_ble_eq_true rfl⟩) hK hP hD hS hA hX (List.Perm.refl _) rfl hl.1 rfl (Nat.le_of_ble_eq_true rfl) ⟨by show _ ≤ 130; omega, by show _ ≤ 780; omega⟩ dL_changes_174 (fun H locs hP hD hS => ?_)
    refine W.widen (k := (0 + 2)) (n := (0 + 12)) (by omega) (by omega) ?_
    refine lv_if_lt (tgt := 184) hx hb dL_changes_177 (by decide) (fun c9 => ?_) (fun c9 => ?_)
    · obtain rfl : z = 0 := hz.elim (fun h => h.2) (fun h => absurd c9 h.1)
      refine lv_iconst (v := 0) hx hb dL_changes_184 (by decide) ?_
      refine W.widen (k := 130) (n := 780) (by omega) (by omega) ?_
      exact W.zret (ty := .boolean) (v := 0) hx hb hr (by decide) (fun t ht hW => ⟨⟨0, v, rfl, hC, by rw [ht]; exact hP, va_K.moved hW.alike hK, hD⟩, hS.F ht⟩) hS.2.2 dL_changes_185
    · obtain rfl : z = 1 := hz.elim (fun h => absurd h.1 c9) (fun h => h.2)
      refine lv_iconst (v := 1) hx hb dL_changes_180 (by decide) ?_
      refine lv_goto (tgt := 185) hx hb dL_changes_181 (by decide) ?_
      refine W.widen (k := 130) (n := 780) (by omega) (by omega) ?_
      exact W.zret (ty := .boolean) (v := 1) hx hb hr (by decide) (fun t ht hW => ⟨⟨1, v, rfl, hC, by rw [ht]; exact hP, va_K.moved hW.alike hK, hD⟩, hS.F ht⟩) hS.2.2 dL_changes_185
  have c186 : ∀ (H : Heap) (locs : List Loc) (hP : va_P D vwCl (OW ca en ai ad bd u) H) (hD : va_D A (OW ca en ai ad bd u)) (hS : va_S A s.heap H locs) (ls : Array Slot) (hl : lv_has ls 4 [(3, .int (fSome (x >>> (7 &&& 31)) 22)), (2, .int (fSome (x >>> (4 &&& 31)) (nI (N + 1)))), (1, .int x), (0, .ref (ad 0))]), W p l e (headSpec wmL_changes ({ frames := 11, cells := 130, slots := 780, locals := 248 })).room s m ([.ref (ad 0), .int x] : List Value).toArray below meth c H locs 0 0 (MQ below (va_Qi (fun r v => CHG n9 L9 u r v) (MB D ca A (fun v => OW ca en ai ad bd v)) A) ([.ref (ad 0), .int x] : List Value).toArray s 130 780 A) (F0 m 186 ls []) := by
    intro H locs hP hD hS ls hl
    obtain ⟨a, v, z, hw, hz, hC⟩ := chW hu hl9 h0 (Chg_mono (by omega) (chg_removeHat hu.2.1 (fSome (x >>> (4 &&& 31)) (nI (N + 1)))))
    refine lv_aload_n hx hb dL_changes_186 rfl (lv_at hl 3 rfl) ?_
    refine lv_iload_n hx hb dL_changes_187 rfl (lv_at hl 1 rfl) ?_
    refine hcLi (wr := []) (u := u) (G := (a, v)) (As := [.ref (ad 0), .int (fSome (x >>> (4 &&& 31)) (nI (N + 1)))]) (rest := []) ⟨hx, hb, hml, hown, hts⟩ (by rw [← hw]; exact kL_removeHat l hfl D ca en ks vs ai ad bd _ u (fSome (x >>> (4 &&& 31)) (nI (N + 1))) hu.1) (vx_cwSW 2 hts mL_changes_L_removeHat rfl rfl rfl (by decide +kernel) ⟨Nat.le_of_ble_eq_true rfl, Nat.le_of_ble_eq_true rfl⟩) hK hP hD hS hA hX (List.Perm.refl _) rfl hl.1 rfl (Nat.le_of_ble_eq_true rfl) ⟨by show _ ≤ 130; omega, by show _ ≤ 780; omega⟩ dL_changes_188 (fun H locs hP hD hS => ?_)
    refine W.widen (k := (0 + 2)) (n := (0 + 12)) (by omega) (by omega) ?_
    refine lv_if_lt (tgt := 198) hx hb dL_changes_191 (by decide) (fun c9 => ?_) (fun c9 => ?_)
    · obtain rfl : z = 0 := hz.elim (fun h => h.2) (fun h => absurd c9 h.1)
      refine lv_iconst (v := 0) hx hb dL_changes_198 (by decide) ?_
      refine W.widen (k := 130) (n := 780) (by omega) (by omega) ?_
      exact W.zret (ty := .boolean) (v := 0) hx hb hr (by decide) (fun t ht hW => ⟨⟨0, v, rfl, hC, by rw [ht]; exact hP, va_K.moved hW.alike hK, hD⟩, hS.F ht⟩) hS.2.2 dL_changes_199
    · obtain rfl : z = 1 := hz.elim (fun h => absurd h.1 c9) (fun h => h.2)
      refine lv_iconst (v := 1) hx hb dL_changes_194 (by decide) ?_
      refine lv_goto (tgt := 199) hx hb dL_changes_195 (by decide) ?_
      refine W.widen (k := 130) (n := 780) (by omega) (by omega) ?_
      exact W.zret (ty := .boolean) (v := 1) hx hb hr (by decide) (fun t ht hW => ⟨⟨1, v, rfl, hC, by rw [ht]; exact hP, va_K.moved hW.alike hK, hD⟩, hS.F ht⟩) hS.2.2 dL_changes_199
  have c200 : ∀ (H : Heap) (locs : List Loc) (hP : va_P D vwCl (OW ca en ai ad bd u) H) (hD : va_D A (OW ca en ai ad bd u)) (hS : va_S A s.heap H locs) (ls : Array Slot) (hl : lv_has ls 4 [(3, .int (fSome (x >>> (7 &&& 31)) 22)), (2, .int (fSome (x >>> (4 &&& 31)) (nI (N + 1)))), (1, .int x), (0, .ref (ad 0))]), W p l e (headSpec wmL_changes ({ frames := 11, cells := 130, slots := 780, locals := 248 })).room s m ([.ref (ad 0), .int x] : List Value).toArray below meth c H locs 0 0 (MQ below (va_Qi (fun r v => CHG n9 L9 u r v) (MB D ca A (fun v => OW ca en ai ad bd v)) A) ([.ref (ad 0), .int x] : List Value).toArray s 130 780 A) (F0 m 200 ls []) := by
    intro H locs hP hD hS ls hl
    obtain ⟨a, v, z, hw, hz, hC⟩ := chW hu hl9 h0 (Chg_mono (by omega) (chg_touchHat hu.2.1 (by omega) (fSome (x >>> (4 &&& 31)) (nI (N + 1)))))
    refine lv_aload_n hx hb dL_changes_200 rfl (lv_at hl 3 rfl) ?_
    refine lv_iload_n hx hb dL_changes_201 rfl (lv_at hl 1 rfl) ?_
    refine hcLi (wr := []) (u := u) (G := (a, v)) (As := [.ref (ad 0), .int (fSome (x >>> (4 &&& 31)) (nI (N + 1)))]) (rest := []) ⟨hx, hb, hml, hown, hts⟩ (by rw [← hw]; exact kL_touchHat l hfl D ca en ks vs ai ad bd _ u (fSome (x >>> (4 &&& 31)) (nI (N + 1))) hu.1) (vx_cwSW 2 hts mL_changes_L_touchHat rfl rfl rfl (by decide +kernel) ⟨Nat.le_of_ble_eq_true rfl, Nat.le_of_ble_eq_true rfl⟩) hK hP hD hS hA hX (List.Perm.refl _) rfl hl.1 rfl (Nat.le_of_ble_eq_true rfl) ⟨by show _ ≤ 130; omega, by show _ ≤ 780; omega⟩ dL_changes_202 (fun H locs hP hD hS => ?_)
    refine W.widen (k := (0 + 2)) (n := (0 + 12)) (by omega) (by omega) ?_
    refine lv_if_lt (tgt := 212) hx hb dL_changes_205 (by decide) (fun c9 => ?_) (fun c9 => ?_)
    · obtain rfl : z = 0 := hz.elim (fun h => h.2) (fun h => absurd c9 h.1)
      refine lv_iconst (v := 0) hx hb dL_changes_212 (by decide) ?_
      refine W.widen (k := 130) (n := 780) (by omega) (by omega) ?_
      exact W.zret (ty := .boolean) (v := 0) hx hb hr (by decide) (fun t ht hW => ⟨⟨0, v, rfl, hC, by rw [ht]; exact hP, va_K.moved hW.alike hK, hD⟩, hS.F ht⟩) hS.2.2 dL_changes_213
    · obtain rfl : z = 1 := hz.elim (fun h => absurd h.1 c9) (fun h => h.2)
      refine lv_iconst (v := 1) hx hb dL_changes_208 (by decide) ?_
      refine lv_goto (tgt := 213) hx hb dL_changes_209 (by decide) ?_
      refine W.widen (k := 130) (n := 780) (by omega) (by omega) ?_
      exact W.zret (ty := .boolean) (v := 1) hx hb hr (by decide) (fun t ht hW => ⟨⟨1, v, rfl, hC, by rw [ht]; exact hP, va_K.moved hW.alike hK, hD⟩, hS.F ht⟩) hS.2.2 dL_changes_213
  have c214 : ∀ (H : Heap) (locs : List Loc) (hP : va_P D vwCl (OW ca en ai ad bd u) H) (hD : va_D A (OW ca en ai ad bd u)) (hS : va_S A s.heap H locs) (ls : Array Slot) (hl : lv_has ls 4 [(3, .int (fSome (x >>> (7 &&& 31)) 22)), (2, .int (fSome (x >>> (4 &&& 31)) (nI (N + 1)))), (1, .int x), (0, .ref (ad 0))]), W p l e (headSpec wmL_changes ({ frames := 11, cells := 130, slots := 780, locals := 248 })).room s m ([.ref (ad 0), .int x] : List Value).toArray below meth c H locs 0 0 (MQ below (va_Qi (fun r v => CHG n9 L9 u r v) (MB D ca A (fun v => OW ca en ai ad bd v)) A) ([.ref (ad 0), .int x] : List Value).toArray s 130 780 A) (F0 m 214 ls []) := by
    intro H locs hP hD hS ls hl
    obtain ⟨a, v, z, hw, hz, hC⟩ := chW hu hl9 h0 (Chg_mono (by omega) (chg_leaveCoat hu.2.1 (fSome (x >>> (4 &&& 31)) (nI (N + 1))) (fSome (x >>> (7 &&& 31)) 22)))
    refine lv_aload_n hx hb dL_changes_214 rfl (lv_at hl 3 rfl) ?_
    refine lv_iload_n hx hb dL_changes_215 rfl (lv_at hl 1 rfl) ?_
    refine lv_iload_n hx hb dL_changes_216 rfl (lv_at hl 0 rfl) ?_
    refine hcLi (wr := []) (u := u) (G := (a, v)) (As := [.ref (ad 0), .int (fSome (x >>> (4 &&& 31)) (nI (N + 1))), .int (fSome (x >>> (7 &&& 31)) 22)]) (rest := []) ⟨hx, hb, hml, hown, hts⟩ (by rw [← hw]; exact kL_leaveCoat l hfl D ca en ks vs ai ad bd _ u (fSome (x >>> (4 &&& 31)) (nI (N + 1))) (fSome (x >>> (7 &&& 31)) 22) hu.1) (vx_cwSW 3 hts mL_changes_L_leaveCoat rfl rfl rfl (by decide +kernel) ⟨Nat.le_of_ble_eq_true rfl, Nat.le_of_ble_eq_true rfl⟩) hK hP hD hS hA hX (List.Perm.refl _) rfl hl.1 rfl (Nat.le_of_ble_eq_true rfl) ⟨by show _ ≤ 130; omega, by show _ ≤ 780; omega⟩ dL_changes_217 (fun H locs hP hD hS => ?_)
    refine W.widen (k := (0 + 2)) (n := (0 + 12)) (by omega) (by omega) ?_
    refine lv_if_lt (tgt := 227) hx hb dL_changes_220 (by decide) (fun c9 => ?_) (fun c9 => ?_)
    · obtain rfl : z = 0 := hz.elim (fun h => h.2) (fun h => absurd c9 h.1)
      refine lv_iconst (v := 0) hx hb dL_changes_227 (by decide) ?_
      refine W.widen (k := 130) (n := 780) (by omega) (by omega) ?_
      exact W.zret (ty := .boolean) (v := 0) hx hb hr (by decide) (fun t ht hW => ⟨⟨0, v, rfl, hC, by rw [ht]; exact hP, va_K.moved hW.alike hK, hD⟩, hS.F ht⟩) hS.2.2 dL_changes_228
    · obtain rfl : z = 1 := hz.elim (fun h => absurd h.1 c9) (fun h => h.2)
      refine lv_iconst (v := 1) hx hb dL_changes_223 (by decide) ?_
      refine lv_goto (tgt := 228) hx hb dL_changes_224 (by decide) ?_
      refine W.widen (k := 130) (n := 780) (by omega) (by omega) ?_
      exact W.zret (ty := .boolean) (v := 1) hx hb hr (by decide) (fun t ht hW => ⟨⟨1, v, rfl, hC, by rw [ht]; exact hP, va_K.moved hW.alike hK, hD⟩, hS.F ht⟩) hS.2.2 dL_changes_228
  have c229 : ∀ (H : Heap) (locs : List Loc) (hP : va_P D vwCl (OW ca en ai ad bd u) H) (hD : va_D A (OW ca en ai ad bd u)) (hS : va_S A s.heap H locs) (ls : Array Slot) (hl : lv_has ls 4 [(3, .int (fSome (x >>> (7 &&& 31)) 22)), (2, .int (fSome (x >>> (4 &&& 31)) (nI (N + 1)))), (1, .int x), (0, .ref (ad 0))]), W p l e (headSpec wmL_changes ({ frames := 11, cells := 130, slots := 780, locals := 248 })).room s m ([.ref (ad 0), .int x] : List Value).toArray below meth c H locs 0 0 (MQ below (va_Qi (fun r v => CHG n9 L9 u r v) (MB D ca A (fun v => OW ca en ai ad bd v)) A) ([.ref (ad 0), .int x] : List Value).toArray s 130 780 A) (F0 m 229 ls []) := by
    intro H locs hP hD hS ls hl
    obtain ⟨a, v, z, hw, hz, hC⟩ := chW hu hl9 h0 (Chg_mono (by omega) (chg_takeCoat hu.2.1 (fSome (x >>> (4 &&& 31)) (nI (N + 1)))))
    refine lv_aload_n hx hb dL_changes_229 rfl (lv_at hl 3 rfl) ?_
    refine lv_iload_n hx hb dL_changes_230 rfl (lv_at hl 1 rfl) ?_
    refine hcLi (wr := []) (u := u) (G := (a, v)) (As := [.ref (ad 0), .int (fSome (x >>> (4 &&& 31)) (nI (N + 1)))]) (rest := []) ⟨hx, hb, hml, hown, hts⟩ (by rw [← hw]; exact kL_takeCoat l hfl D ca en ks vs ai ad bd _ u (fSome (x >>> (4 &&& 31)) (nI (N + 1))) hu.1) (vx_cwSW 2 hts mL_changes_L_takeCoat rfl rfl rfl (by decide +kernel) ⟨Nat.le_of_ble_eq_true rfl, Nat.le_of_ble_eq_true rfl⟩) hK hP hD hS hA hX (List.Perm.refl _) rfl hl.1 rfl (Nat.le_of_ble_eq_true rfl) ⟨by show _ ≤ 130; omega, by show _ ≤ 780; omega⟩ dL_changes_231 (fun H locs hP hD hS => ?_)
    refine W.widen (k := (0 + 2)) (n := (0 + 12)) (by omega) (by omega) ?_
    refine lv_if_lt (tgt := 241) hx hb dL_changes_234 (by decide) (fun c9 => ?_) (fun c9 => ?_)
    · obtain rfl : z = 0 := hz.elim (fun h => h.2) (fun h => absurd c9 h.1)
      refine lv_iconst (v := 0) hx hb dL_changes_241 (by decide) ?_
      refine W.widen (k := 130) (n := 780) (by omega) (by omega) ?_
      exact W.zret (ty := .boolean) (v := 0) hx hb hr (by decide) (fun t ht hW => ⟨⟨0, v, rfl, hC, by rw [ht]; exact hP, va_K.moved hW.alike hK, hD⟩, hS.F ht⟩) hS.2.2 dL_changes_242
    · obtain rfl : z = 1 := hz.elim (fun h => absurd h.1 c9) (fun h => h.2)
      refine lv_iconst (v := 1) hx hb dL_changes_237 (by decide) ?_
      refine lv_goto (tgt := 242) hx hb dL_changes_238 (by decide) ?_
      refine W.widen (k := 130) (n := 780) (by omega) (by omega) ?_
      exact W.zret (ty := .boolean) (v := 1) hx hb hr (by decide) (fun t ht hW => ⟨⟨1, v, rfl, hC, by rw [ht]; exact hP, va_K.moved hW.alike hK, hD⟩, hS.F ht⟩) hS.2.2 dL_changes_242
  have c243 : ∀ (H : Heap) (locs : List Loc) (hP : va_P D vwCl (OW ca en ai ad bd u) H) (hD : va_D A (OW ca en ai ad bd u)) (hS : va_S A s.heap H locs) (ls : Array Slot) (hl : lv_has ls 4 [(3, .int (fSome (x >>> (7 &&& 31)) 22)), (2, .int (fSome (x >>> (4 &&& 31)) (nI (N + 1)))), (1, .int x), (0, .ref (ad 0))]), W p l e (headSpec wmL_changes ({ frames := 11, cells := 130, slots := 780, locals := 248 })).room s m ([.ref (ad 0), .int x] : List Value).toArray below meth c H locs 0 0 (MQ below (va_Qi (fun r v => CHG n9 L9 u r v) (MB D ca A (fun v => OW ca en ai ad bd v)) A) ([.ref (ad 0), .int x] : List Value).toArray s 130 780 A) (F0 m 243 ls []) := by
    intro H locs hP hD hS ls hl
    obtain ⟨a, v, z, hw, hz, hC⟩ := chB hu hl9 h0 (Chg_mono (by omega) (chg_contest hu.2.1 (fSome (x >>> (4 &&& 31)) (nI (N + 1))) (fSome (x >>> (7 &&& 31)) 22)))
    refine lv_aload_n hx hb dL_changes_243 rfl (lv_at hl 3 rfl) ?_
    refine lv_iload_n hx hb dL_changes_244 rfl (lv_at hl 1 rfl) ?_
    refine lv_iload_n hx hb dL_changes_245 rfl (lv_at hl 0 rfl) ?_
    refine hcLi (wr := []) (u := u) (G := (a, v)) (As := [.ref (ad 0), .int (fSome (x >>> (4 &&& 31)) (nI (N + 1))), .int (fSome (x >>> (7 &&& 31)) 22)]) (rest := []) ⟨hx, hb, hml, hown, hts⟩ (by rw [← hw]; exact kL_contest l hfl D ca en ks vs ai ad bd _ u (fSome (x >>> (4 &&& 31)) (nI (N + 1))) (fSome (x >>> (7 &&& 31)) 22) hu.1) (vx_cwSW 3 hts mL_changes_L_contest rfl rfl rfl (by decide +kernel) ⟨Nat.le_of_ble_eq_true rfl, Nat.le_of_ble_eq_true rfl⟩) hK hP hD hS hA hX (List.Perm.refl _) rfl hl.1 rfl (Nat.le_of_ble_eq_true rfl) ⟨by show _ ≤ 130; omega, by show _ ≤ 780; omega⟩ dL_changes_246 (fun H locs hP hD hS => ?_)
    refine W.widen (k := (0 + 2)) (n := (0 + 12)) (by omega) (by omega) ?_
    refine lv_if_lt (tgt := 256) hx hb dL_changes_249 (by decide) (fun c9 => ?_) (fun c9 => ?_)
    · obtain rfl : z = 0 := hz.elim (fun h => h.2) (fun h => absurd c9 h.1)
      refine lv_iconst (v := 0) hx hb dL_changes_256 (by decide) ?_
      refine W.widen (k := 130) (n := 780) (by omega) (by omega) ?_
      exact W.zret (ty := .boolean) (v := 0) hx hb hr (by decide) (fun t ht hW => ⟨⟨0, v, rfl, hC, by rw [ht]; exact hP, va_K.moved hW.alike hK, hD⟩, hS.F ht⟩) hS.2.2 dL_changes_257
    · obtain rfl : z = 1 := hz.elim (fun h => absurd h.1 c9) (fun h => h.2)
      refine lv_iconst (v := 1) hx hb dL_changes_252 (by decide) ?_
      refine lv_goto (tgt := 257) hx hb dL_changes_253 (by decide) ?_
      refine W.widen (k := 130) (n := 780) (by omega) (by omega) ?_
      exact W.zret (ty := .boolean) (v := 1) hx hb hr (by decide) (fun t ht hW => ⟨⟨1, v, rfl, hC, by rw [ht]; exact hP, va_K.moved hW.alike hK, hD⟩, hS.F ht⟩) hS.2.2 dL_changes_257
  have c258 : ∀ (H : Heap) (locs : List Loc) (hP : va_P D vwCl (OW ca en ai ad bd u) H) (hD : va_D A (OW ca en ai ad bd u)) (hS : va_S A s.heap H locs) (ls : Array Slot) (hl : lv_has ls 4 [(3, .int (fSome (x >>> (7 &&& 31)) 22)), (2, .int (fSome (x >>> (4 &&& 31)) (nI (N + 1)))), (1, .int x), (0, .ref (ad 0))]), W p l e (headSpec wmL_changes ({ frames := 11, cells := 130, slots := 780, locals := 248 })).room s m ([.ref (ad 0), .int x] : List Value).toArray below meth c H locs 0 0 (MQ below (va_Qi (fun r v => CHG n9 L9 u r v) (MB D ca A (fun v => OW ca en ai ad bd v)) A) ([.ref (ad 0), .int x] : List Value).toArray s 130 780 A) (F0 m 258 ls []) := by
    intro H locs hP hD hS ls hl
    obtain ⟨a, v, z, hw, hz, hC⟩ := chW hu hl9 h0 (Chg_mono (by omega) (chg_sweep hu.2.1 (fSome (x >>> (4 &&& 31)) 90)))
    refine lv_aload_n hx hb dL_changes_258 rfl (lv_at hl 3 rfl) ?_
    refine lv_iload_n hx hb dL_changes_259 rfl (lv_at hl 2 rfl) ?_
    refine lv_iconst (v := 4) hx hb dL_changes_260 (by decide) ?_
    refine lv_ishr hx hb dL_changes_261 ?_
    refine lv_bipush (v := 90) hx hb dL_changes_262 (by decide) ?_
    refine hcSi (v := (fSome (x >>> (4 &&& 31)) 90)) (As := [.int (x >>> (4 &&& 31)), .int 90]) (rest := [.ref (ad 0)]) ⟨hx, hb, hml, hown, hts⟩ (kL_some l (x >>> (4 &&& 31)) 90 (by decide)) (va_cwS 2 hts mL_changes_L_some rfl rfl rfl (by decide +kernel) ⟨Nat.le_of_ble_eq_true rfl, Nat.le_of_ble_eq_true rfl⟩) rfl hl.1 rfl (Nat.le_of_ble_eq_true rfl) ⟨by show _ ≤ 130; omega, by show _ ≤ 780; omega⟩ dL_changes_264 ?_
    refine hcLi (wr := []) (u := u) (G := (a, v)) (As := [.ref (ad 0), .int (fSome (x >>> (4 &&& 31)) 90)]) (rest := []) ⟨hx, hb, hml, hown, hts⟩ (by rw [← hw]; exact kL_sweep l hfl D ca en ks vs ai ad bd _ u (fSome (x >>> (4 &&& 31)) 90) hu.1) (vx_cwSW 2 hts mL_changes_L_sweep rfl rfl rfl (by decide +kernel) ⟨Nat.le_of_ble_eq_true rfl, Nat.le_of_ble_eq_true rfl⟩) hK hP hD hS hA hX (List.Perm.refl _) rfl hl.1 rfl (Nat.le_of_ble_eq_true rfl) ⟨by show _ ≤ 130; omega, by show _ ≤ 780; omega⟩ dL_changes_267 (fun H locs hP hD hS => ?_)
    refine W.widen (k := (0 + 2)) (n := (0 + 12)) (by omega) (by omega) ?_
    refine lv_if_lt (tgt := 277) hx hb dL_changes_270 (by decide) (fun c9 => ?_) (fun c9 => ?_)
    · obtain rfl : z = 0 := hz.elim (fun h => h.2) (fun h => absurd c9 h.1)
      refine lv_iconst (v := 0) hx hb dL_changes_277 (by decide) ?_
      refine W.widen (k := 130) (n := 780) (by omega) (by omega) ?_
      exact W.zret (ty := .boolean) (v := 0) hx hb hr (by decide) (fun t ht hW => ⟨⟨0, v, rfl, hC, by rw [ht]; exact hP, va_K.moved hW.alike hK, hD⟩, hS.F ht⟩) hS.2.2 dL_changes_278
    · obtain rfl : z = 1 := hz.elim (fun h => absurd h.1 c9) (fun h => h.2)
      refine lv_iconst (v := 1) hx hb dL_changes_273 (by decide) ?_
      refine lv_goto (tgt := 278) hx hb dL_changes_274 (by decide) ?_
      refine W.widen (k := 130) (n := 780) (by omega) (by omega) ?_
      exact W.zret (ty := .boolean) (v := 1) hx hb hr (by decide) (fun t ht hW => ⟨⟨1, v, rfl, hC, by rw [ht]; exact hP, va_K.moved hW.alike hK, hD⟩, hS.F ht⟩) hS.2.2 dL_changes_278
  have c364 : ∀ (H : Heap) (locs : List Loc) (hP : va_P D vwCl (OW ca en ai ad bd u) H) (hD : va_D A (OW ca en ai ad bd u)) (hS : va_S A s.heap H locs) (ls : Array Slot) (hl : lv_has ls 4 [(3, .int (fSome (x >>> (7 &&& 31)) 22)), (2, .int (fSome (x >>> (4 &&& 31)) (nI (N + 1)))), (1, .int x), (0, .ref (ad 0))]), W p l e (headSpec wmL_changes ({ frames := 11, cells := 130, slots := 780, locals := 248 })).room s m ([.ref (ad 0), .int x] : List Value).toArray below meth c H locs 0 0 (MQ below (va_Qi (fun r v => CHG n9 L9 u r v) (MB D ca A (fun v => OW ca en ai ad bd v)) A) ([.ref (ad 0), .int x] : List Value).toArray s 130 780 A) (F0 m 364 ls []) := by
    intro H locs hP hD hS ls hl
    obtain ⟨a, v, z, hw, hz, hC⟩ := chW hu hl9 h0 (Chg_mono (by omega) (chg_pass hu.2.1 (by omega) (fSome (x >>> (4 &&& 31)) 63)))
    refine lv_aload_n hx hb dL_changes_364 rfl (lv_at hl 3 rfl) ?_
    refine lv_iload_n hx hb dL_changes_365 rfl (lv_at hl 2 rfl) ?_
    refine lv_iconst (v := 4) hx hb dL_changes_366 (by decide) ?_
    refine lv_ishr hx hb dL_changes_367 ?_
    refine lv_bipush (v := 63) hx hb dL_changes_368 (by decide) ?_
    refine hcSi (v := (fSome (x >>> (4 &&& 31)) 63)) (As := [.int (x >>> (4 &&& 31)), .int 63]) (rest := [.ref (ad 0)]) ⟨hx, hb, hml, hown, hts⟩ (kL_some l (x >>> (4 &&& 31)) 63 (by decide)) (va_cwS 2 hts mL_changes_L_some rfl rfl rfl (by decide +kernel) ⟨Nat.le_of_ble_eq_true rfl, Nat.le_of_ble_eq_true rfl⟩) rfl hl.1 rfl (Nat.le_of_ble_eq_true rfl) ⟨by show _ ≤ 130; omega, by show _ ≤ 780; omega⟩ dL_changes_370 ?_
    refine hcLi (wr := []) (u := u) (G := (a, v)) (As := [.ref (ad 0), .int (fSome (x >>> (4 &&& 31)) 63)]) (rest := []) ⟨hx, hb, hml, hown, hts⟩ (by rw [← hw]; exact kL_pass l hfl D ca en ks vs ai ad bd _ u (fSome (x >>> (4 &&& 31)) 63) hu.1) (vx_cwSW 2 hts mL_changes_L_pass rfl rfl rfl (by decide +kernel) ⟨Nat.le_of_ble_eq_true rfl, Nat.le_of_ble_eq_true rfl⟩) hK hP hD hS hA hX (List.Perm.refl _) rfl hl.1 rfl (Nat.le_of_ble_eq_true rfl) ⟨by show _ ≤ 130; omega, by show _ ≤ 780; omega⟩ dL_changes_373 (fun H locs hP hD hS => ?_)
    refine W.widen (k := (0 + 2)) (n := (0 + 12)) (by omega) (by omega) ?_
    refine lv_if_lt (tgt := 383) hx hb dL_changes_376 (by decide) (fun c9 => ?_) (fun c9 => ?_)
    · obtain rfl : z = 0 := hz.elim (fun h => h.2) (fun h => absurd c9 h.1)
      refine lv_iconst (v := 0) hx hb dL_changes_383 (by decide) ?_
      refine W.widen (k := 130) (n := 780) (by omega) (by omega) ?_
      exact W.zret (ty := .boolean) (v := 0) hx hb hr (by decide) (fun t ht hW => ⟨⟨0, v, rfl, hC, by rw [ht]; exact hP, va_K.moved hW.alike hK, hD⟩, hS.F ht⟩) hS.2.2 dL_changes_384
    · obtain rfl : z = 1 := hz.elim (fun h => absurd h.1 c9) (fun h => h.2)
      refine lv_iconst (v := 1) hx hb dL_changes_379 (by decide) ?_
      refine lv_goto (tgt := 384) hx hb dL_changes_380 (by decide) ?_
      refine W.widen (k := 130) (n := 780) (by omega) (by omega) ?_
      exact W.zret (ty := .boolean) (v := 1) hx hb hr (by decide) (fun t ht hW => ⟨⟨1, v, rfl, hC, by rw [ht]; exact hP, va_K.moved hW.alike hK, hD⟩, hS.F ht⟩) hS.2.2 dL_changes_384
  have c352 : ∀ (t tv tn : Nat) (tf : Nat → Int32) (wS : va_W) (H : Heap) (locs : List Loc) (hP : va_P D vwCl (OW ca en ai ad bd u ++ wS) H) (hD : va_D A (OW ca en ai ad bd u ++ wS)) (hS : va_S A s.heap H locs) (hT : TX t tv tn tf (va_A (OW ca en ai ad bd u) H.size) s H) (hok : okT tn tf) (ls : Array Slot) (hl : lv_has ls 4 [(3, .int (fSome (x >>> (7 &&& 31)) 22)), (2, .int (fSome (x >>> (4 &&& 31)) (nI (N + 1)))), (1, .int x), (0, .ref (ad 0))]), W p l e (headSpec wmL_changes ({ frames := 11, cells := 130, slots := 780, locals := 248 })).room s m ([.ref (ad 0), .int x] : List Value).toArray below meth c H locs 4 40 (MQ below (va_Qi (fun r v => CHG n9 L9 u r v) (MB D ca A (fun v => OW ca en ai ad bd v)) A) ([.ref (ad 0), .int x] : List Value).toArray s 130 780 A) (F0 m 352 ls [.ref t, .ref (ad 0)]) := by
    intro t tv tn tf wS H locs hP hD hS hT hok ls hl
    obtain ⟨a, v, z, hw, hz, hC⟩ := chR (tf := tf) hu hl9 hn9 h0 hok.1
    refine hcGp (mc := 122) (ms := 732) (X := TXX en ks vs t tv tn tf) (wr := wS) (wc := fun v => OW ca en ai ad bd v) (u := u) (G := (a, v)) (As := [.ref (ad 0), .ref t]) (rest := []) (TXX_ok en ks vs t tv tn tf) ⟨hx, hb, hml, hown, hts⟩ (by rw [← hw]; exact kL_runs l hfl D ca en ks vs ai ad bd _ u t tv tn tf hok n9 L9 hu h0) (va_cwS 2 hts mL_changes_L_runs rfl rfl rfl (by decide +kernel) ⟨Nat.le_of_ble_eq_true rfl, Nat.le_of_ble_eq_true rfl⟩) hK hP hD hS hA ⟨X_now (HX_ok en ks vs) hX hS (J_free (wr := wS) List.perm_append_comm hD hS hA), hT⟩ List.perm_append_comm rfl hl.1 rfl (Nat.le_of_ble_eq_true rfl) ⟨by show _ ≤ 130; omega, by show _ ≤ 780; omega⟩ dL_changes_352 (fun H locs hP hD hS => ?_)
    refine lv_if_lt (tgt := 362) hx hb dL_changes_355 (by decide) (fun c9 => ?_) (fun c9 => ?_)
    · obtain rfl : z = 0 := hz.elim (fun h => h.2) (fun h => absurd c9 h.1)
      refine lv_iconst (v := 0) hx hb dL_changes_362 (by decide) ?_
      refine W.widen (k := 130) (n := 780) (by omega) (by omega) ?_
      exact W.zret (ty := .boolean) (v := 0) hx hb hr (by decide) (fun t ht hW => ⟨⟨0, v, rfl, hC, by rw [ht]; exact P_right hP, va_K.moved hW.alike hK, D_right hD⟩, hS.F ht⟩) hS.2.2 dL_changes_363
    · obtain rfl : z = 1 := hz.elim (fun h => absurd h.1 c9) (fun h => h.2)
      refine lv_iconst (v := 1) hx hb dL_changes_358 (by decide) ?_
      refine lv_goto (tgt := 363) hx hb dL_changes_359 (by decide) ?_
      refine W.widen (k := 130) (n := 780) (by omega) (by omega) ?_
      exact W.zret (ty := .boolean) (v := 1) hx hb hr (by decide) (fun t ht hW => ⟨⟨1, v, rfl, hC, by rw [ht]; exact P_right hP, va_K.moved hW.alike hK, D_right hD⟩, hS.F ht⟩) hS.2.2 dL_changes_363
  have c279 : ∀ (H : Heap) (locs : List Loc) (hP : va_P D vwCl (OW ca en ai ad bd u) H) (hD : va_D A (OW ca en ai ad bd u)) (hS : va_S A s.heap H locs) (ls : Array Slot) (hl : lv_has ls 4 [(3, .int (fSome (x >>> (7 &&& 31)) 22)), (2, .int (fSome (x >>> (4 &&& 31)) (nI (N + 1)))), (1, .int x), (0, .ref (ad 0))]), W p l e (headSpec wmL_changes ({ frames := 11, cells := 130, slots := 780, locals := 248 })).room s m ([.ref (ad 0), .int x] : List Value).toArray below meth c H locs 0 0 (MQ below (va_Qi (fun r v => CHG n9 L9 u r v) (MB D ca A (fun v => OW ca en ai ad bd v)) A) ([.ref (ad 0), .int x] : List Value).toArray s 130 780 A) (F0 m 279 ls []) := by
    intro H locs hP hD hS ls hl
    obtain ⟨dd, hdd, hde, -⟩ := vp_nI (some_in (v := x >>> (4 &&& 31)) (n := 9) (N := 9) (by decide) (by decide) (by decide))
    refine lv_aload_n hx hb dL_changes_279 rfl (lv_at hl 3 rfl) ?_
    refine lv_iload_n hx hb dL_changes_280 rfl (lv_at hl 2 rfl) ?_
    refine lv_bipush (v := 6) hx hb dL_changes_281 (by decide) ?_
    refine lv_ishr hx hb dL_changes_283 ?_
    refine lv_iconst (v := 1) hx hb dL_changes_284 (by decide) ?_
    refine lv_iand hx hb dL_changes_285 ?_
    refine lv_if_ne (tgt := 319) hx hb dL_changes_286 (by decide) (fun _ => ?_) (fun _ => ?_)
    · refine va_new (ci := 1) (fs := [.null, .int 0, .int 0, .int 0]) (C := RJ4) (T := TJ4) (N := 4) hx hb hts hin4 tyJ4 tyJ4_ok hown (hts (.classLink RL 273 RJ4) (List.mem_cons_of_mem _ List.mem_cons_self)) (hts (.instantiable RJ4 4) (List.mem_cons_of_mem _ (List.mem_cons_of_mem _ List.mem_cons_self))) (hts (.initialized RJ4) (List.mem_cons_of_mem _ (List.mem_cons_of_mem _ (List.mem_cons_of_mem _ List.mem_cons_self)))) hK hP hD hS hA rfl (fun j hj => by rcases (show j = 0 ∨ j = 1 ∨ j = 2 ∨ j = 3 by omega) with rfl | rfl | rfl | rfl <;> rfl) (by show _ ≤ 130; omega) (by show _ ≤ 780; omega) dL_changes_319 (fun sb H hP hD hS => ?_)
      refine lv_dup hx hb dL_changes_322 rfl ?_
      refine rowV (wr := OW ca en ai ad bd u) (wc := [(sb, .inr (1, [.null, .int 0, .int 0, .int 0]))]) (va_runI (As := []) (rest := [.ref sb, .ref (ad 0)]) ⟨hx, hb, hml, hown, hts⟩ (kJ4_init_da8c8 l D ca en ks vs lk lv _ sb) (cwI 0 hts mL_changes_J4_init_da8c8 rfl rfl rfl (hts (.initialized RJ4) (List.mem_cons_of_mem _ (List.mem_cons_of_mem _ (List.mem_cons_of_mem _ List.mem_cons_self)))) (hts (.methodLink RL 275 yJ4_init_da8c8) (List.mem_cons_of_mem _ (List.mem_cons_of_mem _ (List.mem_cons_of_mem _ (List.mem_cons_of_mem _ List.mem_cons_self))))) (hts (.instanceMethod yJ4_init_da8c8) (List.mem_cons_of_mem _ (List.mem_cons_of_mem _ (List.mem_cons_of_mem _ (List.mem_cons_of_mem _ (List.mem_cons_of_mem _ List.mem_cons_self)))))) rfl (by decide +kernel) ⟨Nat.le_of_ble_eq_true rfl, Nat.le_of_ble_eq_true rfl⟩) (MGp (wr := OW ca en ai ad bd u) (YX_ok en ks vs lk lv) hK hP hD hS hA hY (List.Perm.refl _)) rfl rfl hl.1 rfl (lv_room (Nat.le_of_ble_eq_true rfl)) dL_changes_323 ⟨by show _ ≤ 130; omega, by show _ ≤ 780; omega⟩) hP hD hS hA (List.Perm.refl _) (fun vb H locs _ hP hD hS => ?_)
      refine va_ldcSW hx hb hown (hY.2.1 1 (by decide)).1 dL_changes_326 ?_
      refine rowA (wr := OW ca en ai ad bd u) (wc := [BWo sb vb (0), BWa ca vb (fun _ => 0)]) (b := sb) (w9 := [BWo sb vb (0 + lawN 1), BWa ca vb (va_cpy (lawF 1) (fun _ => 0) 0 0 (lawN 1))]) (va_runV (As := [.ref (lk 1)]) (rest := [.ref (ad 0)]) ⟨hx, hb, hml, hown, hts⟩ (kJ4_append_15ec4 l D ca en ks vs lk lv _ sb vb (0) (fun _ => 0) 1 (by decide) (by decide)) (cwV 1 hts mL_changes_J4_append_15ec4 rfl rfl rfl (by decide +kernel) ⟨Nat.le_of_ble_eq_true rfl, Nat.le_of_ble_eq_true rfl⟩) (MGv (wr := OW ca en ai ad bd u) (q0 := 0) (ci := 1) (YX_ok en ks vs lk lv) hK hP hD hS hA hY (List.Perm.refl _) rfl rfl) rfl rfl hl.1 rfl (lv_room (Nat.le_of_ble_eq_true rfl)) dL_changes_329 ⟨by show _ ≤ 130; omega, by show _ ≤ 780; omega⟩) hP hD hS hA (List.Perm.refl _) (fun H locs hP hD hS => ?_)
      refine lv_iload_n hx hb dL_changes_332 rfl (lv_at hl 2 rfl) ?_
      refine lv_iconst (v := 4) hx hb dL_changes_333 (by decide) ?_
      refine lv_ishr hx hb dL_changes_334 ?_
      refine lv_bipush (v := 9) hx hb dL_changes_335 (by decide) ?_
      refine hcSi (v := (fSome (x >>> (4 &&& 31)) 9)) (As := [.int (x >>> (4 &&& 31)), .int 9]) (rest := [.ref sb, .ref (ad 0)]) ⟨hx, hb, hml, hown, hts⟩ (kL_some l (x >>> (4 &&& 31)) 9 (by decide)) (va_cwS 2 hts mL_changes_L_some rfl rfl rfl (by decide +kernel) ⟨Nat.le_of_ble_eq_true rfl, Nat.le_of_ble_eq_true rfl⟩) rfl hl.1 rfl (Nat.le_of_ble_eq_true rfl) ⟨by show _ ≤ 130; omega, by show _ ≤ 780; omega⟩ dL_changes_337 ?_
      refine lv_to (y := nI dd) hde ?_
      refine rowA (wr := OW ca en ai ad bd u) (wc := [BWo sb vb (0 + lawN 1), BWa ca vb (va_cpy (lawF 1) (fun _ => 0) 0 0 (lawN 1))]) (b := sb) (w9 := [BWo sb vb (0 + lawN 1 + 1), BWa ca vb (upd (va_cpy (lawF 1) (fun _ => 0) 0 0 (lawN 1)) (0 + lawN 1) (vp_nar .byte (digF dd)))]) (va_runV (As := [.int (nI dd)]) (rest := [.ref (ad 0)]) ⟨hx, hb, hml, hown, hts⟩ (kJ4_append_bf812 l D ca en ks vs lk lv _ sb vb (0 + lawN 1) (va_cpy (lawF 1) (fun _ => 0) 0 0 (lawN 1)) dd (by omega) (by decide)) (cwV 1 hts mL_changes_J4_append_bf812 rfl rfl rfl (by decide +kernel) ⟨Nat.le_of_ble_eq_true rfl, Nat.le_of_ble_eq_true rfl⟩) (MGv (wr := OW ca en ai ad bd u) (q0 := 0) (ci := 1) (YX_ok en ks vs lk lv) hK hP hD hS hA hY (List.Perm.refl _) rfl rfl) rfl rfl hl.1 rfl (lv_room (Nat.le_of_ble_eq_true rfl)) dL_changes_340 ⟨by show _ ≤ 130; omega, by show _ ≤ 780; omega⟩) hP hD hS hA (List.Perm.refl _) (fun H locs hP hD hS => ?_)
      refine va_ldcSW hx hb hown (hY.2.1 2 (by decide)).1 dL_changes_343 ?_
      refine rowA (wr := OW ca en ai ad bd u) (wc := [BWo sb vb (0 + lawN 1 + 1), BWa ca vb (upd (va_cpy (lawF 1) (fun _ => 0) 0 0 (lawN 1)) (0 + lawN 1) (vp_nar .byte (digF dd)))]) (b := sb) (w9 := [BWo sb vb (0 + lawN 1 + 1 + lawN 2), BWa ca vb (tx2 dd)]) (va_runV (As := [.ref (lk 2)]) (rest := [.ref (ad 0)]) ⟨hx, hb, hml, hown, hts⟩ (kJ4_append_15ec4 l D ca en ks vs lk lv _ sb vb (0 + lawN 1 + 1) (upd (va_cpy (lawF 1) (fun _ => 0) 0 0 (lawN 1)) (0 + lawN 1) (vp_nar .byte (digF dd))) 2 (by decide) (by decide)) (cwV 1 hts mL_changes_J4_append_15ec4 rfl rfl rfl (by decide +kernel) ⟨Nat.le_of_ble_eq_true rfl, Nat.le_of_ble_eq_true rfl⟩) (MGv (wr := OW ca en ai ad bd u) (q0 := 0) (ci := 1) (YX_ok en ks vs lk lv) hK hP hD hS hA hY (List.Perm.refl _) rfl rfl) rfl rfl hl.1 rfl (lv_room (Nat.le_of_ble_eq_true rfl)) dL_changes_346 ⟨by show _ ≤ 130; omega, by show _ ≤ 780; omega⟩) hP hD hS hA (List.Perm.refl _) (fun H locs hP hD hS => ?_)
      refine rowR (wr := OW ca en ai ad bd u) (wc := [BWo sb vb (0 + lawN 1 + 1 + lawN 2), BWa ca vb (tx2 dd)]) (BR := fun (z : (Nat → Int32) × Nat) (a : Nat) => [(a, .inr (0, [.ref z.2, .int 0, .int 0, .int 0])), BWo sb vb (0 + lawN 1 + 1 + lawN 2), BWa ca vb (tx2 dd), (z.2, .inl (ca 5, 0 + lawN 1 + 1 + lawN 2, .inl z.1))]) (va_runV (As := []) (rest := [.ref (ad 0)]) ⟨hx, hb, hml, hown, hts⟩ (kJ4_toString_0e30d l D ca en ks vs lk lv _ sb vb (0 + lawN 1 + 1 + lawN 2) (tx2 dd) (by decide) (FB_tx2 hdd)) (cwV 0 hts mL_changes_J4_toString_0e30d rfl rfl rfl (by decide +kernel) ⟨Nat.le_of_ble_eq_true rfl, Nat.le_of_ble_eq_true rfl⟩) (MGv (wr := OW ca en ai ad bd u) (q0 := 0) (ci := 1) (YX_ok en ks vs lk lv) hK hP hD hS hA hY (List.Perm.refl _) rfl rfl) rfl rfl hl.1 rfl (lv_room (Nat.le_of_ble_eq_true rfl)) dL_changes_349 ⟨by show _ ≤ 130; omega, by show _ ≤ 780; omega⟩) hP hD hS hA (List.Perm.refl _) (fun z t H locs hz9 hP hD hS => ?_)
      refine W.widen (k := 4) (n := 40) (by omega) (by omega) ?_
      refine c352 t z.2 (0 + lawN 1 + 1 + lawN 2) z.1 _ H locs hP hD hS (TX_cells hts hin0 hK (P_right hP) 0 3 rfl rfl (notA hP hD (q := (t, .inr (0, [.ref z.2, .int 0, .int 0, .int 0]))) (List.mem_cons_self)) (notA hP hD (q := (z.2, .inl (ca 5, 0 + lawN 1 + 1 + lawN 2, .inl z.1))) (List.mem_cons_of_mem _ (List.mem_cons_of_mem _ (List.mem_cons_of_mem _ List.mem_cons_self))))) ⟨by decide, fun k hk => ?_⟩ ls (lv_sub hl [0, 1, 2, 3] rfl)
      rw [hz9 k hk]
      exact ok_tx2 dd hdd k hk
    · refine va_new (ci := 1) (fs := [.null, .int 0, .int 0, .int 0]) (C := RJ4) (T := TJ4) (N := 4) hx hb hts hin4 tyJ4 tyJ4_ok hown (hts (.classLink RL 273 RJ4) (List.mem_cons_of_mem _ List.mem_cons_self)) (hts (.instantiable RJ4 4) (List.mem_cons_of_mem _ (List.mem_cons_of_mem _ List.mem_cons_self))) (hts (.initialized RJ4) (List.mem_cons_of_mem _ (List.mem_cons_of_mem _ (List.mem_cons_of_mem _ List.mem_cons_self)))) hK hP hD hS hA rfl (fun j hj => by rcases (show j = 0 ∨ j = 1 ∨ j = 2 ∨ j = 3 by omega) with rfl | rfl | rfl | rfl <;> rfl) (by show _ ≤ 130; omega) (by show _ ≤ 780; omega) dL_changes_289 (fun sb H hP hD hS => ?_)
      refine lv_dup hx hb dL_changes_292 rfl ?_
      refine rowV (wr := OW ca en ai ad bd u) (wc := [(sb, .inr (1, [.null, .int 0, .int 0, .int 0]))]) (va_runI (As := []) (rest := [.ref sb, .ref (ad 0)]) ⟨hx, hb, hml, hown, hts⟩ (kJ4_init_da8c8 l D ca en ks vs lk lv _ sb) (cwI 0 hts mL_changes_J4_init_da8c8 rfl rfl rfl (hts (.initialized RJ4) (List.mem_cons_of_mem _ (List.mem_cons_of_mem _ (List.mem_cons_of_mem _ List.mem_cons_self)))) (hts (.methodLink RL 275 yJ4_init_da8c8) (List.mem_cons_of_mem _ (List.mem_cons_of_mem _ (List.mem_cons_of_mem _ (List.mem_cons_of_mem _ List.mem_cons_self))))) (hts (.instanceMethod yJ4_init_da8c8) (List.mem_cons_of_mem _ (List.mem_cons_of_mem _ (List.mem_cons_of_mem _ (List.mem_cons_of_mem _ (List.mem_cons_of_mem _ List.mem_cons_self)))))) rfl (by decide +kernel) ⟨Nat.le_of_ble_eq_true rfl, Nat.le_of_ble_eq_true rfl⟩) (MGp (wr := OW ca en ai ad bd u) (YX_ok en ks vs lk lv) hK hP hD hS hA hY (List.Perm.refl _)) rfl rfl hl.1 rfl (lv_room (Nat.le_of_ble_eq_true rfl)) dL_changes_293 ⟨by show _ ≤ 130; omega, by show _ ≤ 780; omega⟩) hP hD hS hA (List.Perm.refl _) (fun vb H locs _ hP hD hS => ?_)
      refine va_ldcSW hx hb hown (hY.2.1 0 (by decide)).1 dL_changes_296 ?_
      refine rowA (wr := OW ca en ai ad bd u) (wc := [BWo sb vb (0), BWa ca vb (fun _ => 0)]) (b := sb) (w9 := [BWo sb vb (0 + lawN 0), BWa ca vb (va_cpy (lawF 0) (fun _ => 0) 0 0 (lawN 0))]) (va_runV (As := [.ref (lk 0)]) (rest := [.ref (ad 0)]) ⟨hx, hb, hml, hown, hts⟩ (kJ4_append_15ec4 l D ca en ks vs lk lv _ sb vb (0) (fun _ => 0) 0 (by decide) (by decide)) (cwV 1 hts mL_changes_J4_append_15ec4 rfl rfl rfl (by decide +kernel) ⟨Nat.le_of_ble_eq_true rfl, Nat.le_of_ble_eq_true rfl⟩) (MGv (wr := OW ca en ai ad bd u) (q0 := 0) (ci := 1) (YX_ok en ks vs lk lv) hK hP hD hS hA hY (List.Perm.refl _) rfl rfl) rfl rfl hl.1 rfl (lv_room (Nat.le_of_ble_eq_true rfl)) dL_changes_299 ⟨by show _ ≤ 130; omega, by show _ ≤ 780; omega⟩) hP hD hS hA (List.Perm.refl _) (fun H locs hP hD hS => ?_)
      refine lv_iload_n hx hb dL_changes_302 rfl (lv_at hl 2 rfl) ?_
      refine lv_iconst (v := 4) hx hb dL_changes_303 (by decide) ?_
      refine lv_ishr hx hb dL_changes_304 ?_
      refine lv_bipush (v := 9) hx hb dL_changes_305 (by decide) ?_
      refine hcSi (v := (fSome (x >>> (4 &&& 31)) 9)) (As := [.int (x >>> (4 &&& 31)), .int 9]) (rest := [.ref sb, .ref (ad 0)]) ⟨hx, hb, hml, hown, hts⟩ (kL_some l (x >>> (4 &&& 31)) 9 (by decide)) (va_cwS 2 hts mL_changes_L_some rfl rfl rfl (by decide +kernel) ⟨Nat.le_of_ble_eq_true rfl, Nat.le_of_ble_eq_true rfl⟩) rfl hl.1 rfl (Nat.le_of_ble_eq_true rfl) ⟨by show _ ≤ 130; omega, by show _ ≤ 780; omega⟩ dL_changes_307 ?_
      refine lv_to (y := nI dd) hde ?_
      refine rowA (wr := OW ca en ai ad bd u) (wc := [BWo sb vb (0 + lawN 0), BWa ca vb (va_cpy (lawF 0) (fun _ => 0) 0 0 (lawN 0))]) (b := sb) (w9 := [BWo sb vb (0 + lawN 0 + 1), BWa ca vb (upd (va_cpy (lawF 0) (fun _ => 0) 0 0 (lawN 0)) (0 + lawN 0) (vp_nar .byte (digF dd)))]) (va_runV (As := [.int (nI dd)]) (rest := [.ref (ad 0)]) ⟨hx, hb, hml, hown, hts⟩ (kJ4_append_bf812 l D ca en ks vs lk lv _ sb vb (0 + lawN 0) (va_cpy (lawF 0) (fun _ => 0) 0 0 (lawN 0)) dd (by omega) (by decide)) (cwV 1 hts mL_changes_J4_append_bf812 rfl rfl rfl (by decide +kernel) ⟨Nat.le_of_ble_eq_true rfl, Nat.le_of_ble_eq_true rfl⟩) (MGv (wr := OW ca en ai ad bd u) (q0 := 0) (ci := 1) (YX_ok en ks vs lk lv) hK hP hD hS hA hY (List.Perm.refl _) rfl rfl) rfl rfl hl.1 rfl (lv_room (Nat.le_of_ble_eq_true rfl)) dL_changes_310 ⟨by show _ ≤ 130; omega, by show _ ≤ 780; omega⟩) hP hD hS hA (List.Perm.refl _) (fun H locs hP hD hS => ?_)
      refine rowR (wr := OW ca en ai ad bd u) (wc := [BWo sb vb (0 + lawN 0 + 1), BWa ca vb (tx1 dd)]) (BR := fun (z : (Nat → Int32) × Nat) (a : Nat) => [(a, .inr (0, [.ref z.2, .int 0, .int 0, .int 0])), BWo sb vb (0 + lawN 0 + 1), BWa ca vb (tx1 dd), (z.2, .inl (ca 5, 0 + lawN 0 + 1, .inl z.1))]) (va_runV (As := []) (rest := [.ref (ad 0)]) ⟨hx, hb, hml, hown, hts⟩ (kJ4_toString_0e30d l D ca en ks vs lk lv _ sb vb (0 + lawN 0 + 1) (tx1 dd) (by decide) (FB_tx1 hdd)) (cwV 0 hts mL_changes_J4_toString_0e30d rfl rfl rfl (by decide +kernel) ⟨Nat.le_of_ble_eq_true rfl, Nat.le_of_ble_eq_true rfl⟩) (MGv (wr := OW ca en ai ad bd u) (q0 := 0) (ci := 1) (YX_ok en ks vs lk lv) hK hP hD hS hA hY (List.Perm.refl _) rfl rfl) rfl rfl hl.1 rfl (lv_room (Nat.le_of_ble_eq_true rfl)) dL_changes_313 ⟨by show _ ≤ 130; omega, by show _ ≤ 780; omega⟩) hP hD hS hA (List.Perm.refl _) (fun z t H locs hz9 hP hD hS => ?_)
      refine lv_goto (tgt := 352) hx hb dL_changes_316 (by decide) ?_
      refine W.widen (k := 4) (n := 40) (by omega) (by omega) ?_
      refine c352 t z.2 (0 + lawN 0 + 1) z.1 _ H locs hP hD hS (TX_cells hts hin0 hK (P_right hP) 0 3 rfl rfl (notA hP hD (q := (t, .inr (0, [.ref z.2, .int 0, .int 0, .int 0]))) (List.mem_cons_self)) (notA hP hD (q := (z.2, .inl (ca 5, 0 + lawN 0 + 1, .inl z.1))) (List.mem_cons_of_mem _ (List.mem_cons_of_mem _ (List.mem_cons_of_mem _ List.mem_cons_self))))) ⟨by decide, fun k hk => ?_⟩ ls (lv_sub hl [0, 1, 2, 3] rfl)
      rw [hz9 k hk]
      exact ok_tx1 dd hdd k hk
  refine W_entry (Nat.le_of_ble_eq_true rfl) (fun ls hl => ?_)
  have hl : lv_has ls 4 [(0, .ref (ad 0)), (1, .int x)] := hl
  refine lv_iload_n hx hb dL_changes_0 rfl (lv_at hl 1 rfl) ?_
  refine lv_iconst (v := 4) hx hb dL_changes_1 (by decide) ?_
  refine lv_ishr hx hb dL_changes_2 ?_
  refine lv_aload_n hx hb dL_changes_3 rfl (lv_at hl 0 rfl) ?_
  refine hcRi (v := h9 (og0 u)) (As := []) (rest := [.int (x >>> (4 &&& 31))]) 0 6 ⟨hx, hb, hml, hown, hts⟩ (kX5_guestCount l D ca en ks vs ai ad bd u) (cwV 0 hts mL_changes_X5_guestCount rfl rfl rfl (by decide +kernel) ⟨Nat.le_of_ble_eq_true rfl, Nat.le_of_ble_eq_true rfl⟩) hK hP rfl rfl rfl hl.1 rfl (Nat.le_of_ble_eq_true rfl) ⟨by show _ ≤ 130; omega, by show _ ≤ 780; omega⟩ dL_changes_4 ?_
  refine lv_iconst (v := 1) hx hb dL_changes_7 (by decide) ?_
  refine lv_iadd hx hb dL_changes_8 ?_
  refine lv_to (y := (nI (N + 1))) (by rw [hN]; exact nI_1 N) ?_
  refine hcSi (v := (fSome (x >>> (4 &&& 31)) (nI (N + 1)))) (As := [.int (x >>> (4 &&& 31)), .int (nI (N + 1))]) (rest := []) ⟨hx, hb, hml, hown, hts⟩ (kL_some l (x >>> (4 &&& 31)) (nI (N + 1)) (nI_ne0 (by omega) (by omega))) (va_cwS 2 hts mL_changes_L_some rfl rfl rfl (by decide +kernel) ⟨Nat.le_of_ble_eq_true rfl, Nat.le_of_ble_eq_true rfl⟩) rfl hl.1 rfl (Nat.le_of_ble_eq_true rfl) ⟨by show _ ≤ 130; omega, by show _ ≤ 780; omega⟩ dL_changes_9 ?_
  refine lv_istore_n (lv' := [(2, .int (fSome (x >>> (4 &&& 31)) (nI (N + 1)))), (0, .ref (ad 0)), (1, .int x)]) hx hb dL_changes_12 rfl hl (by decide) rfl (fun ls hl => ?_)
  refine lv_iload_n hx hb dL_changes_13 rfl (lv_at hl 2 rfl) ?_
  refine lv_bipush (v := 7) hx hb dL_changes_14 (by decide) ?_
  refine lv_ishr hx hb dL_changes_16 ?_
  refine lv_bipush (v := 22) hx hb dL_changes_17 (by decide) ?_
  refine hcSi (v := (fSome (x >>> (7 &&& 31)) 22)) (As := [.int (x >>> (7 &&& 31)), .int 22]) (rest := []) ⟨hx, hb, hml, hown, hts⟩ (kL_some l (x >>> (7 &&& 31)) 22 (by decide)) (va_cwS 2 hts mL_changes_L_some rfl rfl rfl (by decide +kernel) ⟨Nat.le_of_ble_eq_true rfl, Nat.le_of_ble_eq_true rfl⟩) rfl hl.1 rfl (Nat.le_of_ble_eq_true rfl) ⟨by show _ ≤ 130; omega, by show _ ≤ 780; omega⟩ dL_changes_19 ?_
  refine lv_istore_n (lv' := [(3, .int (fSome (x >>> (7 &&& 31)) 22)), (2, .int (fSome (x >>> (4 &&& 31)) (nI (N + 1)))), (0, .ref (ad 0)), (1, .int x)]) hx hb dL_changes_22 rfl hl (by decide) rfl (fun ls hl => ?_)
  refine lv_iload_n hx hb dL_changes_23 rfl (lv_at hl 3 rfl) ?_
  refine lv_bipush (v := 24) hx hb dL_changes_24 (by decide) ?_
  refine hcSi (v := (fSome x 24)) (As := [.int x, .int 24]) (rest := []) ⟨hx, hb, hml, hown, hts⟩ (kL_some l x 24 (by decide)) (va_cwS 2 hts mL_changes_L_some rfl rfl rfl (by decide +kernel) ⟨Nat.le_of_ble_eq_true rfl, Nat.le_of_ble_eq_true rfl⟩) rfl hl.1 rfl (Nat.le_of_ble_eq_true rfl) ⟨by show _ ≤ 130; omega, by show _ ≤ 780; omega⟩ dL_changes_26 ?_
  obtain ⟨j, hj, hje, -⟩ := vp_nI (some_in (v := x) (n := 24) (N := 24) (by decide) (by decide) (by decide))
  refine lv_to (y := nI j) hje ?_
  rcases (show j = 0 ∨ j = 1 ∨ j = 2 ∨ j = 3 ∨ j = 4 ∨ j = 5 ∨ j = 6 ∨ j = 7 ∨ j = 8 ∨ j = 9 ∨ j = 10 ∨ j = 11 ∨ j = 12 ∨ j = 13 ∨ j = 14 ∨ j = 15 ∨ j = 16 ∨ j = 17 ∨ j = 18 ∨ j = 19 ∨ j = 20 ∨ j = 21 ∨ j = 22 ∨ j = 23 by omega) with rfl | rfl | rfl | rfl | rfl | rfl | rfl | rfl | rfl | rfl | rfl | rfl | rfl | rfl | rfl | rfl | rfl | rfl | rfl | rfl | rfl | rfl | rfl | rfl
  · refine lv_tableIn (tgt := 128) (off := 99) hx hb dL_changes_29 (by decide) (by decide) (by decide) (by decide) ?_
    exact c128 _ _ hP hD hS ls (lv_sub hl [0, 1, 3, 2] rfl)
  · refine lv_tableIn (tgt := 157) (off := 128) hx hb dL_changes_29 (by decide) (by decide) (by decide) (by decide) ?_
    exact c157 _ _ hP hD hS ls (lv_sub hl [0, 1, 3, 2] rfl)
  · refine lv_tableIn (tgt := 171) (off := 142) hx hb dL_changes_29 (by decide) (by decide) (by decide) (by decide) ?_
    exact c171 _ _ hP hD hS ls (lv_sub hl [0, 1, 3, 2] rfl)
  · refine lv_tableIn (tgt := 171) (off := 142) hx hb dL_changes_29 (by decide) (by decide) (by decide) (by decide) ?_
    exact c171 _ _ hP hD hS ls (lv_sub hl [0, 1, 3, 2] rfl)
  · refine lv_tableIn (tgt := 171) (off := 142) hx hb dL_changes_29 (by decide) (by decide) (by decide) (by decide) ?_
    exact c171 _ _ hP hD hS ls (lv_sub hl [0, 1, 3, 2] rfl)
  · refine lv_tableIn (tgt := 171) (off := 142) hx hb dL_changes_29 (by decide) (by decide) (by decide) (by decide) ?_
    exact c171 _ _ hP hD hS ls (lv_sub hl [0, 1, 3, 2] rfl)
  · refine lv_tableIn (tgt := 186) (off := 157) hx hb dL_changes_29 (by decide) (by decide) (by decide) (by decide) ?_
    exact c186 _ _ hP hD hS ls (lv_sub hl [0, 1, 3, 2] rfl)
  · refine lv_tableIn (tgt := 186) (off := 157) hx hb dL_changes_29 (by decide) (by decide) (by decide) (by decide) ?_
    exact c186 _ _ hP hD hS ls (lv_sub hl [0, 1, 3, 2] rfl)
  · refine lv_tableIn (tgt := 186) (off := 157) hx hb dL_changes_29 (by decide) (by decide) (by decide) (by decide) ?_
    exact c186 _ _ hP hD hS ls (lv_sub hl [0, 1, 3, 2] rfl)
  · refine lv_tableIn (tgt := 200) (off := 171) hx hb dL_changes_29 (by decide) (by decide) (by decide) (by decide) ?_
    exact c200 _ _ hP hD hS ls (lv_sub hl [0, 1, 3, 2] rfl)
  · refine lv_tableIn (tgt := 214) (off := 185) hx hb dL_changes_29 (by decide) (by decide) (by decide) (by decide) ?_
    exact c214 _ _ hP hD hS ls (lv_sub hl [0, 1, 3, 2] rfl)
  · refine lv_tableIn (tgt := 214) (off := 185) hx hb dL_changes_29 (by decide) (by decide) (by decide) (by decide) ?_
    exact c214 _ _ hP hD hS ls (lv_sub hl [0, 1, 3, 2] rfl)
  · refine lv_tableIn (tgt := 214) (off := 185) hx hb dL_changes_29 (by decide) (by decide) (by decide) (by decide) ?_
    exact c214 _ _ hP hD hS ls (lv_sub hl [0, 1, 3, 2] rfl)
  · refine lv_tableIn (tgt := 214) (off := 185) hx hb dL_changes_29 (by decide) (by decide) (by decide) (by decide) ?_
    exact c214 _ _ hP hD hS ls (lv_sub hl [0, 1, 3, 2] rfl)
  · refine lv_tableIn (tgt := 229) (off := 200) hx hb dL_changes_29 (by decide) (by decide) (by decide) (by decide) ?_
    exact c229 _ _ hP hD hS ls (lv_sub hl [0, 1, 3, 2] rfl)
  · refine lv_tableIn (tgt := 243) (off := 214) hx hb dL_changes_29 (by decide) (by decide) (by decide) (by decide) ?_
    exact c243 _ _ hP hD hS ls (lv_sub hl [0, 1, 3, 2] rfl)
  · refine lv_tableIn (tgt := 243) (off := 214) hx hb dL_changes_29 (by decide) (by decide) (by decide) (by decide) ?_
    exact c243 _ _ hP hD hS ls (lv_sub hl [0, 1, 3, 2] rfl)
  · refine lv_tableIn (tgt := 243) (off := 214) hx hb dL_changes_29 (by decide) (by decide) (by decide) (by decide) ?_
    exact c243 _ _ hP hD hS ls (lv_sub hl [0, 1, 3, 2] rfl)
  · refine lv_tableIn (tgt := 258) (off := 229) hx hb dL_changes_29 (by decide) (by decide) (by decide) (by decide) ?_
    exact c258 _ _ hP hD hS ls (lv_sub hl [0, 1, 3, 2] rfl)
  · refine lv_tableIn (tgt := 279) (off := 250) hx hb dL_changes_29 (by decide) (by decide) (by decide) (by decide) ?_
    exact c279 _ _ hP hD hS ls (lv_sub hl [0, 1, 3, 2] rfl)
  · refine lv_tableIn (tgt := 279) (off := 250) hx hb dL_changes_29 (by decide) (by decide) (by decide) (by decide) ?_
    exact c279 _ _ hP hD hS ls (lv_sub hl [0, 1, 3, 2] rfl)
  · refine lv_tableOut (tgt := 364) hx hb dL_changes_29 (by decide) (by decide) ?_
    exact c364 _ _ hP hD hS ls (lv_sub hl [0, 1, 3, 2] rfl)
  · refine lv_tableOut (tgt := 364) hx hb dL_changes_29 (by decide) (by decide) ?_
    exact c364 _ _ hP hD hS ls (lv_sub hl [0, 1, 3, 2] rfl)
  · refine lv_tableOut (tgt := 364) hx hb dL_changes_29 (by decide) (by decide) ?_
    exact c364 _ _ hP hD hS ls (lv_sub hl [0, 1, 3, 2] rfl)
