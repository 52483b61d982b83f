/-! what holds of the world between the law's calls; what a run does -/
def LI (n : Int) (L : List HS) (w : OS) : Prop := OI w ∧ GI n (og0 w) ∧ (∀ x, x ∈ L → GI n x) ∧ HQ w L
theorem remO_OI {w : OS} (h : OI w) : OI (remO w) := by
  obtain ⟨h1, h2, h3, h4, h5, h6, h7⟩ := h
  refine ⟨by rw [og0_remO]; exact h1, h2, fun i => ?_, by rw [remO_3]; exact nx_lt _ h4, ?_, h6, h7⟩
  · rw [remO_2]
    unfold va_up
    split
    · exact h1
    · exact h3 i
  · rw [remO_4]
    split <;> omega
theorem LI_rem {n m : Int} {L : List HS} {w : OS} {x : HS} (h : LI n L w) (hm : n ≤ m) (hl : L.length < 8) (hx : GI m x) : LI m (og0 w :: L) (os0 x (remO w)) := by
  obtain ⟨h1, h2, h3, h4⟩ := h
  refine ⟨hall_OI (remO_OI h1) hx.1, hx, fun y hy => ?_, HQ_0 (HQ_rem h4 hl) x⟩
  rcases List.mem_cons.mp hy with e | e
  · subst e; exact GI_mono h2 hm
  · exact GI_mono (h3 y e) hm
theorem LI_mono {n m : Int} {L : List HS} {w : OS} (h : LI n L w) (hm : n ≤ m) : LI m L w := ⟨h.1, GI_mono h.2.1 hm, fun x hx => GI_mono (h.2.2.1 x hx) hm, h.2.2.2⟩
theorem LI_chg {n m : Int} {L : List HS} {w : OS} {F : Nat × Int32 × OS} (h : LI n L w) (hm : n ≤ m) (hl : L.length < 8) (hc : Chg m w F) : (F.1 ≠ 0 ∧ F.2.2 = w) ∨ (F.1 = 0 ∧ 0 ≤ F.2.1.toInt ∧ LI m (og0 w :: L) F.2.2 ∧ og1 F.2.2 = og1 w ∧ og5 F.2.2 = og5 w ∧ og8 F.2.2 = og8 w) := by
  rcases hc with ⟨a, b⟩ | ⟨a, b, x, e, g⟩
  · exact Or.inl ⟨a, b⟩
  · refine Or.inr ⟨a, b, ?_⟩
    rw [e]
    exact ⟨LI_rem h hm hl g, rfl, rfl, rfl⟩
theorem LI_undo {n : Int} {L : List HS} {w : OS} {x : HS} (h : LI n (x :: L) w) : fX5_undo w = (0, nI L.length, undO w) ∧ og0 (undO w) = x ∧ LI n L (undO w) ∧ og1 (undO w) = og1 w ∧ og5 (undO w) = og5 w ∧ og8 (undO w) = og8 w := by
  obtain ⟨⟨o1, o2, o3, o4, o5, o6, o7⟩, h2, h3, h4⟩ := h
  obtain ⟨u1, u2, u3⟩ := HQ_undo h4
  have hx := h3 x (List.mem_cons_self)
  refine ⟨u1, u2, ⟨⟨by rw [u2]; exact hx.1, o2, o3, u3.2.2.1, ?_, o6, o7⟩, by rw [u2]; exact hx, fun y hy => h3 y (List.mem_cons_of_mem _ hy), u3⟩, rfl, rfl, rfl⟩
  rw [← u3.1]
  exact u3.2.1
theorem carry_GI {n : Int} {u : HS} {c : Nat} {x y : Int32} (g : GI n u) (hn : n ≤ 900000) (hc : c < 10) (h : fX1_refusalIn u c x y = 0) : GI (n + 60) (fX1_carryOutIn u c x y) := by
  have hm : n ≤ n + 60 := by omega
  match c, hc, h with
  | 0, _, h => rw [ri_0] at h; rw [cout_0]; exact GI_mono (GI_welcome g (guest_ok g.1 h) (guest_fe h)) hm
  | 1, _, h =>
    rw [ri_1] at h; rw [cout_1]
    obtain ⟨i1, i2⟩ := hat_ok g.1.2 h
    obtain ⟨k, hk, rfl, -⟩ := vp_nI i2
    exact GI_mono (GI_putHat g hk (vp_lt i1) (hat_free hk h)) hm
  | 2, _, h => rw [ri_2] at h; rw [cout_2]; exact GI_mono (GI_give g (vp_lt (noHat_ok g.1.2 h))) hm
  | 3, _, h => rw [cout_3]; exact GI_mono (GI_idle g) hm
  | 4, _, h =>
    rw [ri_4] at h; rw [cout_4]
    obtain ⟨k, hk, rfl, -⟩ := vp_nI (coat_ok g.1.2 h).2
    exact GI_mono (GI_coat g hk) hm
  | 5, _, h => rw [cout_5]; exact GI_mono (GI_pull g x).1 hm
  | 6, _, h =>
    rw [ri_6] at h; rw [cout_6]
    obtain ⟨i1, i2⟩ := contest_ok g.1.2 h
    obtain ⟨k, hk, rfl, -⟩ := vp_nI i2
    obtain ⟨a, ha, rfl, -⟩ := vp_nI i1
    exact GI_mono (GI_fight g ha hk) hm
  | 7, _, h =>
    rw [ri_7] at h; rw [cout_7]
    have hb := pass_bd h
    exact (GI_pass g (x := x) (m := 60) ⟨by omega, hb.2⟩ (by omega)).1
  | 8, _, h => rw [cout_8]; exact GI_mono (GI_sweep g x).1 hm
  | 9, _, h => rw [ri_9] at h; rw [cout_9]; exact GI_mono (GI_feather g (vp_lt (feather_ok g.1.2 h)) (feather_lt h)).1 hm
  | k + 10, h, _ => omega
theorem back_eq (v : OS) : osH (fX4_takeBack (oH v)) v = os0 (og2 v (og3 v)) v := rfl
theorem run_54 : ∀ (m k : Nat) (n : Int) (v : OS), n + 60 * m ≤ 900000 → (∀ j, q2 (og5 v) j < 10) → GI n (og0 v) → ((fX5_run_54 m k v).1 = 0 ∧ (fX5_run_54 m k v).2.1 = nI (q5 (og5 v)) ∧ ∃ x, GI (n + 60 * m) x ∧ (fX5_run_54 m k v).2.2 = osH (fX4_keep (oH (os0 x v))) (os0 x v)) ∨ ((fX5_run_54 m k v).1 = 2 ∧ ∃ a b, (fX5_run_54 m k v).2.2 = os11 a (os10 b (os0 (og2 v (og3 v)) v))) := by
  intro m
  induction m with
  | zero =>
    intro k n v hn hq g
    exact Or.inl ⟨rfl, rfl, og0 v, GI_mono g (by omega), rfl⟩
  | succ m ih =>
    intro k n v hn hq g
    rw [fX5_run_54]
    split
    · exact Or.inl ⟨rfl, rfl, og0 v, GI_mono g (by omega), rfl⟩
    · split
      · rename_i c
        have hc := carry_GI g (by omega) (hq k) c
        rcases ih (k + 1) (n + 60) (os0 (fX1_carryOutIn (og0 v) (q2 (og5 v) k) (q3 (og5 v) k) (q4 (og5 v) k)) v) (by omega) hq hc with ⟨a1, a2, x, a3, a4⟩ | ⟨a1, a2⟩
        · exact Or.inl ⟨a1, a2, x, GI_mono a3 (by omega), a4⟩
        · exact Or.inr ⟨a1, a2⟩
      · exact Or.inr ⟨rfl, _, _, rfl⟩
theorem keep_eq (x : HS) (w : OS) : osH (fX4_keep (oH (os0 x (osH (fX4_prepare (oH w)) w)))) (os0 x (osH (fX4_prepare (oH w)) w)) = os0 x (remO w) := by
  unfold remO fX4_remember fX4_keep fX4_prepare
  split <;> rfl
/-- the text once read and emptied -/
def txO (w : OS) : OS := os5 (fX2_empty (og5 (os5 (fX2_read (og5 w)).2 w))) (os5 (fX2_read (og5 w)).2 w)
theorem LI_tx {n : Int} {L : List HS} {w : OS} (h : LI n L w) : LI n L (txO w) := ⟨text_OI h.1, h.2.1, h.2.2.1, h.2.2.2⟩
theorem HQ_prep {w : OS} {L : List HS} (h : HQ w L) : HQ (osH (fX4_prepare (oH w)) w) L := by
  obtain ⟨h1, h2, h3, h4⟩ := h
  refine ⟨h1, h2, h3, fun i x hx => ?_⟩
  have hi : i < L.length := (List.getElem?_eq_some_iff.mp hx).1
  show va_up (og2 w) (og3 w) (og0 w) ((og3 w + 8 - i) % 9) = x
  unfold va_up
  rw [if_neg (by omega)]
  exact h4 i x hx
theorem run_spec {n : Int} {L : List HS} {w : OS} (h : LI n L w) (hl : L.length < 8) (hn : n ≤ 800000) : ((fX5_run w).1 = 0 ∧ 0 ≤ (fX5_run w).2.1.toInt ∧ LI (n + 600) (og0 w :: L) (fX5_run w).2.2 ∧ og1 (fX5_run w).2.2 = og1 w ∧ q1 (og5 (fX5_run w).2.2) = 0 ∧ og8 (fX5_run w).2.2 = og8 w) ∨ (((fX5_run w).1 = 1 ∨ (fX5_run w).1 = 2) ∧ og0 (fX5_run w).2.2 = og0 w ∧ LI n L (fX5_run w).2.2 ∧ og1 (fX5_run w).2.2 = og1 w ∧ q1 (og5 (fX5_run w).2.2) = 0 ∧ og8 (fX5_run w).2.2 = og8 w) := by
  have ht := LI_tx h
  have hu : fX5_run w = if (fX2_read (og5 w)).1 = 0 then (1, 0, os9 (nI (q6 (og5 (txO w)))) (txO w)) else fX5_run_54 10 0 (osH (fX4_prepare (oH (txO w))) (txO w)) := rfl
  rw [hu]
  split
  · exact Or.inr ⟨Or.inl rfl, rfl, ht, rfl, rfl, rfl⟩
  · have hq := ht.1.2.2.2.2.2.1.2.2
    rcases run_54 10 0 n (osH (fX4_prepare (oH (txO w))) (txO w)) (by omega) hq.2 ht.2.1 with ⟨a1, a2, x, a3, a4⟩ | ⟨a1, a, b, a2⟩
    · refine Or.inl ⟨a1, ?_, ?_⟩
      · rw [a2]
        exact nI_nn _ (Nat.le_trans hq.1 (by decide))
      · rw [a4, keep_eq]
        exact ⟨LI_rem ht (by omega) hl (GI_mono a3 (by omega)), rfl, rfl, rfl⟩
    · refine Or.inr ⟨Or.inr a1, ?_⟩
      rw [a2]
      have e : va_up (og2 (txO w)) (og3 (txO w)) (og0 (txO w)) (og3 (txO w)) = og0 (txO w) := up_self
      have p := prep_OI ht.1
      refine ⟨e, ⟨?_, ?_, ht.2.2.1, HQ_prep ht.2.2.2⟩, rfl, rfl, rfl⟩
      · have p2 := hall_OI (x := og0 (txO w)) p ht.2.1.1
        rw [← e] at p2
        exact p2
      · show GI n (va_up (og2 (txO w)) (og3 (txO w)) (og0 (txO w)) (og3 (txO w)))
        rw [e]
        exact ht.2.1
