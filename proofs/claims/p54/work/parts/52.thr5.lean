/-! the runs of thrown -/
def lawB : List (List Int32) := [[112, 97, 115, 115, 32, 53, 59, 108, 105, 102, 116, 32], [115, 119, 101, 101, 112, 32, 50, 48, 59, 104, 97, 116, 32], [32, 53], [113], [112, 97, 115, 115, 32, 49, 59, 112, 97, 115, 115, 32, 50, 59, 108, 105, 102, 116, 32, 57], [112, 97, 115, 115, 32, 54, 48, 59, 112, 97, 115, 115, 32, 57, 57]]
def lawN (i : Nat) : Nat := (lawB.getD i []).length
def lawF (i j : Nat) : Int32 := (lawB.getD i []).getD j 0
def addK (tf : Nat → Int32) : Nat → CS → CS
  | 0, T => T
  | k + 1, T => (fX2_add (addK tf k T) (tf k &&& 255)).2
theorem og5_appK (tf : Nat → Int32) (u : OS) : ∀ k, og5 (appK tf k u) = addK tf k (og5 u) := by
  intro k
  induction k with
  | zero => rfl
  | succ k ih =>
    show (fX2_add (og5 (appK tf k u)) (tf k &&& 255)).2 = (fX2_add (addK tf k (og5 u)) (tf k &&& 255)).2
    rw [ih]
theorem og9_appK (tf : Nat → Int32) (u : OS) : ∀ k, og9 (appK tf k u) = og9 u := by
  intro k
  induction k with
  | zero => rfl
  | succ k ih => exact ih
theorem okT_law : ∀ i, i < 6 → okT (lawN i) (lawF i) := by
  have h : ∀ i, i < 6 → lawN i ≤ 60 ∧ ∀ k, k < lawN i → ¬ (lawF i k &&& 255) < 32 ∧ (lawF i k &&& 255) ≤ 126 := by decide +kernel
  exact h
def Ta : CS := addK (lawF 3) 1 Cnew
def Tb : CS := fX2_empty (fX2_read Ta).2
def Tc : CS := addK (lawF 4) 20 Tb
def Td : CS := fX2_empty (fX2_read Tc).2
def Te : CS := addK (lawF 5) 15 Td
def Tf : CS := fX2_empty (fX2_read Te).2
set_option maxRecDepth 100000 in
theorem rdA : (fX2_read Ta).1 = 0 ∧ q6 (fX2_read Ta).2 = 0 := by decide +kernel
set_option maxRecDepth 100000 in
theorem rdC : ¬ (fX2_read Tc).1 = 0 ∧ q5 (fX2_read Tc).2 = 3 ∧ q2 (fX2_read Tc).2 0 = 7 ∧ q3 (fX2_read Tc).2 0 = 1 ∧ q2 (fX2_read Tc).2 1 = 7 ∧ q3 (fX2_read Tc).2 1 = 2 ∧ q2 (fX2_read Tc).2 2 = 2 ∧ q3 (fX2_read Tc).2 2 = 9 := by decide +kernel
set_option maxRecDepth 100000 in
theorem rdE : ¬ (fX2_read Te).1 = 0 ∧ q5 (fX2_read Te).2 = 2 ∧ q2 (fX2_read Te).2 0 = 7 ∧ q3 (fX2_read Te).2 0 = 60 ∧ q2 (fX2_read Te).2 1 = 7 ∧ q3 (fX2_read Te).2 1 = 99 := by decide +kernel
theorem run_bad {n : Int} {L : List HS} {w : OS} (h : LI n L w) (hn : n ≤ 800000) (hb : ¬ (fX5_run w).1 = 0) : LI n L (fX5_run w).2.2 ∧ og0 (fX5_run w).2.2 = og0 w ∧ og1 (fX5_run w).2.2 = og1 w ∧ og8 (fX5_run w).2.2 = og8 w ∧ q1 (og5 (fX5_run w).2.2) = 0 := by
  have ht := LI_tx h
  have hu : fX5_run w = if (fX2_read (og5 w)).1 = 0 then (1, 0, os9 (nI (q6 (og5 (txO w)))) (txO w)) else fX5_run_54 10 0 (osH (fX4_prepare (oH (txO w))) (txO w)) := rfl
  rw [hu] at hb ⊢
  split
  · exact ⟨ht, rfl, rfl, rfl, rfl⟩
  · rename_i c
    rw [if_neg c] at hb
    have hq := ht.1.2.2.2.2.2.1.2.2
    rcases run_54 10 0 n (osH (fX4_prepare (oH (txO w))) (txO w)) (by omega) hq.2 ht.2.1 with ⟨a1, -⟩ | ⟨a1, a, b, a2⟩
    · exact absurd a1 hb
    · rw [a2]
      have e : va_up (og2 (txO w)) (og3 (txO w)) (og0 (txO w)) (og3 (txO w)) = og0 (txO w) := up_self
      have p := prep_OI ht.1
      refine ⟨⟨?_, ?_, ht.2.2.1, HQ_prep ht.2.2.2⟩, e, rfl, rfl, rfl⟩
      · have p2 := hall_OI (x := og0 (txO w)) p ht.2.1.1
        rw [← e] at p2
        exact p2
      · show GI n (va_up (og2 (txO w)) (og3 (txO w)) (og0 (txO w)) (og3 (txO w)))
        rw [e]
        exact ht.2.1
theorem run_no {w : OS} (h : (fX2_read (og5 w)).1 = 0) : fX5_run w = (1, 0, os9 (nI (q6 (og5 (txO w)))) (txO w)) := by
  have hu : fX5_run w = if (fX2_read (og5 w)).1 = 0 then (1, 0, os9 (nI (q6 (og5 (txO w)))) (txO w)) else fX5_run_54 10 0 (osH (fX4_prepare (oH (txO w))) (txO w)) := rfl
  rw [hu, if_pos h]
def prO (w : OS) : OS := osH (fX4_prepare (oH w)) w
theorem run_go {w : OS} (h : ¬ (fX2_read (og5 w)).1 = 0) : fX5_run w = fX5_run_54 10 0 (prO (txO w)) := by
  have hu : fX5_run w = if (fX2_read (og5 w)).1 = 0 then (1, 0, os9 (nI (q6 (og5 (txO w)))) (txO w)) else fX5_run_54 10 0 (osH (fX4_prepare (oH (txO w))) (txO w)) := rfl
  rw [hu, if_neg h]
  rfl
theorem run_st {n k : Nat} {v : OS} {c : Nat} {x : Int32} (hq : ¬ q5 (og5 v) ≤ k) (hc : q2 (og5 v) k = c) (hx : q3 (og5 v) k = x) (h : ∀ y, fX1_refusalIn (og0 v) c x y = 0) : ∃ y, fX5_run_54 (n + 1) k v = fX5_run_54 n (k + 1) (os0 (fX1_carryOutIn (og0 v) c x y) v) := by
  refine ⟨q4 (og5 v) k, ?_⟩
  rw [fX5_run_54, if_neg hq, hc, hx, if_pos (h _)]
theorem run_sp {n k : Nat} {v : OS} {c : Nat} {x r : Int32} (hq : ¬ q5 (og5 v) ≤ k) (hc : q2 (og5 v) k = c) (hx : q3 (og5 v) k = x) (h : ∀ y, fX1_refusalIn (og0 v) c x y = r) (hr : ¬ r = 0) : fX5_run_54 (n + 1) k v = (2, 0, os11 r (os10 (nI k) (osH (fX4_takeBack (oH v)) v))) := by
  rw [fX5_run_54, if_neg hq, hc, hx, h, if_neg hr]
theorem rp_v (u : HS) (x : Int32) (h1 : ¬ x < 1) (h2 : x ≤ 60) : ∀ y, fX1_refusalIn u 7 x y = 0 := by
  intro y
  rw [ri_7]
  unfold fX3_refusalOfPass
  rw [if_neg h1, if_pos h2]
theorem rp_x (u : HS) (x : Int32) (h1 : ¬ x < 1) (h2 : ¬ x ≤ 60) : ∀ y, fX1_refusalIn u 7 x y = 1 := by
  intro y
  rw [ri_7]
  unfold fX3_refusalOfPass
  rw [if_neg h1, if_neg h2]
theorem h9_pass (u : HS) (x y : Int32) : h9 (fX1_carryOutIn u 7 x y) = h9 u := by
  rw [show fX1_carryOutIn u 7 x y = (fX3_letPass u x).2 by unfold fX1_carryOutIn; rfl]
  rfl
theorem lift_9 {u : HS} {N : Nat} (hN : h9 u = nI N) (h8 : N ≤ 8) : ∀ y, fX1_refusalIn u 2 9 y = 1 := by
  intro y
  rw [ri_2]
  unfold fX3_refusalWithoutHat
  refine if_pos ?_
  unfold fX3_hasGuest
  rw [if_neg (by decide), if_pos]
  rw [hN]
  exact nI_le (b := 9) (by omega) (by decide)
section RUNS
variable {n : Int} {L : List HS} {u : OS}
theorem thr_q (h : LI n L u) (hn : n ≤ 800000) (h5 : og5 u = Cnew) : ∃ v, wrp (fX5_run (appK (lawF 3) (lawN 3) u)) = (-1001, v) ∧ LI n L v ∧ og0 v = og0 u ∧ og1 v = og1 u ∧ og8 v = og8 u ∧ og5 v = Tb ∧ og9 v = 0 := by
  obtain ⟨a1, a2, a3, -, a5⟩ := appK_LI (lawF 3) h (by rw [h5]; rfl) (lawN 3) (by decide)
  have e5 : og5 (appK (lawF 3) (lawN 3) u) = Ta := by rw [og5_appK, h5]; rfl
  have hr : (fX2_read (og5 (appK (lawF 3) (lawN 3) u))).1 = 0 := by rw [e5]; exact rdA.1
  have e := run_no hr
  have hb : ¬ (fX5_run (appK (lawF 3) (lawN 3) u)).1 = 0 := by rw [e]; exact (by decide : ¬ (1 : Nat) = 0)
  obtain ⟨b1, b2, b3, b4, -⟩ := run_bad a1 hn hb
  have e6 : og5 (txO (appK (lawF 3) (lawN 3) u)) = Tb := by
    show fX2_empty (fX2_read (og5 (appK (lawF 3) (lawN 3) u))).2 = Tb
    rw [e5]
    rfl
  rw [e] at b1 b2 b3 b4
  refine ⟨_, by rw [e]; rfl, b1, b2.trans a2, b3.trans a3, b4.trans a5, e6, ?_⟩
  show nI (q6 (og5 (txO (appK (lawF 3) (lawN 3) u)))) = 0
  rw [e6]
  show nI (q6 (fX2_read Ta).2) = 0
  rw [rdA.2]
  rfl
theorem thr_p (h : LI n L u) (hn : n ≤ 800000) (h5 : og5 u = Tb) : ∃ v, wrp (fX5_run (appK (lawF 4) (lawN 4) u)) = (-1002, v) ∧ LI n L v ∧ og0 v = og0 u ∧ og1 v = og1 u ∧ og8 v = og8 u ∧ og5 v = Td ∧ og9 v = og9 u ∧ og10 v = 2 ∧ og11 v = 1 := by
  obtain ⟨a1, a2, a3, -, a5⟩ := appK_LI (lawF 4) h (by rw [h5]; rfl) (lawN 4) (by decide)
  have a9 := og9_appK (lawF 4) u (lawN 4)
  have e5 : og5 (appK (lawF 4) (lawN 4) u) = Tc := by rw [og5_appK, h5]; rfl
  generalize appK (lawF 4) (lawN 4) u = w at a1 a2 a3 a5 a9 e5 ⊢
  have hr : ¬ (fX2_read (og5 w)).1 = 0 := by rw [e5]; exact rdC.1
  have e := run_go hr
  have e6 : og5 (prO (txO w)) = Td := by
    show fX2_empty (fX2_read (og5 w)).2 = Td
    rw [e5]
    rfl
  obtain ⟨-, c1, c2, c3, c4, c5, c6, c7⟩ := rdC
  have c1 : q5 (og5 (prO (txO w))) = 3 := by rw [e6]; exact c1
  have c2 : q2 (og5 (prO (txO w))) 0 = 7 := by rw [e6]; exact c2
  have c3 : q3 (og5 (prO (txO w))) 0 = 1 := by rw [e6]; exact c3
  have c4 : q2 (og5 (prO (txO w))) 1 = 7 := by rw [e6]; exact c4
  have c5 : q3 (og5 (prO (txO w))) 1 = 2 := by rw [e6]; exact c5
  have c6 : q2 (og5 (prO (txO w))) 2 = 2 := by rw [e6]; exact c6
  have c7 : q3 (og5 (prO (txO w))) 2 = 9 := by rw [e6]; exact c7
  have z9 : og9 (prO (txO w)) = og9 w := rfl
  generalize hp : prO (txO w) = p at c1 c2 c3 c4 c5 c6 c7 e e6 z9
  obtain ⟨N, h8, hN⟩ := HI_N a1.2.1.1
  have hN : h9 (og0 p) = nI N := by rw [← hp]; exact hN
  obtain ⟨y1, r1⟩ := run_st (n := 9) (k := 0) (v := p) (by rw [c1]; decide) c2 c3 (rp_v _ 1 (by decide) (by decide))
  obtain ⟨y2, r2⟩ := run_st (n := 8) (k := 1) (v := os0 (fX1_carryOutIn (og0 p) 7 1 y1) p) (by show ¬ q5 (og5 p) ≤ 1; rw [c1]; decide) c4 c5 (rp_v _ 2 (by decide) (by decide))
  have hN2 : h9 (fX1_carryOutIn (fX1_carryOutIn (og0 p) 7 1 y1) 7 2 y2) = nI N := by rw [h9_pass, h9_pass]; exact hN
  have r3 := run_sp (n := 7) (k := 2) (v := os0 (fX1_carryOutIn (fX1_carryOutIn (og0 p) 7 1 y1) 7 2 y2) (os0 (fX1_carryOutIn (og0 p) 7 1 y1) p)) (by show ¬ q5 (og5 p) ≤ 2; rw [c1]; decide) c6 c7 (lift_9 hN2 h8) (by decide)
  have e9 := ((e.trans r1).trans r2).trans r3
  have hb : ¬ (fX5_run w).1 = 0 := by rw [e9]; exact (by decide : ¬ (2 : Nat) = 0)
  obtain ⟨b1, b2, b3, b4, -⟩ := run_bad a1 hn hb
  rw [e9] at b1 b2 b3 b4
  exact ⟨_, by rw [e9]; rfl, b1, b2.trans a2, b3.trans a3, b4.trans a5, e6, z9.trans a9, rfl, rfl⟩
theorem thr_r (h : LI n L u) (hn : n ≤ 800000) (h5 : og5 u = Td) : ∃ v, wrp (fX5_run (appK (lawF 5) (lawN 5) u)) = (-1002, v) ∧ LI n L v ∧ og0 v = og0 u ∧ og1 v = og1 u ∧ og8 v = og8 u ∧ q1 (og5 v) = 0 ∧ og9 v = og9 u ∧ og10 v = 1 := by
  obtain ⟨a1, a2, a3, -, a5⟩ := appK_LI (lawF 5) h (by rw [h5]; rfl) (lawN 5) (by decide)
  have a9 := og9_appK (lawF 5) u (lawN 5)
  have e5 : og5 (appK (lawF 5) (lawN 5) u) = Te := by rw [og5_appK, h5]; rfl
  generalize appK (lawF 5) (lawN 5) u = w at a1 a2 a3 a5 a9 e5 ⊢
  have hr : ¬ (fX2_read (og5 w)).1 = 0 := by rw [e5]; exact rdE.1
  have e := run_go hr
  have e6 : og5 (prO (txO w)) = Tf := by
    show fX2_empty (fX2_read (og5 w)).2 = Tf
    rw [e5]
    rfl
  obtain ⟨-, c1, c2, c3, c4, c5⟩ := rdE
  have c1 : q5 (og5 (prO (txO w))) = 2 := by rw [e6]; exact c1
  have c2 : q2 (og5 (prO (txO w))) 0 = 7 := by rw [e6]; exact c2
  have c3 : q3 (og5 (prO (txO w))) 0 = 60 := by rw [e6]; exact c3
  have c4 : q2 (og5 (prO (txO w))) 1 = 7 := by rw [e6]; exact c4
  have c5 : q3 (og5 (prO (txO w))) 1 = 99 := by rw [e6]; exact c5
  have z9 : og9 (prO (txO w)) = og9 w := rfl
  generalize hp : prO (txO w) = p at c1 c2 c3 c4 c5 e e6 z9
  obtain ⟨y1, r1⟩ := run_st (n := 9) (k := 0) (v := p) (by rw [c1]; decide) c2 c3 (rp_v _ 60 (by decide) (by decide))
  have r3 := run_sp (n := 8) (k := 1) (v := os0 (fX1_carryOutIn (og0 p) 7 60 y1) p) (by show ¬ q5 (og5 p) ≤ 1; rw [c1]; decide) c4 c5 (rp_x _ 99 (by decide) (by decide)) (by decide)
  have e9 := (e.trans r1).trans r3
  have hb : ¬ (fX5_run w).1 = 0 := by rw [e9]; exact (by decide : ¬ (2 : Nat) = 0)
  obtain ⟨b1, b2, b3, b4, b5⟩ := run_bad a1 hn hb
  rw [e9] at b1 b2 b3 b4 b5
  exact ⟨_, by rw [e9]; rfl, b1, b2.trans a2, b3.trans a3, b4.trans a5, b5, z9.trans a9, rfl⟩
theorem ep_at {x : Int32} (h : og9 u = x) (hx : ¬ x = -1) : wrp (fX5_errorPosition u) = (x, u) := by
  unfold fX5_errorPosition
  rw [h, if_neg hx]
  rfl
theorem fc_at {x : Int32} (h : og10 u = x) (hx : ¬ x = -1) : wrp (fX5_failedCommand u) = (x, u) := by
  unfold fX5_failedCommand
  rw [h, if_neg hx]
  rfl
theorem fe_at {x : Int32} (h : og11 u = x) (hx : ¬ x = -1) : wrp (fX5_failedException u) = (x, u) := by
  unfold fX5_failedException
  rw [h, if_neg hx]
  rfl
theorem y_line (h : OI u) : wrp (fX5_lineAt u 10) = (-1001, u) ∧ ¬ (10 : Int32) < nI (og7 u) := by
  have h7 := h.2.2.2.2.2.2
  have hc : ¬ (10 : Int32) < nI (og7 u) := nI_nlt (a := 10) h7 (by decide)
  refine ⟨?_, hc⟩
  unfold fX5_lineAt
  rw [if_neg (by decide), if_neg hc]
  rfl
end RUNS
