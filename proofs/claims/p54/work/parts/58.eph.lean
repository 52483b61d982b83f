/-! the first phase of the law: fixed calls -/
theorem LI_rem8 {n m : Int} {L : List HS} {w : OS} {x : HS} (h : LI n L w) (hm : n ≤ m) (hx : GI m x) : LI m ((og0 w :: L).take 8) (os0 x (remO w)) := by
  rcases Nat.lt_or_ge L.length 8 with hl | hl
  · have e : (og0 w :: L).take 8 = og0 w :: L := List.take_of_length_le (by rw [List.length_cons]; omega)
    rw [e]
    exact LI_rem h hm hl hx
  · obtain ⟨h1, h2, h3, h4⟩ := h
    refine ⟨hall_OI (remO_OI h1) hx.1, hx, fun y hy => ?_, HQ_0 (HQ_full h4 hl) x⟩
    rcases List.mem_cons.mp hy with e | e
    · subst e; exact GI_mono h2 hm
    · exact GI_mono (h3 y (List.mem_of_mem_take e)) hm
/-- the object as it is known -/
def ES (n : Int) (L : List HS) (h : HS) (w : OS) (T : CS) : Prop := LI n L w ∧ og0 w = h ∧ og1 w = Hnew ∧ og8 w = 1 ∧ og5 w = T
section ES
variable {n m : Int} {L : List HS} {h : HS} {w : OS} {T : CS}
theorem es_step {F : Nat × Int32 × OS} {r : Int32} {X : HS} (hE : ES n L h w T) (hm : n ≤ m) (hc : Chg m w F) (hF : F = (0, r, os0 X (remO w))) : ES m ((h :: L).take 8) X (os0 X (remO w)) T := by
  obtain ⟨e1, e2, e3, e4, e5⟩ := hE
  rcases hc with ⟨a, -⟩ | ⟨-, -, x, e, g⟩
  · rw [hF] at a
    exact absurd rfl a
  · rw [hF] at e
    have ex : X = x := congrArg og0 e
    rw [ex, ← e2]
    exact ⟨LI_rem8 e1 hm g, rfl, e3, e4, e5⟩
theorem es_pass {x r : Int32} (hE : ES n L h w T) (hn : n ≤ 900000) (h1 : fX3_refusalOfPass h x = 0) (h2 : (fX3_letPass h x).1 = r) : ∃ v, wrp (fX5_pass w x) = (r, v) ∧ ES (n + 60) ((h :: L).take 8) (fX3_letPass h x).2 v T := by
  have hF : fX5_pass w x = (0, r, os0 (fX3_letPass h x).2 (remO w)) := by
    unfold fX5_pass
    rw [og0_remO, hE.2.1, h1, if_pos rfl, h2]
  exact ⟨_, by rw [hF]; rfl, es_step hE (by omega) (chg_pass hE.1.2.1 hn x) hF⟩
theorem es_add {x y r : Int32} (hE : ES n L h w T) (h1 : fX3_refusalOfGuest h x y = 0) (h2 : (fX3_welcome h x y).1 = r) : ∃ v, wrp (fX5_addGuest w x y) = (r, v) ∧ ES n ((h :: L).take 8) (fX3_welcome h x y).2 v T := by
  have hF : fX5_addGuest w x y = (0, r, os0 (fX3_welcome h x y).2 (remO w)) := by
    unfold fX5_addGuest
    rw [og0_remO, hE.2.1, h1, if_neg (by decide), if_pos rfl, h2]
  exact ⟨_, by rw [hF]; rfl, es_step hE (Int.le_refl n) (chg_addGuest hE.1.2.1 x y) hF⟩
theorem es_place {x y r : Int32} (hE : ES n L h w T) (h1 : fX3_refusalOfHat h x y = 0) (h2 : (fX3_putHat h x y).1 = r) : ∃ v, wrp (fX5_placeHat w x y) = (r, v) ∧ ES n ((h :: L).take 8) (fX3_putHat h x y).2 v T := by
  have hF : fX5_placeHat w x y = (0, r, os0 (fX3_putHat h x y).2 (remO w)) := by
    unfold fX5_placeHat
    rw [og0_remO, hE.2.1, h1, if_neg (by decide), if_neg (by decide), if_pos rfl, h2]
  exact ⟨_, by rw [hF]; rfl, es_step hE (Int.le_refl n) (chg_placeHat hE.1.2.1 x y) hF⟩
theorem es_contest {x y r : Int32} (hE : ES n L h w T) (h1 : fX3_refusalOfContest h x y = 0) (h2 : (fX3_fightFor h x y).1 = r) (hr : ¬ r = 0) : ∃ v, wrb (fX5_contest w x y) = (1, v) ∧ ES n ((h :: L).take 8) (fX3_fightFor h x y).2 v T := by
  have hF : fX5_contest w x y = (0, r, os0 (fX3_fightFor h x y).2 (remO w)) := by
    unfold fX5_contest
    rw [og0_remO, hE.2.1, h1, if_neg (by decide), if_neg (by decide), if_pos rfl, h2]
  exact ⟨_, by rw [hF]; unfold wrb; rw [if_pos rfl, if_neg hr], es_step hE (Int.le_refl n) (chg_contest hE.1.2.1 x y) hF⟩
theorem es_undo {x : HS} (hE : ES n (x :: L) h w T) : ∃ v, wrp (fX5_undo w) = (nI L.length, v) ∧ ES n L x v T := by
  obtain ⟨e1, e2, e3, e4, e5⟩ := hE
  obtain ⟨u1, u2, u3, u4, u5, u6⟩ := LI_undo e1
  exact ⟨_, by rw [u1]; rfl, u3, u2, u4.trans e3, u6.trans e4, u5.trans e5⟩
theorem es_undo0 (hE : ES n [] h w T) : wrp (fX5_undo w) = (-1001, w) := by
  rw [undo_no hE.1.2.2.2]
  rfl
theorem es_restore (hE : ES n L h w T) (hn : 0 ≤ n) : ∃ v, wrp (fX5_restore w) = (fX3_countPlaced Hnew, v) ∧ ES n [] Hnew v T := by
  obtain ⟨e1, e2, e3, e4, e5⟩ := hE
  obtain ⟨r1, r2, r3, r4, r5⟩ := rest_LI e1 (by rw [e3]; exact GI_mono GI_new hn)
  exact ⟨resO w, by rw [rest_yes (by rw [e4]; decide), e3]; rfl, r1, r2.trans e3, r3.trans e3, r5.trans e4, r4.trans e5⟩
theorem es_app {x : Int32} {k : Nat} (hE : ES n L h w T) (h1 : ¬ x < 32) (h2 : x ≤ 126) (hk : q1 T = k) (h3 : k < 60) : wrp (fX5_append w x) = (nI (k + 1), appO w x) ∧ ES n L h (appO w x) (fX2_add T x).2 := by
  obtain ⟨e1, e2, e3, e4, e5⟩ := hE
  have hq : q1 (og5 w) = k := by rw [e5]; exact hk
  obtain ⟨r1, r2, r3, -, r5⟩ := app_LI (x := x) e1 (by omega)
  have ha := app_yes h1 h2 (show q1 (og5 w) < 60 by omega)
  rw [hq] at ha
  exact ⟨ha, r1, r2.trans e2, r3.trans e3, r5.trans e4, by show (fX2_add (og5 w) x).2 = _; rw [e5]⟩
theorem es_full {x : Int32} (hE : ES n L h w T) (h1 : ¬ x < 32) (h2 : x ≤ 126) (h3 : ¬ q1 T < 60) : wrp (fX5_append w x) = (-1002, w) := app_full h1 h2 (by rw [hE.2.2.2.2]; exact h3)
theorem es_run {k : Nat} (hE : ES n L h w T) (hn : n ≤ 800000) (hr : (fX2_read T).1 = 0) (hq : q6 (fX2_read T).2 = k) : ∃ v, wrp (fX5_run w) = (-1001, v) ∧ ES n L h v (fX2_empty (fX2_read T).2) ∧ og9 v = nI k := by
  obtain ⟨e1, e2, e3, e4, e5⟩ := hE
  have e := run_no (w := w) (by rw [e5]; exact hr)
  have hb : ¬ (fX5_run w).1 = 0 := by rw [e]; exact (by decide : ¬ (1 : Nat) = 0)
  obtain ⟨b1, b2, b3, b4, -⟩ := run_bad e1 hn hb
  have e6 : og5 (txO w) = fX2_empty (fX2_read T).2 := by
    show fX2_empty (fX2_read (og5 w)).2 = _
    rw [e5]
  rw [e] at b1 b2 b3 b4
  refine ⟨_, by rw [e]; rfl, ⟨b1, b2.trans e2, b3.trans e3, b4.trans e4, e6⟩, ?_⟩
  show nI (q6 (og5 (txO w))) = nI k
  rw [e6]
  show nI (q6 (fX2_read T).2) = nI k
  rw [hq]
theorem es_no8 (hE : ES n L h w T) (h1 : fX3_refusalOfGuest h 0 0 = 2) : wrp (fX5_addGuest w 0 0) = (-1002, w) := by
  unfold fX5_addGuest
  rw [hE.2.1, h1, if_neg (by decide), if_neg (by decide)]
  rfl
theorem es_isPlaced {x r : Int32} (hE : ES n L h w T) (h1 : wb (r_isPlaced h x) = r) : wrb (fX5_isPlaced w x) = (r, w) := (rd_isPlaced w x).trans (by rw [hE.2.1, h1])
theorem es_feathers {x r : Int32} (hE : ES n L h w T) (h1 : wv (r_feathers h x) = r) : wrp (fX5_feathers w x) = (r, w) := (rd_feathers w x).trans (by rw [hE.2.1, h1])
end ES
/-- the object after its snapshot -/
theorem es_0 : ES 0 [] Hnew (fX5_save Onew).2 Cnew := by
  obtain ⟨h1, -, h3, h4, h5, h6⟩ := save_LI LI_new
  exact ⟨h1, h3, h4, h6, h5⟩
def eH : Nat → HS
  | 0 => (fX3_letPass Hnew 60).2
  | k + 1 => (fX3_welcome (eH k) (nI k) 2).2
def eL : Nat → List HS
  | 0 => [Hnew]
  | k + 1 => (eH k :: eL k).take 8
def eC : Nat → CS
  | 0 => Cnew
  | k + 1 => (fX2_add (eC k) (nI (65 + k))).2
def eC1 : CS := fX2_empty (fX2_read (eC 60)).2
def eC2 : CS := (fX2_add eC1 112).2
def eC3 : CS := fX2_empty (fX2_read eC2).2
def eH9 : HS := (fX3_putHat (eH 8) 0 5).2
def eH10 : HS := (fX3_putHat eH9 1 0).2
def eH11 : HS := (fX3_fightFor eH10 7 5).2
theorem eC_len : ∀ k, k < 61 → q1 (eC k) = k := by decide +kernel
theorem eC_chr : ∀ k, k < 60 → ¬ nI (65 + k) < 32 ∧ nI (65 + k) ≤ 126 ∧ ((65 + nI k).toUInt32 % 65536).toInt32 = nI (65 + k) := by decide +kernel
set_option maxRecDepth 100000 in
theorem eC_read : (fX2_read (eC 60)).1 = 0 ∧ q6 (fX2_read (eC 60)).2 = 0 := by decide +kernel
set_option maxRecDepth 100000 in
theorem eC2_read : (fX2_read eC2).1 = 0 ∧ q6 (fX2_read eC2).2 = 1 := by decide +kernel
set_option maxRecDepth 100000 in
theorem eC1_len : q1 eC1 = 0 ∧ q1 eC2 = 1 := by decide +kernel
set_option maxRecDepth 100000 in
theorem eH_add : ∀ k, k < 8 → fX3_refusalOfGuest (eH k) (nI k) 2 = 0 ∧ (fX3_welcome (eH k) (nI k) 2).1 = nI k := by decide +kernel
set_option maxRecDepth 100000 in
theorem eH_8 : fX3_refusalOfGuest (eH 8) 0 0 = 2 ∧ fX3_refusalOfHat (eH 8) 0 5 = 0 ∧ (fX3_putHat (eH 8) 0 5).1 = 5 := by decide +kernel
set_option maxRecDepth 100000 in
theorem eH_9 : fX3_refusalOfHat eH9 1 0 = 0 ∧ (fX3_putHat eH9 1 0).1 = 3 := by decide +kernel
set_option maxRecDepth 100000 in
theorem eH_10 : fX3_refusalOfContest eH10 7 5 = 0 ∧ ¬ (fX3_fightFor eH10 7 5).1 = 0 := by decide +kernel
set_option maxRecDepth 100000 in
theorem eH_11 : wv (r_feathers eH11 7) = 7 ∧ wb (r_isPlaced eH11 0) = 0 := by decide +kernel
set_option maxRecDepth 100000 in
theorem eH_u : wb (r_isPlaced eH10 0) = 1 ∧ h14 eH10 = 0 ∧ wb (r_isPlaced eH9 1) = 0 ∧ h9 (eH 7) = 7 ∧ h9 (eH 3) = 3 := by decide +kernel
set_option maxRecDepth 100000 in
theorem eH_c : ∀ w : OS, og0 w = eH 8 → fX5_coveredCount w = 0 := by
  intro w hw
  unfold fX5_coveredCount
  rw [hw]
  decide +kernel
theorem eL_11 : ((eH10 :: ((eH9 :: ((eH 8 :: eL 8).take 8)).take 8)).take 8) = [eH10, eH9, eH 8, eH 7, eH 6, eH 5, eH 4, eH 3] := rfl
