theorem ts_nf {x : Bool} (h : ¬ x = false) : x = true := by cases x <;> first | rfl | exact absurd rfl h
theorem ts_nt {x : Bool} (h : ¬ x = true) : x = false := by cases x <;> first | rfl | exact absurd rfl h
theorem ts_bit {w : Int64} {s : UInt64} {j : Nat} (hj : j < 64) (hs : s.toNat = j) : ((w.toUInt64 >>> s).toInt64 &&& 1) = 0 ↔ w.toBitVec.getLsbD j = false := by
  have e : (w.toUInt64 >>> s).toInt64.toBitVec = w.toBitVec >>> j := by
    apply BitVec.eq_of_toNat_eq
    show (w.toUInt64 >>> s).toNat = _
    rw [UInt64.toNat_shiftRight, hs, Nat.mod_eq_of_lt hj, BitVec.toNat_ushiftRight]
    rfl
  rw [← Int64.toBitVec_inj, Int64.toBitVec_and, e]
  show w.toBitVec >>> j &&& 1#64 = 0#64 ↔ _
  constructor
  · intro h
    have t := congrArg (fun x => x.getLsbD 0) h
    simpa using t
  · intro h
    apply BitVec.eq_of_getLsbD_eq
    intro i hi
    cases i with
    | zero => simp [h]
    | succ i => simp
theorem ts_or {w m : Int64} {j : Nat} (hj : j < 64) (hm : m.toBitVec = BitVec.twoPow 64 j) : (w ||| m) = w ↔ w.toBitVec.getLsbD j = true := by
  rw [← Int64.toBitVec_inj, Int64.toBitVec_or, hm]
  constructor
  · intro h
    have t := congrArg (fun x => x.getLsbD j) h
    simp only [BitVec.getLsbD_or, BitVec.getLsbD_twoPow] at t
    simpa [hj] using t.symm
  · intro h
    apply BitVec.eq_of_getLsbD_eq
    intro i hi
    rw [BitVec.getLsbD_or, BitVec.getLsbD_twoPow]
    by_cases e : j = i
    · subst e; rw [h, Bool.true_or]
    · simp [e]
theorem ts_and {w m : Int64} {j : Nat} (hj : j < 64) (hm : m.toBitVec = BitVec.twoPow 64 j) : (w &&& (m ^^^ (-1))) = w ↔ w.toBitVec.getLsbD j = false := by
  have ha : (-1 : Int64).toBitVec = BitVec.allOnes 64 := by decide
  rw [← Int64.toBitVec_inj, Int64.toBitVec_and, Int64.toBitVec_xor, hm, ha]
  constructor
  · intro h
    have t := congrArg (fun x => x.getLsbD j) h
    simp only [BitVec.getLsbD_and, BitVec.getLsbD_xor, BitVec.getLsbD_twoPow, BitVec.getLsbD_allOnes] at t
    simpa [hj] using t.symm
  · intro h
    apply BitVec.eq_of_getLsbD_eq
    intro i hi
    rw [BitVec.getLsbD_and, BitVec.getLsbD_xor, BitVec.getLsbD_twoPow, BitVec.getLsbD_allOnes]
    by_cases e : j = i
    · subst e; rw [h, Bool.false_and]
    · simp [e, hi]
/-! a cover by its bits -/
def Bt (x : Int64) (j : Nat) : Bool := x.toBitVec.getLsbD j
theorem Bt_or (x y : Int64) (j : Nat) : Bt (x ||| y) j = (Bt x j || Bt y j) := by unfold Bt; rw [Int64.toBitVec_or, BitVec.getLsbD_or]
theorem Bt_and (x y : Int64) (j : Nat) : Bt (x &&& y) j = (Bt x j && Bt y j) := by unfold Bt; rw [Int64.toBitVec_and, BitVec.getLsbD_and]
theorem Bt_ext {x y : Int64} (h : ∀ i, i < 64 → Bt x i = Bt y i) : x = y := Int64.toBitVec_inj.mp (BitVec.eq_of_getLsbD_eq (fun i hi => h i hi))
theorem Bt_0 (j : Nat) : Bt 0 j = false := BitVec.getLsbD_zero
theorem and_0 {x y : Int64} : x &&& y = 0 ↔ ∀ j, j < 64 → Bt x j = true → Bt y j = false := by
  constructor
  · intro h j _ hx
    have t := congrArg (fun z => Bt z j) h
    simp only [Bt_and, Bt_0] at t
    rw [hx] at t
    simpa using t
  · intro h
    refine Bt_ext (fun j hj => ?_)
    rw [Bt_and, Bt_0]
    cases hx : Bt x j
    · rfl
    · rw [h j hj hx]; rfl
theorem lg0 (a : Int64) : lg_cmp a 0 = 0 ↔ a = 0 := by
  unfold lg_cmp
  by_cases c : a > 0
  · rw [if_pos c]
    constructor
    · intro h; exact absurd h (by decide)
    · intro h; rw [h] at c; exact absurd c (by decide)
  · rw [if_neg c]
    by_cases d : a = 0
    · rw [if_pos d]; exact ⟨fun _ => d, fun _ => rfl⟩
    · rw [if_neg d]
      constructor
      · intro h; exact absurd h (by decide)
      · intro h; exact absurd h d
theorem ush_n : ∀ k, k < 40 → ((nI k).toInt64.toUInt64 &&& Int64.toUInt64 63).toNat = k := by decide +kernel
theorem cov_bit {x : Int64} {k : Nat} (hk : k < 40) : lg_cmp ((ush x (nI k)) &&& 1) 0 = 0 ↔ Bt x k = false := (lg0 _).trans (ts_bit (by omega) (ush_n k hk))
theorem lsh_n : ∀ k, k < 40 → (lsh 1 (nI k)).toBitVec = BitVec.twoPow 64 k := by decide +kernel
theorem Bt_lsh {k : Nat} (hk : k < 40) {j : Nat} (hj : j < 64) : Bt (lsh 1 (nI k)) j = decide (k = j) := by
  unfold Bt
  rw [lsh_n k hk, BitVec.getLsbD_twoPow]
  by_cases e : k = j
  · subst e; simp; omega
  · simp [e]
theorem vp_nI {x : Int32} {n : Nat} (h : vp_in x n) : ∃ k, k < n ∧ x = nI k ∧ x.toNatClampNeg = k := by
  have h9 := (vp_in_iff).mp h
  refine ⟨x.toNatClampNeg, ?_, ?_, rfl⟩
  · have : x.toNatClampNeg = x.toInt.toNat := rfl
    omega
  · have e : x.toNatClampNeg = x.toInt.toNat := rfl
    have hb := Int32.toInt_lt x
    refine Int32.toInt_inj.mp ?_
    show x.toInt = (nI x.toInt.toNat).toInt
    unfold nI
    rw [Int32.toInt_ofNat']
    rw [Int.toNat_of_nonneg h9.1, Int.bmod_def, show Int32.size = 4294967296 from rfl]
    split <;> omega
/-- who covers a chair -/
theorem cov_2 (u : HS) {c : Nat} (hc : c < 40) : ∀ (n k : Nat), (fX3_covererAt_2 n k u (nI c) = -1 ∧ ∀ g, k ≤ g → g < k + n → Bt (h4 u g) c = false) ∨ (∃ g, k ≤ g ∧ g < k + n ∧ fX3_covererAt_2 n k u (nI c) = nI g ∧ Bt (h4 u g) c = true) := by
  intro n
  induction n with
  | zero => intro k; exact Or.inl ⟨rfl, fun g h1 h2 => by omega⟩
  | succ n ih =>
    intro k
    rw [fX3_covererAt_2]
    by_cases b : Bt (h4 u k) c = false
    · rw [if_pos ((cov_bit hc).mpr b)]
      rcases ih (k + 1) with ⟨h1, h2⟩ | ⟨g, h1, h2, h3, h4⟩
      · refine Or.inl ⟨h1, fun g g1 g2 => ?_⟩
        by_cases e : g = k
        · subst e; exact b
        · exact h2 g (by omega) (by omega)
      · exact Or.inr ⟨g, by omega, by omega, h3, h4⟩
    · rw [if_neg (fun z => b ((cov_bit hc).mp z))]
      exact Or.inr ⟨k, Nat.le_refl _, by omega, rfl, ts_nf b⟩
theorem cov_at (u : HS) {c : Nat} (hc : c < 40) : (fX3_covererAt u (nI c) = -1 ∧ ∀ g, g < 8 → Bt (h4 u g) c = false) ∨ (∃ g, g < 8 ∧ fX3_covererAt u (nI c) = nI g ∧ Bt (h4 u g) c = true) := by
  rcases cov_2 u hc 8 0 with ⟨h1, h2⟩ | ⟨g, -, h2, h3, h4⟩
  · exact Or.inl ⟨h1, fun g hg => h2 g (Nat.zero_le _) (by omega)⟩
  · exact Or.inr ⟨g, by omega, h3, h4⟩
/-- all that is covered -/
theorem all_4 (u : HS) (c : Nat) : ∀ (n k : Nat) (y : Int64), Bt (fX3_coveredChairs_4 n k u y) c = false ↔ Bt y c = false ∧ ∀ g, k ≤ g → g < k + n → Bt (h4 u g) c = false := by
  intro n
  induction n with
  | zero => intro k y; exact ⟨fun h => ⟨h, fun g h1 h2 => by omega⟩, fun h => h.1⟩
  | succ n ih =>
    intro k y
    rw [fX3_coveredChairs_4, ih, Bt_or]
    constructor
    · intro ⟨h1, h2⟩
      have h1 := Bool.or_eq_false_iff.mp h1
      refine ⟨h1.1, fun g g1 g2 => ?_⟩
      by_cases e : g = k
      · subst e; exact h1.2
      · exact h2 g (by omega) (by omega)
    · intro ⟨h1, h2⟩
      exact ⟨Bool.or_eq_false_iff.mpr ⟨h1, h2 k (Nat.le_refl _) (by omega)⟩, fun g g1 g2 => h2 g (by omega) (by omega)⟩
theorem all_at (u : HS) (c : Nat) : Bt (fX3_coveredChairs u) c = false ↔ ∀ g, g < 8 → Bt (h4 u g) c = false := by
  unfold fX3_coveredChairs
  rw [all_4, Bt_0]
  constructor
  · intro h g hg
    exact h.2 g (Nat.zero_le _) (by omega)
  · intro h
    exact ⟨rfl, fun g _ g2 => h g (by omega)⟩
/-- what is reached is free -/
theorem reach_12 (x1 x2 x3 : Int32) (x4 : Int64) : ∀ (n k : Nat) (y5 : Int64) (y7 : Int32), y5 &&& x4 = 0 → fX3_reach_12 n k x1 x2 x3 x4 y5 y7 &&& x4 = 0 := by
  intro n
  induction n with
  | zero =>
    intro k y5 y7 h
    rw [fX3_reach_12]
    repeat' split
    all_goals exact h
  | succ n ih =>
    intro k y5 y7 h
    rw [fX3_reach_12]
    split
    · exact h
    · split
      · exact h
      · split
        · split
          · rename_i c
            refine ih _ _ _ ?_
            have c := (lg0 _).mp c
            rw [and_0] at h c ⊢
            intro j hj hx
            rw [Bt_or] at hx
            rcases Bool.or_eq_true_iff.mp hx with hx | hx
            · exact h j hj hx
            · cases e : Bt x4 j
              · rfl
              · exact absurd (c j hj e) (by rw [hx]; decide)
          · exact h
        · exact h
theorem reach_free (x1 x2 x3 : Int32) (x4 : Int64) : fX3_reach x1 x2 x3 x4 &&& x4 = 0 := by
  unfold fX3_reach
  refine reach_12 _ _ _ _ _ _ _ _ ?_
  rw [and_0]
  intro j _ h
  rw [Bt_0] at h
  cases h
