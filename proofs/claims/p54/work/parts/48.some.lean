/-! some(v, n) lies from 0 to n - 1 -/
theorem bm_id {x : Int} (h1 : -2147483648 ≤ x) (h2 : x < 2147483648) : x.bmod (2 ^ 32) = x := by
  rw [Int.bmod_def]
  split <;> omega
theorem rem_i {v n : Int32} (hn : 0 < n.toInt) : (v - v / n * n).toInt = v.toInt.tmod n.toInt := by
  have a1 := Int32.le_toInt v
  have a2 := Int32.toInt_lt v
  have a3 := Int32.toInt_lt n
  have hm := Int.tmod_add_mul_tdiv v.toInt n.toInt
  have hq1 : (v.toInt.tdiv n.toInt).natAbs ≤ v.toInt.natAbs := by
    rw [Int.natAbs_tdiv]
    exact Nat.div_le_self _ _
  have hb : (v.toInt.tdiv n.toInt) ≠ 2147483648 := by
    intro z
    rw [z] at hm
    have := Int.tmod_lt_of_pos v.toInt hn
    have h9 : (v.toInt.tmod n.toInt).natAbs < n.toInt.natAbs := by
      rw [Int.natAbs_tmod]
      exact Nat.mod_lt _ (by omega)
    have h8 : n.toInt * 2147483648 ≥ 2147483648 := by omega
    omega
  have e1 : (v / n).toInt = v.toInt.tdiv n.toInt := by
    rw [Int32.toInt_div]
    exact bm_id (by omega) (by omega)
  have h9 : (v.toInt.tmod n.toInt).natAbs ≤ v.toInt.natAbs := by
    rw [Int.natAbs_tmod]
    exact Nat.mod_le _ _
  have hs : v.toInt.tdiv n.toInt * n.toInt = v.toInt - v.toInt.tmod n.toInt := by
    rw [Int.mul_comm]
    omega
  have hr := Int.natAbs_tdiv v.toInt n.toInt
  have hsb : (v.toInt.tdiv n.toInt * n.toInt).natAbs ≤ v.toInt.natAbs := by
    rw [Int.natAbs_mul, hr]
    exact Nat.div_mul_le_self _ _
  have e2 : (v / n * n).toInt = v.toInt.tdiv n.toInt * n.toInt := by
    rw [Int32.toInt_mul, e1]
    refine bm_id (by omega) ?_
    rw [hs]
    by_cases c : 0 ≤ v.toInt
    · have := Int.tmod_nonneg n.toInt c
      omega
    · have h7 : (v.toInt.tdiv n.toInt * n.toInt) ≤ 0 := by
        have hneg : v.toInt.tdiv n.toInt ≤ 0 := by
          have h6 := Int.tdiv_nonneg (a := -v.toInt) (b := n.toInt) (by omega) (by omega)
          rw [Int.neg_tdiv] at h6
          omega
        exact Int.mul_nonpos_of_nonpos_of_nonneg hneg (by omega)
      omega
  rw [Int32.toInt_sub, e2, hs]
  have h5 : (v.toInt - (v.toInt - v.toInt.tmod n.toInt)) = v.toInt.tmod n.toInt := by omega
  rw [h5]
  exact bm_id (by omega) (by omega)
theorem some_in {v n : Int32} {N : Nat} (hN : n.toInt = N) (h0 : 0 < N) (h1 : N < 1000) : vp_in (fSome v n) N := by
  have hr := rem_i (v := v) (n := n) (by omega)
  have h9 : (v.toInt.tmod n.toInt).natAbs < n.toInt.natAbs := by
    rw [Int.natAbs_tmod]
    exact Nat.mod_lt _ (by omega)
  have e0 : (0 : Int32).toInt = 0 := by decide
  rw [vp_in_iff]
  unfold fSome
  split
  · rename_i c
    rw [Int32.lt_iff_toInt_lt, hr, e0] at c
    rw [Int32.toInt_add, hr, hN]
    rw [hN] at h9 c
    rw [bm_id (by omega) (by omega)]
    omega
  · rename_i c
    rw [Int32.lt_iff_toInt_lt, hr, e0] at c
    rw [hr]
    omega
