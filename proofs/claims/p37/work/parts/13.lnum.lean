/-! numbers of the law -/
theorem fd_each {h k : Int32} (hh : 1 ≤ h.toInt ∧ h.toInt ≤ 9) (hk : 0 ≤ k.toInt ∧ k.toInt ≤ 2) : (h * (1 + k)).toInt = h.toInt * (1 + k.toInt) ∧ 1 ≤ (h * (1 + k)).toInt ∧ (h * (1 + k)).toInt ≤ 27 := by
  have z1 : (1 : Int32).toInt = 1 := by decide
  have e := a_toInt (a := 1) (b := k) (by omega) (by omega)
  rcases (show k.toInt = 0 ∨ k.toInt = 1 ∨ k.toInt = 2 by omega) with q | q | q
  · rw [mk_toInt (a := h) (k := 1 + k) (z := 1) (by omega) (by omega) (by omega), q]
    omega
  · rw [mk_toInt (a := h) (k := 1 + k) (z := 2) (by omega) (by omega) (by omega), q]
    omega
  · rw [mk_toInt (a := h) (k := 1 + k) (z := 3) (by omega) (by omega) (by omega), q]
    omega
theorem and_pred_tab : ∀ a : Nat, a < 1025 → a ≠ 0 → 0 ≤ (nI a &&& (nI a - 1)).toInt ∧ (nI a &&& (nI a - 1)).toInt < (nI a).toInt := by decide +kernel
theorem and_pred {a : Int32} (h0 : 0 < a.toInt) (h : a.toInt ≤ 1024) : 0 ≤ (a &&& (a - 1)).toInt ∧ (a &&& (a - 1)).toInt < a.toInt := by
  have e := ix_toInt (x := a) (by omega)
  have q := and_pred_tab (ix a) (by omega) (by omega)
  rw [← nI_ix (by omega)] at q
  exact q
theorem ediv_b {a b : Int} (ha : 0 ≤ a) (hb : 0 < b) : 0 ≤ a / b * b ∧ a / b * b ≤ a ∧ a - a / b * b < b ∧ 0 ≤ a / b ∧ a / b ≤ a := by
  have h1 := Int.ediv_mul_le a (Int.ne_of_gt hb)
  have h2 := Int.lt_ediv_add_one_mul_self a hb
  have h3 := Int.ediv_nonneg ha (Int.le_of_lt hb)
  have h4 : (a / b + 1) * b = a / b * b + b := by rw [Int.add_mul, Int.one_mul]
  have h5 := Int.mul_nonneg h3 (Int.le_of_lt hb)
  have h6 := Int.ediv_le_self b ha
  exact ⟨h5, h1, by omega, h3, h6⟩
theorem irem_toInt {a b : Int32} (h0 : 0 ≤ a.toInt) (h1 : 0 < b.toInt) : (a - a / b * b).toInt = a.toInt % b.toInt := by
  have h2 := dv_toInt h0 h1
  have h3 := ediv_b h0 h1
  have h4 := lb a
  have h5 := x_toInt (a := a / b) (b := b) (by rw [h2]; omega) (by rw [h2]; omega)
  rw [s_toInt (by rw [h5, h2]; omega) (by rw [h5, h2]; omega), h5, h2]
  have h6 := Int.emod_def a.toInt b.toInt
  rw [Int.mul_comm] at h6
  omega
theorem rem_bd {a b : Int32} (h0 : 0 ≤ a.toInt) (h1 : 0 < b.toInt) : 0 ≤ (a - a / b * b).toInt ∧ (a - a / b * b).toInt < b.toInt := by
  rw [irem_toInt h0 h1]
  exact ⟨Int.emod_nonneg _ (by omega), Int.emod_lt_of_pos _ h1⟩
theorem and_max (v : Int32) : 0 ≤ (v &&& 2147483647).toInt := by
  obtain ⟨j, hj, e⟩ := pk_andE v (m := 2147483647) 31 (by decide)
  rw [e, nI_toInt hj]
  omega
