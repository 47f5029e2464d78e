theorem q_forged_t {j : Nat} {σ τ : St} (h : R j σ τ) (hj : j < 512) (a0 a1 a2 a3 a4 a5 : Int32) : (f_X3_forged σ a0 a1 a2 a3 a4 a5).1 = (f_X4_forged τ a0 a1 a2 a3 a4 a5).1 ∧ R (j + 1) (f_X3_forged σ a0 a1 a2 a3 a4 a5).2 (f_X4_forged τ a0 a1 a2 a3 a4 a5).2 := by
  unfold f_X3_forged f_X4_forged
  by_cases g1 : f_X4_areTwo τ a0 a1 = 0
  · rw [if_pos ((R_two h).mpr g1), if_pos g1]; exact Q_refused h _
  rw [if_neg (fun q => g1 ((R_two h).mp q)), if_neg g1]
  have ht := areTwo_n.mp g1
  have l2 := l2_toInt a5
  have lb5 := lb a5
  rcases R_span h (k := a2) (lane := a3) (i := a4) (n := 2 * a5.toInt64) (by omega) with ⟨ex, ey⟩ | ⟨n1, n2, n3, v, v1, v2⟩
  case inr =>
    rw [if_neg n1, if_neg n2]
    refine ⟨n3, ?_⟩
    show R (j + 1) (f_X3_spanRefusal σ a2 a3 a4 (2 * a5.toInt64)).2 (f_X4_barred τ a2 a3 a4 (2 * a5.toInt64)).2
    rw [v1, v2]
    exact R_up (R_fault h v)
  have z : (f_X3_spanRefusal σ a2 a3 a4 (2 * a5.toInt64)).1 = 0 := by rw [ex]
  obtain ⟨hk, p1, p2, p3⟩ := sp_z z
  have has := sp_has z
  rw [ex, ey]
  dsimp only
  rw [if_pos (show (0 : Int32) = 0 from rfl), if_pos (show (0 : Int32) ≤ 0 by decide)]
  sorry
