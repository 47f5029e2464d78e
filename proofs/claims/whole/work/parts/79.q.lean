/-! still to be shown -/
theorem q_register {j : Nat} {σ τ : St} (h : R j σ τ) (hj : j < 512) (a0 a1 a2 a3 : Int32) : (f_X3_register σ a0 a1 a2 a3).1 = (f_X4_register τ a0 a1 a2 a3).1 ∧ R (j + 1) (f_X3_register σ a0 a1 a2 a3).2 (f_X4_register τ a0 a1 a2 a3).2 := sorry
theorem q_fresh {j : Nat} {σ τ : St} (h : R j σ τ) (hj : j < 512) (a0 : Int32) : (f_X3_fresh σ a0).1 = (f_X4_fresh τ a0) ∧ R (j + 1) (f_X3_fresh σ a0).2 τ := sorry
theorem q_forged {j : Nat} {σ τ : St} (h : R j σ τ) (hj : j < 512) (a0 a1 a2 a3 a4 a5 : Int32) : (f_X3_forged σ a0 a1 a2 a3 a4 a5).1 = (f_X4_forged τ a0 a1 a2 a3 a4 a5).1 ∧ R (j + 1) (f_X3_forged σ a0 a1 a2 a3 a4 a5).2 (f_X4_forged τ a0 a1 a2 a3 a4 a5).2 := sorry
