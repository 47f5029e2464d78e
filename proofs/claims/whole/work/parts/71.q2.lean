/-! more calls, in step -/
section REL2
variable {j : Nat} {σ τ : St}
theorem ix_9 {a b : Int32} (ha : 0 ≤ a.toInt ∧ a.toInt < 8) (hb : 0 ≤ b.toInt ∧ b.toInt < 9) : ix (9 * a + b) = 9 * ix a + ix b := by
  have e1 := km_toInt (a := a) (k := 9) (z := 9) (by decide) (by omega) (by omega)
  have e2 := a_toInt (a := 9 * a) (b := b) (by omega) (by omega)
  have e3 := ix_toInt (x := 9 * a + b) (by omega)
  have e4 := ix_toInt ha.1
  have e5 := ix_toInt hb.1
  omega
theorem R_Rsign (h : R j σ τ) {x : Int32} (hx : 0 ≤ x.toInt ∧ x.toInt < (τ 0 1).toInt) : Rsign σ τ (ix x) := h.2.2.2.2.2.1 (ix x) (by have := ix_toInt hx.1; omega)
theorem R_x8 (h : R j σ τ) {x : Int32} (hx : 0 ≤ x.toInt ∧ x.toInt < (τ 0 1).toInt) : 0 ≤ x.toInt ∧ x.toInt < 8 := by have := h.2.1.1; omega
theorem R_strong (h : R j σ τ) {x m : Int32} (hx : 0 ≤ x.toInt ∧ x.toInt < (τ 0 1).toInt) (hm : 0 ≤ m.toInt ∧ m.toInt < 9) : f_X4_strong τ x m = σ (25 + ix x) (ix m) ∧ 0 ≤ (σ (25 + ix x) (ix m)).toInt ∧ (σ (25 + ix x) (ix m)).toInt ≤ 9 := by
  have e := (R_Rsign h hx).2.2.2 (ix m) (by have := ix_toInt hm.1; omega)
  have e2 : f_X4_strong τ x m = σ (25 + ix x) (ix m) := by
    unfold f_X4_strong
    rw [ix_9 (R_x8 h hx) hm, e.1]
  rw [← e.1] at e
  exact ⟨e2, e.2⟩
theorem R_kind (h : R j σ τ) {x : Int32} (hx : 0 ≤ x.toInt ∧ x.toInt < (τ 0 1).toInt) : σ (17 + ix x) 0 = τ 1 (ix x) := (R_Rsign h hx).1
theorem R_kinds (h : R j σ τ) {x : Int32} (hx : 0 ≤ x.toInt ∧ x.toInt < (τ 0 1).toInt) : τ 1 (ix x) = 0 ∨ τ 1 (ix x) = 1 ∨ τ 1 (ix x) = 2 := by
  have e := (R_Rsign h hx).2.1
  have z0 : (0 : Int32).toInt = 0 := by decide
  have z1 : (1 : Int32).toInt = 1 := by decide
  have z2 : (2 : Int32).toInt = 2 := by decide
  rcases (show (τ 1 (ix x)).toInt = 0 ∨ (τ 1 (ix x)).toInt = 1 ∨ (τ 1 (ix x)).toInt = 2 by omega) with q | q | q
  · exact Or.inl (qm_eq (by omega))
  · exact Or.inr (Or.inl (qm_eq (by omega)))
  · exact Or.inr (Or.inr (qm_eq (by omega)))
theorem q_ofSign (h : R j σ τ) (hj : j < 512) (a0 a1 : Int32) : (f_X3_ofSign σ a0 a1) = (f_X4_ofSign τ a0 a1) ∧ R (j + 1) σ τ := by
  refine ⟨?_, R_up h⟩
  unfold f_X3_ofSign f_X4_ofSign
  by_cases g : f_X4_noSign τ a0 = 0
  case neg => rw [if_pos ((R_sign h).mpr g), if_neg g]
  rw [if_neg (fun q => (R_sign h).mp q g), if_pos g]
  have v := noSign_z.mp g
  have z_1 : (-1 : Int32).toInt = -1 := by decide
  have z9 : (9 : Int32).toInt = 9 := by decide
  have z0 : (0 : Int32).toInt = 0 := by decide
  by_cases w : a1 = -1
  · have ew := qt_eq w
    rw [if_neg (qm_nlt (by omega)), if_pos (qm_lt (by omega)), if_neg (qm_nle (by omega)), if_pos w]
    exact R_kind h v
  rw [if_neg w]
  have w' := qt_ne w
  by_cases w2 : 0 ≤ a1.toInt ∧ a1.toInt < 9
  · rw [if_neg (qm_nlt (by omega)), if_pos (qm_lt (by omega)), if_pos (qm_le (by omega)), if_pos (noSmell_z.mpr w2)]
    exact (R_strong h v w2).1.symm
  · rw [if_neg (fun q => w2 (noSmell_z.mp q))]
    by_cases w3 : a1 < -1
    · rw [if_pos w3]
    · have := qt_nlt w3
      rw [if_neg w3, if_neg (qm_nlt (by omega))]
theorem R_leave (h : R j σ τ) (v : Int32) : R j (f_X3_leaveTrace σ v) (f_X4_traced τ v) := by
  unfold f_X3_leaveTrace f_X4_traced
  rw [h.2.2.1.2.2.2.2.1]
  exact R_trace h _
theorem q_stop (h : R j σ τ) (hj : j < 512) (a0 : Int32) : (f_X3_stop σ a0).1 = (f_X4_stop τ a0).1 ∧ R (j + 1) (f_X3_stop σ a0).2 (f_X4_stop τ a0).2 := by
  unfold f_X3_stop f_X4_stop
  by_cases g : f_X4_noSign τ a0 = 0
  case neg => rw [if_pos ((R_sign h).mpr g), if_neg g]; exact ⟨rfl, R_up h⟩
  rw [if_neg (fun q => (R_sign h).mp q g), if_pos g, R_kind h (noSign_z.mp g)]
  have e : ∀ v, f_X4_traced τ v 1 (ix a0) = τ 1 (ix a0) := fun v => by unfold f_X4_traced; rw [u2_nc (by omega)]
  rw [e]
  by_cases w : τ 1 (ix a0) = 2
  · rw [if_pos w, if_pos w, if_pos w]; exact ⟨rfl, R_up (R_leave h 5)⟩
  · rw [if_neg w, if_neg w, if_neg w]; exact ⟨rfl, R_up (R_leave h 4)⟩
theorem Q_refused (h : R j σ τ) (v : Int32) : (f_X3_refused σ v).1 = (f_X4_refused τ v).1 ∧ R (j + 1) (f_X3_refused σ v).2 (f_X4_refused τ v).2 := ⟨rfl, R_up (R_fault h 0)⟩
theorem Q_failed (h : R j σ τ) (v : Int32) : (f_X3_faulted σ v).1 = (f_X4_failed τ v).1 ∧ R (j + 1) (f_X3_faulted σ v).2 (f_X4_failed τ v).2 := ⟨rfl, R_up (R_fault h v)⟩
theorem q_as (h : R j σ τ) (hj : j < 512) (a0 a1 : Int32) : (f_X3_as σ a0 a1).1 = (f_X4_as τ a0 a1).1 ∧ R (j + 1) (f_X3_as σ a0 a1).2 (f_X4_as τ a0 a1).2 := by
  unfold f_X3_as f_X4_as
  by_cases g : f_X4_noSign τ a0 = 0
  case neg => rw [if_pos ((R_sign h).mpr g), if_neg g]; exact Q_refused h _
  rw [if_neg (fun q => (R_sign h).mp q g), if_pos g, R_kind h (noSign_z.mp g)]
  have z0 : (0 : Int32).toInt = 0 := by decide
  have z3 : (3 : Int32).toInt = 3 := by decide
  by_cases w : 0 ≤ a1.toInt ∧ a1.toInt ≤ 2
  case neg =>
    rw [if_pos (in_n w (by decide) (by decide))]
    by_cases w1 : a1 < 0
    · rw [if_pos w1]; exact Q_refused h _
    · have := qt_nlt w1
      rw [if_neg w1, if_neg (qm_nlt (by omega))]; exact Q_refused h _
  rw [if_neg (in_p w (by decide) (by decide)), if_neg (qm_nlt (by omega)), if_pos (qm_lt (by omega))]
  by_cases w2 : τ 1 (ix a0) < a1
  · have := qt_lt w2
    rw [if_pos w2, if_neg (qm_nle (by omega))]; exact Q_failed h _
  · have := qt_nlt w2
    rw [if_neg w2, if_pos (qm_le (by omega))]; exact Q_refused h 1
theorem q_tell (h : R j σ τ) (hj : j < 512) (a0 : Int32) : (f_X3_tell σ a0).1 = (f_X4_tell τ a0).1 ∧ R (j + 1) (f_X3_tell σ a0).2 (f_X4_tell τ a0).2 := by
  unfold f_X3_tell f_X4_tell
  by_cases g : f_X4_noSign τ a0 = 0
  case neg => rw [if_pos ((R_sign h).mpr g), if_neg g]; exact ⟨rfl, R_up h⟩
  have v := noSign_z.mp g
  rw [if_neg (fun q => (R_sign h).mp q g), if_pos g, R_kind h v]
  have z0 : (0 : Int32).toInt = 0 := by decide
  have s : ∀ (S : St) (k : Int32), f_X4_strong (f_X4_traced S k) a0 0 = f_X4_strong S a0 0 := fun S k => by unfold f_X4_strong f_X4_traced; rw [u2_nc (by omega)]
  have s3 : ∀ (S : St) (k : Int32), f_X3_leaveTrace S k (25 + ix a0) = S (25 + ix a0) := fun S k => by unfold f_X3_leaveTrace; rw [u2_nc (by omega)]
  have e := (R_strong h v (m := 0) (by rw [z0]; omega)).1
  have eb := (R_strong h v (m := 0) (by rw [z0]; omega)).2
  have n10 : ¬ (1 : Int32) = 0 := by decide
  have n20 : ¬ (2 : Int32) = 0 := by decide
  have n01 : ¬ (0 : Int32) = 1 := by decide
  have n02 : ¬ (0 : Int32) = 2 := by decide
  have n12 : ¬ (1 : Int32) = 2 := by decide
  have n21 : ¬ (2 : Int32) = 1 := by decide
  have l0 : (0 : Int32) ≤ 0 := by decide
  have l1 : ¬ (1 : Int32) ≤ 0 := by decide
  have l2 : ¬ (2 : Int32) ≤ 0 := by decide
  rcases R_kinds h v with K | K | K
  · rw [K]
    simp only [if_neg n01, if_neg n02, if_pos l0, if_pos]
    exact ⟨by show f_X3_leaveTrace σ 1 (25 + ix a0) (ix 0) = _; rw [s3, s, e], R_up (R_leave h 1)⟩
  · rw [K]
    simp only [if_neg n10, if_neg n12, if_neg l1, if_pos]
    refine ⟨?_, R_up (R_leave (R_leave h 2) 1)⟩
    show f_X3_leaveTrace (f_X3_leaveTrace σ 2) 1 (25 + ix a0) (ix 0) + 100 = _
    rw [s3, s3, s, s, e]
  · rw [K]
    simp only [if_neg n20, if_neg n21, if_neg l2, if_pos]
    refine ⟨?_, R_up (R_leave (R_leave (R_leave (R_leave h 3) 2) 1) 1)⟩
    show (f_X3_leaveTrace (f_X3_leaveTrace (f_X3_leaveTrace σ 3) 2) 1 (25 + ix a0) (ix 0) + 100) + f_X3_leaveTrace (f_X3_leaveTrace (f_X3_leaveTrace (f_X3_leaveTrace σ 3) 2) 1) 1 (25 + ix a0) (ix 0) = _
    simp only [s3, s]
    rw [e]
    have z100 : (100 : Int32).toInt = 100 := by decide
    generalize σ (25 + ix a0) (ix 0) = x at eb
    have e1 := a_toInt (a := x) (b := 100) (by omega) (by omega)
    have e2 := a_toInt (a := x + 100) (b := x) (by omega) (by omega)
    have e3 := km_toInt (a := x) (k := 2) (z := 2) (by decide) (by omega) (by omega)
    have e4 := a_toInt (a := 2 * x) (b := 100) (by omega) (by omega)
    exact qm_eq (by omega)
/-! the PAPERS -/
theorem R_Rpap (h : R j σ τ) {p : Int32} (hp : 0 ≤ p.toInt ∧ p.toInt < (τ 0 11).toInt) : Rpap j σ τ (ix p) := h.2.2.2.2.2.2.2.1 (ix p) (by have := ix_toInt hp.1; omega)
theorem q_ofPaper (h : R j σ τ) (hj : j < 512) (a0 a1 : Int32) : (f_X3_ofPaper σ a0 a1) = (f_X4_ofPaper τ a0 a1) ∧ R (j + 1) σ τ := by
  refine ⟨?_, R_up h⟩
  unfold f_X3_ofPaper f_X4_ofPaper
  by_cases g : f_X4_noPaper τ a0 = 0
  case neg => rw [if_pos ((R_paper h).mpr g), if_neg g]
  rw [if_neg (fun q => (R_paper h).mp q g), if_pos g]
  obtain ⟨⟨p1, p2, p3, p4, p5, p6⟩, _⟩ := R_Rpap h (noPaper_z.mp g)
  rw [p1, p2, p3, p4, p5, p6]
theorem flood_X3 {v : Int32} : ∀ (n : Nat) (a : Int32) (σ : St), 0 ≤ a.toInt → (σ 0 5).toInt ≤ 8 → (σ 0 5).toInt - a.toInt < n → (∀ c, c < 33 → lp_X3_flood_16 v n a σ c = σ c) ∧ (∀ p k : Nat, p < 8 → lp_X3_flood_16 v n a σ (33 + p) k = if k = 5 ∧ a.toInt ≤ p ∧ (p : Int) < (σ 0 5).toInt then σ (33 + p) 5 + v else σ (33 + p) k) := by
  intro n
  induction n with
  | zero =>
    intro a σ h0 h1 h2
    refine ⟨fun c _ => rfl, fun p k _ => ?_⟩
    rw [if_neg (by omega)]
    rfl
  | succ n ih =>
    intro a σ h0 h1 h2
    rw [lp_X3_flood_16]
    by_cases h3 : σ 0 5 ≤ a
    · have := qt_le h3
      rw [if_pos h3]
      refine ⟨fun c _ => rfl, fun p k _ => ?_⟩
      rw [if_neg (by omega)]
    · have h4 := qt_nle h3
      rw [if_neg h3]
      have h5 := inc_toInt (a := a) h0 (by omega)
      have h6 := ix_toInt h0
      have e05 : u2 σ (33 + ix a) 5 (σ (33 + ix a) 5 + v) 0 5 = σ 0 5 := u2_o (by omega) 5
      obtain ⟨i1, i2⟩ := ih (a + 1) (u2 σ (33 + ix a) 5 (σ (33 + ix a) 5 + v)) (by omega) (by rw [e05]; exact h1) (by rw [e05]; omega)
      refine ⟨fun c hc => by rw [i1 c hc, u2_nc (by omega)], fun p k hp => ?_⟩
      rw [i2 p k hp, e05]
      by_cases hpa : p = ix a
      · subst hpa
        rw [if_neg (by omega)]
        by_cases hk : k = 5
        · subst hk
          rw [u2_self, if_pos ⟨rfl, by omega, by omega⟩]
        · rw [u2_nk hk, if_neg (fun q => hk q.1)]
      · rw [u2_nc (show 33 + p ≠ 33 + ix a by omega)]
        by_cases hk : k = 5 ∧ a.toInt ≤ p ∧ (p : Int) < (σ 0 5).toInt
        · rw [if_pos hk, if_pos ⟨hk.1, by omega, hk.2.2⟩]
        · rw [if_neg hk, if_neg (fun q => hk ⟨q.1, by omega, q.2.2⟩)]
theorem flood_X4 {v : Int32} : ∀ (n : Nat) (a : Int32) (σ : St), 0 ≤ a.toInt → (σ 0 11).toInt ≤ 8 → (σ 0 11).toInt - a.toInt < n → (∀ c, c ≠ 11 → lp_X4_flood_17 v n a σ c = σ c) ∧ (∀ p : Nat, lp_X4_flood_17 v n a σ 11 p = if a.toInt ≤ p ∧ (p : Int) < (σ 0 11).toInt then σ 11 p + v else σ 11 p) := by
  intro n
  induction n with
  | zero =>
    intro a σ h0 h1 h2
    refine ⟨fun c _ => rfl, fun p => ?_⟩
    rw [if_neg (by omega)]
    rfl
  | succ n ih =>
    intro a σ h0 h1 h2
    rw [lp_X4_flood_17]
    by_cases h3 : σ 0 11 ≤ a
    · have := qt_le h3
      rw [if_pos h3]
      refine ⟨fun c _ => rfl, fun p => ?_⟩
      rw [if_neg (by omega)]
    · have h4 := qt_nle h3
      rw [if_neg h3]
      have h5 := inc_toInt (a := a) h0 (by omega)
      have h6 := ix_toInt h0
      have e05 : u2 σ 11 (ix a) (σ 11 (ix a) + v) 0 11 = σ 0 11 := u2_o (by omega) 11
      obtain ⟨i1, i2⟩ := ih (a + 1) (u2 σ 11 (ix a) (σ 11 (ix a) + v)) (by omega) (by rw [e05]; exact h1) (by rw [e05]; omega)
      refine ⟨fun c hc => by rw [i1 c hc, u2_nc hc], fun p => ?_⟩
      rw [i2 p, e05]
      by_cases hpa : p = ix a
      · subst hpa
        rw [if_neg (by omega), u2_self, if_pos ⟨by omega, by omega⟩]
      · rw [u2_nk hpa]
        by_cases hk : a.toInt ≤ p ∧ (p : Int) < (σ 0 11).toInt
        · rw [if_pos hk, if_pos ⟨by omega, hk.2⟩]
        · rw [if_neg hk, if_neg (fun q => hk ⟨by omega, q.2⟩)]
theorem q_flood (h : R j σ τ) (hj : j < 512) (a0 : Int32) : (f_X3_flood σ a0).1 = (f_X4_flood τ a0).1 ∧ R (j + 1) (f_X3_flood σ a0).2 (f_X4_flood τ a0).2 := by
  unfold f_X3_flood f_X4_flood
  by_cases w : 1 ≤ a0.toInt ∧ a0.toInt ≤ 9
  case neg => rw [rng_n w (by decide) (by decide), if_pos (in_n w (by decide) (by decide))]; exact ⟨rfl, R_up h⟩
  rw [rng_p w (by decide) (by decide), if_neg (in_p w (by decide) (by decide))]
  have h' := h
  obtain ⟨a1, a2, a3, a4, a5, a6, a7, a8, a9, a10⟩ := h'
  have z0 : (0 : Int32).toInt = 0 := by decide
  have b1 := a1.2.1
  have b2 := a2.2.1
  obtain ⟨x1, x2⟩ := flood_X3 (v := a0) 200 0 σ (by decide) b1.2 (by rw [z0]; omega)
  obtain ⟨m1, m2⟩ := flood_X4 (v := a0) 200 0 τ (by decide) b2.2 (by rw [z0]; omega)
  generalize lp_X3_flood_16 a0 200 0 σ = S at x1 x2 ⊢
  generalize lp_X4_flood_17 a0 200 0 τ = T at m1 m2 ⊢
  have e0 : S 0 = σ 0 := x1 0 (by omega)
  have f0 : T 0 = τ 0 := m1 0 (by omega)
  refine ⟨by show S 0 5 = T 0 11; rw [e0, f0]; exact a3.2.1, ?_⟩
  show R (j + 1) S T
  refine R_mk h ?_ ?_ (by rw [e0, f0]; exact a3) (by rw [f0]) (by rw [f0]; exact a5) (fun x hx => ⟨x1 _ (by omega), x1 _ (by omega)⟩) (m1 1 (by omega)) (m1 2 (by omega)) (x1 8 (by omega)) (fun m hm hn => by rw [x1 4 (by omega), m1 3 (by omega)]; exact a7 m hm hn) (fun p hp => ?_) (fun k hk => ?_)
  · exact okC_cell a1 ⟨by rw [e0], by rw [e0], by rw [e0]⟩ (x1 4 (by omega)) (fun q hq => by rw [x1 (9 + q) (by omega)]) (fun p hp => ⟨by rw [x2 p 0 hp, if_neg (by omega)], by rw [x2 p 1 hp, if_neg (by omega)]⟩)
  · exact okM_cell a2 ⟨by rw [f0], by rw [f0], by rw [f0]⟩ (m1 3 (by omega)) (m1 14 (by omega)) (m1 6 (by omega)) (m1 7 (by omega)) (m1 8 (by omega))
  · rw [f0] at hp
    have hp8 : p < 8 := by omega
    obtain ⟨⟨q1, q2, q3, q4, q5, q6⟩, q7⟩ := a8 p hp
    unfold Rpap
    rw [x2 p 0 hp8, x2 p 1 hp8, x2 p 2 hp8, x2 p 3 hp8, x2 p 4 hp8, x2 p 5 hp8, if_neg (by omega), if_neg (by omega), if_neg (by omega), if_neg (by omega), if_neg (by omega), if_pos ⟨rfl, by omega, by rw [a3.2.1]; exact hp⟩, m1 6 (by omega), m1 7 (by omega), m1 8 (by omega), m1 9 (by omega), m1 10 (by omega), m2 p, if_pos ⟨by omega, hp⟩, f0, q6]
    obtain ⟨r1, r2, r3, r4, r5, r6⟩ := q7
    have e := a_toInt (a := τ 11 p) (b := a0) (by omega) (by omega)
    exact ⟨⟨q1, q2, q3, q4, q5, rfl⟩, r1, r2, r3, r4, r5, by omega, by omega⟩
  · exact Rsh_congr (a9 k hk) (x1 _ (by omega)) (x1 _ (by omega)) (by rw [m1 14 (by omega)]) (by rw [m1 15 (by omega)]) (fun i _ => by rw [m1 16 (by omega)])
end REL2
