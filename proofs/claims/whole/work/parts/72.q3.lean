/-! SMELLS, in step -/
theorem pow_cast (k : Nat) : (2 : Int) ^ k = ((2 ^ k : Nat) : Int) := by norm_cast
theorem ediv_pow_bd {a : Int} (h : 0 ≤ a) (k : Nat) : 0 ≤ a / 2 ^ k ∧ a / 2 ^ k ≤ a := by
  rw [pow_cast]
  generalize (2 : Nat) ^ k = w
  exact ⟨Int.ediv_nonneg h (by omega), Int.ediv_le_self _ h⟩
theorem fd_51 {τ : St} {a5 : Int32} : ∀ (n : Nat) (a6 a7 : Int32), 0 ≤ a6.toInt → 0 ≤ a7.toInt → a7.toInt ≤ a5.toInt → a5.toInt - a7.toInt < n → (lp_X4_fades_51 τ a5 n a6 a7).toInt = a6.toInt / 2 ^ (a5.toInt - a7.toInt).toNat := by
  intro n
  induction n with
  | zero => intro a6 a7 h0 h1 h2 h3; omega
  | succ n ih =>
    intro a6 a7 h0 h1 h2 h3
    have z0 : (0 : Int32).toInt = 0 := by decide
    have z2 : (2 : Int32).toInt = 2 := by decide
    rw [lp_X4_fades_51]
    by_cases h4 : a5 ≤ a7
    · have := qt_le h4
      rw [if_pos h4, show (a5.toInt - a7.toInt).toNat = 0 by omega]
      simp
    rw [if_neg h4]
    have h5 := qt_nle h4
    by_cases h6 : a6 ≤ 0
    · have := qt_le h6
      rw [if_pos h6, show a6.toInt = 0 by omega, Int.zero_ediv]
    rw [if_neg h6]
    have hb := lb a5
    have h7 := inc_toInt (a := a7) h1 (by omega)
    have h8 := dv_toInt (a := a6) (b := 2) h0 (by decide)
    rw [z2] at h8
    rw [ih (a6 / 2) (a7 + 1) (by omega) (by omega) (by omega) (by omega), h8, show (a5.toInt - a7.toInt).toNat = (a5.toInt - (a7 + 1).toInt).toNat + 1 by omega, pow_cast, pow_cast, Nat.pow_succ]
    generalize (2 : Nat) ^ (a5.toInt - (a7 + 1).toInt).toNat = w
    have e := Int.ediv_ediv_of_nonneg (x := a6.toInt) (y := 2) (z := (w : Int)) (by omega)
    rw [e]
    congr 1
    omega
theorem shr_pow {x m : Int32} (h0 : 0 ≤ m.toInt) (h1 : m.toInt ≤ 31) : (x >>> (m &&& 31)).toInt = x.toInt / 2 ^ ix m := by
  have T : ∀ k : Nat, k < 32 → ((nI k &&& 31).toBitVec.smod 32).toNat = k := by decide +kernel
  have h2 := ix_toInt h0
  have T' := T (ix m) (by omega)
  rw [← nI_ix h0] at T'
  exact Jvm.Kit.i32_shr x (m &&& 31) T'
theorem sh_fd {τ : St} {r ink : Int32} (h0 : 0 ≤ r.toInt) (h1 : r.toInt ≤ 99) (hi : 0 ≤ ink.toInt) : ink >>> ((jmin r 31) &&& 31) = lp_X4_fades_51 τ r 200 ink 0 ∧ 0 ≤ (lp_X4_fades_51 τ r 200 ink 0).toInt ∧ (lp_X4_fades_51 τ r 200 ink 0).toInt ≤ ink.toInt := by
  have z0 : (0 : Int32).toInt = 0 := by decide
  have z31 : (31 : Int32).toInt = 31 := by decide
  have e := fd_51 (τ := τ) (a5 := r) 200 ink 0 hi (by decide) (by omega) (by omega)
  rw [z0, Int.sub_zero] at e
  refine ⟨qm_eq ?_, ?_⟩
  · rw [e]
    have h2 := ix_toInt h0
    unfold jmin
    by_cases h3 : (31 : Int32) < r
    · have h4 := qt_lt h3
      rw [if_pos h3, shr_pow (by decide) (by decide), pow_cast, pow_cast]
      have hb := lb ink
      have p1 : (2 : Nat) ^ 31 ≤ 2 ^ r.toInt.toNat := Nat.pow_le_pow_right (by decide) (by omega)
      have p2 : ix (31 : Int32) = 31 := by decide
      rw [p2, Int.ediv_eq_zero_of_lt hi (by omega), Int.ediv_eq_zero_of_lt hi (by omega)]
    · have h4 := qt_nlt h3
      rw [if_neg h3, shr_pow h0 (by omega), show ix r = r.toInt.toNat by omega]
  · rw [e]
    exact ediv_pow_bd hi _
theorem and1 (x : Int32) : x &&& 1 = 0 ∨ x &&& 1 = 1 := by
  have h := Jvm.Kit.i32_mask x 1 (k := 1) (by decide) (by decide)
  have z0 : (0 : Int32).toInt = 0 := by decide
  have z1 : (1 : Int32).toInt = 1 := by decide
  rw [show (2 : Int) ^ 1 = 2 from rfl] at h
  rcases (show (x &&& 1).toInt = 0 ∨ (x &&& 1).toInt = 1 by omega) with q | q
  · exact Or.inl (qm_eq (by omega))
  · exact Or.inr (qm_eq (by omega))
theorem max_gr (x : Int32) : jmax 0 x = f_X4_greater 0 x := by
  unfold jmax f_X4_greater
  by_cases h : (0 : Int32) ≤ x
  · rw [if_pos h]
    by_cases h2 : (0 : Int32) < x
    · rw [if_pos h2]
    · rw [if_neg h2]
      have := qt_le h
      have := qt_nlt h2
      exact qm_eq (by omega)
  · have := qt_nle h
    rw [if_neg h, if_neg (qm_nlt (by omega))]
theorem off_toInt {a b : Int32} (ha : -1000000000 ≤ a.toInt ∧ a.toInt ≤ 1000000000) (hb : -1000000000 ≤ b.toInt ∧ b.toInt ≤ 1000000000) : jabs (a - b) = f_X4_off a b ∧ (f_X4_off a b).toInt = if b.toInt ≤ a.toInt then a.toInt - b.toInt else b.toInt - a.toInt := by
  have e1 := s_toInt (a := a) (b := b) (by omega) (by omega)
  have e2 := s_toInt (a := b) (b := a) (by omega) (by omega)
  have z0 : (0 : Int32).toInt = 0 := by decide
  have e3 := s_toInt (a := 0) (b := a - b) (by omega) (by omega)
  unfold jabs f_X4_off
  by_cases h : b ≤ a
  · have h1 := qt_le h
    rw [if_pos h, if_pos h1, if_pos (qm_le (by omega))]
    exact ⟨rfl, e1⟩
  · have h1 := qt_nle h
    rw [if_neg h, if_neg (show ¬ (0 : Int32) ≤ a - b from qm_nle (by omega)), if_neg (show ¬ b.toInt ≤ a.toInt by omega)]
    exact ⟨qm_eq (by omega), e2⟩
section REL3
variable {j : Nat} {σ τ : St}
theorem R_halves (h : R j σ τ) (hn : (τ 0 1).toInt ≠ 0) {m : Int32} (hm : 0 ≤ m.toInt ∧ m.toInt < 9) : σ 4 (ix m) = τ 3 (ix m) ∧ 1 ≤ (τ 3 (ix m)).toInt ∧ (τ 3 (ix m)).toInt ≤ 9 := by
  have e := ix_toInt hm.1
  exact ⟨h.2.2.2.2.2.2.1 (ix m) (by omega) hn, h.2.1.2.2.1 (ix m) (by omega) hn⟩
theorem R_fade (h : R j σ τ) {x m ink y : Int32} (hx : 0 ≤ x.toInt ∧ x.toInt < (τ 0 1).toInt) (hm : 0 ≤ m.toInt ∧ m.toInt < 9) (hi : 0 ≤ ink.toInt) (hy : 0 ≤ y.toInt ∧ y.toInt ≤ 99) : f_X3_fade σ (ix x) m ink y = f_X4_fades τ x m ink y ∧ 0 ≤ (f_X4_fades τ x m ink y).toInt ∧ (f_X4_fades τ x m ink y).toInt ≤ ink.toInt := by
  obtain ⟨e1, e2, e3⟩ := R_halves h (by omega) hm
  have d1 := dv_toInt (a := y) (b := τ 3 (ix m)) hy.1 (by omega)
  have d2 := ediv_b (a := y.toInt) (b := (τ 3 (ix m)).toInt) hy.1 (by omega)
  have z2 : (2 : Int32).toInt = 2 := by decide
  have d3 := dv_toInt (a := y / τ 3 (ix m)) (b := 2) (by omega) (by decide)
  rw [z2] at d3
  unfold f_X3_fade f_X4_fades
  rw [R_kind h hx, e1]
  have z1 : (1 : Int32).toInt = 1 := by decide
  have h1 : 1 ≤ τ 3 (ix m) := qm_le (by omega)
  have n10 : ¬ (1 : Int32) = 0 := by decide
  have n20 : ¬ (2 : Int32) = 0 := by decide
  have n01 : ¬ (0 : Int32) = 1 := by decide
  have n02 : ¬ (0 : Int32) = 2 := by decide
  have n12 : ¬ (1 : Int32) = 2 := by decide
  have n21 : ¬ (2 : Int32) = 1 := by decide
  rcases R_kinds h hx with K | K | K
  · rw [K, if_neg n02, if_pos h1, if_neg n01, if_pos rfl]
    exact sh_fd (by omega) (by omega) hi
  · rw [K, if_neg n12, if_pos h1, if_pos rfl, if_neg n10, if_pos rfl]
    exact sh_fd (by omega) (by omega) hi
  · rw [K, if_pos rfl, if_neg n20, if_neg n21]
    obtain ⟨f1, f2⟩ := sh_fd (τ := τ) (r := 0) (ink := ink) (by decide) (by decide) hi
    refine ⟨?_, f2⟩
    have f3 := fd_51 (τ := τ) (a5 := 0) 200 ink 0 hi (by decide) (by decide) (by decide)
    rw [show (((0 : Int32).toInt - (0 : Int32).toInt).toNat) = 0 from by decide] at f3
    refine qm_eq ?_
    rw [f3]
    simp
theorem rng2_p {α : Type} {p lo hi : Int32} {A B : α} {L H : Int} (h : L ≤ p.toInt ∧ p.toInt ≤ H) (hl : lo.toInt = L) (hh : hi.toInt = H) : (if p < lo then A else if hi < p then A else B) = B := by
  rw [if_neg (qm_nlt (by omega)), if_neg (qm_nlt (by omega))]
theorem rng2_n {α : Type} {p lo hi : Int32} {A B : α} {L H : Int} (h : ¬ (L ≤ p.toInt ∧ p.toInt ≤ H)) (hl : lo.toInt = L) (hh : hi.toInt = H) : (if p < lo then A else if hi < p then A else B) = A := by
  by_cases h1 : p < lo
  · rw [if_pos h1]
  · have := qt_nlt h1
    rw [if_neg h1, if_pos (qm_lt (by omega))]
theorem q_faded (h : R j σ τ) (hj : j < 512) (a0 a1 a2 a3 : Int32) : (f_X3_faded σ a0 a1 a2 a3) = (f_X4_faded τ a0 a1 a2 a3) ∧ R (j + 1) σ τ := by
  refine ⟨?_, R_up h⟩
  unfold f_X3_faded f_X4_faded
  by_cases g : f_X4_noSign τ a0 = 0
  case neg => rw [if_pos ((R_sign h).mpr g), if_neg g]
  rw [if_neg (fun q => (R_sign h).mp q g), if_pos g]
  by_cases g1 : f_X4_noSmell a1 = 0
  case neg => rw [if_pos (s_smell.mpr g1), if_neg g1]
  rw [if_neg (fun q => s_smell.mp q g1), if_pos g1]
  by_cases w : 0 ≤ a2.toInt ∧ a2.toInt ≤ 999
  case neg => rw [rng2_n w (by decide) (by decide), if_pos (in_n w (by decide) (by decide))]
  rw [rng2_p w (by decide) (by decide), if_neg (in_p w (by decide) (by decide))]
  by_cases w : 0 ≤ a3.toInt ∧ a3.toInt ≤ 99
  case neg => rw [rng_n w (by decide) (by decide), if_pos (in_n w (by decide) (by decide))]
  rw [rng_p w (by decide) (by decide), if_neg (in_p w (by decide) (by decide))]
  exact (R_fade h (noSign_z.mp g) (noSmell_z.mp g1) (by omega) w).1
theorem R_n0 (h : R j σ τ) {p : Int32} (hp : 0 ≤ p.toInt ∧ p.toInt < (τ 0 11).toInt) : (τ 0 1).toInt ≠ 0 := by
  have := h.2.1.2.2.2.2.2.2.2
  omega
theorem R_smellOf (h : R j σ τ) (hj : j < 512) {p m y : Int32} (hp : 0 ≤ p.toInt ∧ p.toInt < (τ 0 11).toInt) (hm : 0 ≤ m.toInt ∧ m.toInt < 9) (hy : (τ 8 (ix p)).toInt ≤ y.toInt ∧ y.toInt ≤ 99) : f_X3_smellOf σ (ix p) m y = f_X4_smellOf τ p m y ∧ 0 ≤ (f_X4_smellOf τ p m y).toInt ∧ (f_X4_smellOf τ p m y).toInt ≤ 5000 := by
  obtain ⟨⟨p1, p2, p3, p4, p5, p6⟩, r1, r2, r3, r4, r5, r6⟩ := R_Rpap h hp
  have ey := s_toInt (a := y) (b := τ 8 (ix p)) (by omega) (by omega)
  have yb : 0 ≤ (y - τ 8 (ix p)).toInt ∧ (y - τ 8 (ix p)).toInt ≤ 99 := by omega
  obtain ⟨s1, s2⟩ := R_strong h r1 hm
  obtain ⟨t1, t2⟩ := R_strong h r2 hm
  have k1 := km_toInt (a := σ (25 + ix (τ 6 (ix p))) (ix m)) (k := 4) (z := 4) (by decide) (by omega) (by omega)
  have k2 := km_toInt (a := σ (25 + ix (τ 7 (ix p))) (ix m)) (k := 4) (z := 4) (by decide) (by omega) (by omega)
  obtain ⟨f1, f2⟩ := R_fade h (ink := 4 * σ (25 + ix (τ 6 (ix p))) (ix m)) r1 hm (by omega) yb
  obtain ⟨g1, g2⟩ := R_fade h (ink := 4 * σ (25 + ix (τ 7 (ix p))) (ix m)) r2 hm (by omega) yb
  unfold f_X3_smellOf f_X4_smellOf f_X3_isWashed f_X3_fadedInk
  rw [p1, p2, p3, p4, p5, p6, s1, t1, f1, g1, max_gr]
  generalize f_X4_fades τ (τ 6 (ix p)) m (4 * σ (25 + ix (τ 6 (ix p))) (ix m)) (y - τ 8 (ix p)) = u at f2 ⊢
  generalize f_X4_fades τ (τ 7 (ix p)) m (4 * σ (25 + ix (τ 7 (ix p))) (ix m)) (y - τ 8 (ix p)) = v at g2 ⊢
  have z0 : (0 : Int32).toInt = 0 := by decide
  have c1 := a_toInt (a := u) (b := v) (by omega) (by omega)
  have c2 := s_toInt (a := u + v) (b := τ 9 (ix p)) (by omega) (by omega)
  have c3 : 0 ≤ (f_X4_greater 0 (u + v - τ 9 (ix p))).toInt ∧ (f_X4_greater 0 (u + v - τ 9 (ix p))).toInt ≤ 72 := by
    unfold f_X4_greater
    exact ite_ind (P := fun z : Int32 => 0 ≤ z.toInt ∧ z.toInt ≤ 72) (fun q => by have := qt_le q; omega) (fun _ => by omega)
  have n10 : ¬ (1 : Int32) = 0 := by decide
  have n01 : ¬ (0 : Int32) = 1 := by decide
  rcases and1 (τ 10 (ix p) >>> (m &&& 31)) with q | q
  · rw [q, if_pos rfl, if_pos rfl, if_neg n01]
    have c4 := a_toInt (a := f_X4_greater 0 (u + v - τ 9 (ix p))) (b := τ 11 (ix p)) (by omega) (by omega)
    exact ⟨rfl, by omega, by omega⟩
  · rw [q, if_neg n10, if_neg n10, if_pos rfl]
    have c4 := a_toInt (a := 0) (b := τ 11 (ix p)) (by omega) (by omega)
    exact ⟨qm_eq (by omega), by omega, by omega⟩
theorem q_smells (h : R j σ τ) (hj : j < 512) (a0 a1 a2 : Int32) : (f_X3_smells σ a0 a1 a2) = (f_X4_smells τ a0 a1 a2) ∧ R (j + 1) σ τ := by
  refine ⟨?_, R_up h⟩
  unfold f_X3_smells f_X4_smells
  by_cases g : f_X4_noPaper τ a0 = 0
  case neg => rw [if_pos ((R_paper h).mpr g), if_neg g]
  rw [if_neg (fun q => (R_paper h).mp q g), if_pos g]
  by_cases g1 : f_X4_noSmell a1 = 0
  case neg => rw [if_pos (s_smell.mpr g1), if_neg g1]
  rw [if_neg (fun q => s_smell.mp q g1), if_pos g1]
  have hp := noPaper_z.mp g
  rw [(R_Rpap h hp).1.2.2.1]
  by_cases w : (τ 8 (ix a0)).toInt ≤ a2.toInt ∧ a2.toInt ≤ 99
  case neg => rw [rng_n w rfl (by decide), if_pos (in_n w (Int32.toInt_toInt64 _) (by decide))]
  rw [rng_p w rfl (by decide), if_neg (in_p w (Int32.toInt_toInt64 _) (by decide))]
  exact (R_smellOf h hj hp (noSmell_z.mp g1) w).1
theorem smellOf_congr {S : St} (e : ∀ c, c ≠ 5 → S c = σ c) {p : Nat} {m y : Int32} : f_X3_smellOf S p m y = f_X3_smellOf σ p m y := by
  unfold f_X3_smellOf f_X3_isWashed f_X3_fadedInk f_X3_fade
  rw [e (33 + p) (by omega), e (17 + ix (σ (33 + p) 0)) (by omega), e (17 + ix (σ (33 + p) 1)) (by omega), e (25 + ix (σ (33 + p) 0)) (by omega), e (25 + ix (σ (33 + p) 1)) (by omega), e 4 (by omega)]
theorem sp_val {p : Nat} {y : Int32} : ∀ (n : Nat) (a : Int32) (σ : St), 0 ≤ a.toInt → a.toInt ≤ 9 → 9 - a.toInt < n → ∀ m : Int32, 0 ≤ m.toInt → m.toInt < 9 → lp_X3_smellPaper_2 p y n a σ 5 (ix m) = if m.toInt < a.toInt then σ 5 (ix m) else f_X3_smellOf σ p m y := by
  intro n
  induction n with
  | zero => intro a σ h0 h1 h2; omega
  | succ n ih =>
    intro a σ h0 h1 h2 m m0 m1
    have z9 : (9 : Int32).toInt = 9 := by decide
    rw [lp_X3_smellPaper_2]
    by_cases h : 9 ≤ a
    · have := qt_le h
      rw [if_pos h, if_pos (by omega)]
    · have h3 := qt_nle h
      rw [if_neg h]
      have h5 := inc_toInt (a := a) h0 (by omega)
      rw [ih (a + 1) _ (by omega) (by omega) (by omega) m m0 m1]
      by_cases e : m = a
      · subst e
        rw [if_pos (by omega), if_neg (by omega), u2_self]
      · have e' := qt_ne e
        have e1 := ix_toInt m0
        have e2 := ix_toInt h0
        rw [u2_nk (show ix m ≠ ix a by omega), smellOf_congr (fun c hc => u2_nc hc)]
        by_cases q : m.toInt < a.toInt
        · rw [if_pos q, if_pos (by omega)]
        · rw [if_neg q, if_neg (by omega)]
theorem far_6 {S : St} {p a b y : Int32} (he : ∀ m : Int32, 0 ≤ m.toInt → m.toInt < 9 → jabs (S 5 (ix m) - 4 * (S (25 + ix a) (ix m) + S (25 + ix b) (ix m))) = f_X4_off (f_X4_smellOf τ p m y) (4 * (f_X4_strong τ a m + f_X4_strong τ b m))) : ∀ (n : Nat) (s k : Int32), 0 ≤ k.toInt → k.toInt ≤ 9 → lp_X3_smeltFrom_5 S a b n s k = lp_X4_farIn_6 τ p a b y n s k := by
  intro n
  induction n with
  | zero => intro s k h0 h1; rfl
  | succ n ih =>
    intro s k h0 h1
    rw [lp_X3_smeltFrom_5, lp_X4_farIn_6]
    have z9 : (9 : Int32).toInt = 9 := by decide
    by_cases h : 9 ≤ k
    · rw [if_pos h, if_pos h]
    · have h3 := qt_nle h
      rw [if_neg h, if_neg h, he k h0 (by omega)]
      have h5 := inc_toInt (a := k) h0 (by omega)
      exact ih _ _ (by omega) (by omega)
theorem R_far (h : R j σ τ) (hj : j < 512) {p a b y : Int32} (hp : 0 ≤ p.toInt ∧ p.toInt < (τ 0 11).toInt) (ha : 0 ≤ a.toInt ∧ a.toInt < (τ 0 1).toInt) (hb : 0 ≤ b.toInt ∧ b.toInt < (τ 0 1).toInt) (hy : (τ 8 (ix p)).toInt ≤ y.toInt ∧ y.toInt ≤ 99) : f_X3_smeltFrom (f_X3_smellPaper σ (ix p) y) a b = f_X4_farIn τ p a b y := by
  refine far_6 (fun m m0 m1 => ?_) 200 0 0 (by decide) (by decide)
  have z0 : (0 : Int32).toInt = 0 := by decide
  have e5 : f_X3_smellPaper σ (ix p) y 5 (ix m) = f_X3_smellOf σ (ix p) m y := by
    have := sp_val (p := ix p) (y := y) 200 0 σ (by decide) (by decide) (by rw [z0]; omega) m m0 m1
    rw [if_neg (by omega)] at this
    exact this
  obtain ⟨s1, s2⟩ := R_smellOf h hj hp ⟨m0, m1⟩ hy
  obtain ⟨u1, u2⟩ := R_strong h ha ⟨m0, m1⟩
  obtain ⟨v1, v2⟩ := R_strong h hb ⟨m0, m1⟩
  rw [e5, s1, fr_X3_smellPaper (by omega), fr_X3_smellPaper (by omega), u1, v1]
  have c1 := a_toInt (a := σ (25 + ix a) (ix m)) (b := σ (25 + ix b) (ix m)) (by omega) (by omega)
  have c2 := km_toInt (a := σ (25 + ix a) (ix m) + σ (25 + ix b) (ix m)) (k := 4) (z := 4) (by decide) (by omega) (by omega)
  exact (off_toInt (by omega) (by omega)).1
theorem R_smellPaper (h : R j σ τ) (p : Nat) (y : Int32) : R j (f_X3_smellPaper σ p y) τ := R_sc h (fun c h5 _ _ => fr_X3_smellPaper h5)
theorem q_far (h : R j σ τ) (hj : j < 512) (a0 a1 a2 : Int32) : (f_X3_far σ a0 a1 a2).1 = (f_X4_far τ a0 a1 a2) ∧ R (j + 1) (f_X3_far σ a0 a1 a2).2 τ := by
  unfold f_X3_far f_X4_far
  by_cases g : f_X4_noPaper τ a0 = 0
  case neg => rw [if_pos ((R_paper h).mpr g), if_neg g]; exact ⟨rfl, R_up h⟩
  rw [if_neg (fun q => (R_paper h).mp q g), if_pos g]
  by_cases g1 : f_X4_areTwo τ a1 a2 = 0
  · rw [if_pos ((R_two h).mpr g1), if_pos g1]; exact ⟨rfl, R_up h⟩
  rw [if_neg (fun q => g1 ((R_two h).mp q)), if_neg g1, h.2.2.1.2.2.1]
  have hp := noPaper_z.mp g
  have ht := areTwo_n.mp g1
  have hq := (R_Rpap h hp).2.2.2.2.1
  exact ⟨R_far h hj hp ht.1 ht.2.1 ⟨hq.2, h.2.1.2.2.2.2.2.1.2⟩, R_up (R_smellPaper h _ _)⟩
theorem ap_5 {S : St} {c1 c2 : Nat} {x y : Int32} (he : ∀ m : Int32, 0 ≤ m.toInt → m.toInt < 9 → jabs (S c1 (ix m) - S c2 (ix m)) = f_X4_off (f_X4_strong τ x m) (f_X4_strong τ y m)) : ∀ (n : Nat) (s k : Int32), 0 ≤ k.toInt → k.toInt ≤ 9 → lp_X3_apartOf_4 S c1 c2 n s k = lp_X4_apartBy_5 τ x y n s k := by
  intro n
  induction n with
  | zero => intro s k h0 h1; rfl
  | succ n ih =>
    intro s k h0 h1
    rw [lp_X3_apartOf_4, lp_X4_apartBy_5]
    have z9 : (9 : Int32).toInt = 9 := by decide
    by_cases h : 9 ≤ k
    · rw [if_pos h, if_pos h]
    · have h3 := qt_nle h
      rw [if_neg h, if_neg h, he k h0 (by omega)]
      have h5 := inc_toInt (a := k) h0 (by omega)
      exact ih _ _ (by omega) (by omega)
theorem R_apart (h : R j σ τ) {a b : Int32} (ha : 0 ≤ a.toInt ∧ a.toInt < (τ 0 1).toInt) (hb : 0 ≤ b.toInt ∧ b.toInt < (τ 0 1).toInt) : f_X3_apartOf σ (25 + ix a) (25 + ix b) = f_X4_apartBy τ a b := by
  refine ap_5 (fun m m0 m1 => ?_) 200 0 0 (by decide) (by decide)
  obtain ⟨u1, u2⟩ := R_strong h ha ⟨m0, m1⟩
  obtain ⟨v1, v2⟩ := R_strong h hb ⟨m0, m1⟩
  rw [u1, v1]
  exact (off_toInt (by omega) (by omega)).1
theorem q_apart (h : R j σ τ) (hj : j < 512) (a0 a1 : Int32) : (f_X3_apart σ a0 a1) = (f_X4_apart τ a0 a1) ∧ R (j + 1) σ τ := by
  refine ⟨?_, R_up h⟩
  unfold f_X3_apart f_X4_apart
  by_cases g : f_X4_noSign τ a0 = 0
  case neg => rw [if_pos ((R_sign h).mpr g), if_neg g]
  rw [if_neg (fun q => (R_sign h).mp q g), if_pos g]
  by_cases g1 : f_X4_noSign τ a1 = 0
  case neg => rw [if_pos ((R_sign h).mpr g1), if_neg g1]
  rw [if_neg (fun q => (R_sign h).mp q g1), if_pos g1]
  exact R_apart h (noSign_z.mp g) (noSign_z.mp g1)
theorem R_near (h : R j σ τ) {a b t m : Int32} (ha : 0 ≤ a.toInt ∧ a.toInt < (τ 0 1).toInt) (hb : 0 ≤ b.toInt ∧ b.toInt < (τ 0 1).toInt) (hm : 0 ≤ m.toInt ∧ m.toInt < 9) : f_X3_strengthNear σ (ix a) (ix b) t m = f_X4_nearBy τ a b t m := by
  unfold f_X3_strengthNear f_X4_nearBy
  rw [(R_strong h ha hm).1, (R_strong h hb hm).1]
theorem q_near (h : R j σ τ) (hj : j < 512) (a0 a1 a2 a3 : Int32) : (f_X3_near σ a0 a1 a2 a3) = (f_X4_near τ a0 a1 a2 a3) ∧ R (j + 1) σ τ := by
  refine ⟨?_, R_up h⟩
  unfold f_X3_near f_X4_near
  by_cases g : f_X4_noSign τ a0 = 0
  case neg => rw [if_pos ((R_sign h).mpr g), if_neg g]
  rw [if_neg (fun q => (R_sign h).mp q g), if_pos g]
  by_cases g1 : f_X4_noSign τ a1 = 0
  case neg => rw [if_pos ((R_sign h).mpr g1), if_neg g1]
  rw [if_neg (fun q => (R_sign h).mp q g1), if_pos g1]
  by_cases g2 : f_X4_noSmell a3 = 0
  case neg => rw [if_pos (s_smell.mpr g2), if_neg g2]
  rw [if_neg (fun q => s_smell.mp q g2), if_pos g2]
  by_cases w : 0 ≤ a2.toInt ∧ a2.toInt ≤ 10
  case neg => rw [rng_n w (by decide) (by decide), if_pos (in_n w (by decide) (by decide))]
  rw [rng_p w (by decide) (by decide), if_neg (in_p w (by decide) (by decide))]
  exact R_near h (noSign_z.mp g) (noSign_z.mp g1) (noSmell_z.mp g2)
end REL3
