/-! fits, twins, steals, in step -/
def Fs (x m : Int32 × Int32 × Int32) : Prop := x = m ∧ 0 ≤ m.2.1.toInt
section REL6
variable {j : Nat} {σ τ : St}
theorem fi_le {p a b y : Int32} (he : ∀ m : Int32, 0 ≤ m.toInt → m.toInt < 9 → 0 ≤ (f_X4_off (f_X4_smellOf τ p m y) (4 * (f_X4_strong τ a m + f_X4_strong τ b m))).toInt ∧ (f_X4_off (f_X4_smellOf τ p m y) (4 * (f_X4_strong τ a m + f_X4_strong τ b m))).toInt ≤ 6000) : ∀ (n : Nat) (s k : Int32), 0 ≤ k.toInt → k.toInt ≤ 9 → 0 ≤ s.toInt → s.toInt ≤ 6000 * k.toInt → 0 ≤ (lp_X4_farIn_6 τ p a b y n s k).toInt ∧ (lp_X4_farIn_6 τ p a b y n s k).toInt ≤ 54000 := by
  intro n
  induction n with
  | zero => intro s k h0 h1 h2 h3; exact ⟨h2, by show s.toInt ≤ 54000; omega⟩
  | succ n ih =>
    intro s k h0 h1 h2 h3
    rw [lp_X4_farIn_6]
    have z9 : (9 : Int32).toInt = 9 := by decide
    by_cases h : 9 ≤ k
    · rw [if_pos h]; exact ⟨h2, by omega⟩
    · have h4 := qt_nle h
      rw [if_neg h]
      have h5 := inc_toInt (a := k) h0 (by omega)
      have e := he k h0 (by omega)
      have h6 := a_toInt (a := s) (b := f_X4_off (f_X4_smellOf τ p k y) (4 * (f_X4_strong τ a k + f_X4_strong τ b k))) (by omega) (by omega)
      exact ih _ _ (by omega) (by omega) (by omega) (by omega)
theorem R_far_le (h : R j σ τ) (hj : j < 512) {p a b y : Int32} (hp : 0 ≤ p.toInt ∧ p.toInt < (τ 0 11).toInt) (ha : 0 ≤ a.toInt ∧ a.toInt < (τ 0 1).toInt) (hb : 0 ≤ b.toInt ∧ b.toInt < (τ 0 1).toInt) (hy : (τ 8 (ix p)).toInt ≤ y.toInt ∧ y.toInt ≤ 99) : (f_X4_farIn τ p a b y).toInt ≤ 54000 := by
  refine (fi_le (fun m m0 m1 => ?_) 200 0 0 (by decide) (by decide) (by decide) (by decide)).2
  obtain ⟨s1, s2⟩ := R_smellOf h hj hp ⟨m0, m1⟩ hy
  obtain ⟨u1, u2⟩ := R_strong h ha ⟨m0, m1⟩
  obtain ⟨v1, v2⟩ := R_strong h hb ⟨m0, m1⟩
  rw [u1, v1]
  have c1 := a_toInt (a := σ (25 + ix a) (ix m)) (b := σ (25 + ix b) (ix m)) (by omega) (by omega)
  have c2 := km_toInt (a := σ (25 + ix a) (ix m) + σ (25 + ix b) (ix m)) (k := 4) (z := 4) (by decide) (by omega) (by omega)
  rw [(off_toInt (by omega) (by omega)).2]
  split <;> omega
theorem pn_toInt {a b : Int32} (ha : 0 ≤ a.toInt ∧ a.toInt < 8) (hb : 0 ≤ b.toInt ∧ b.toInt < 8) : (10 * a + b).toInt = 10 * a.toInt + b.toInt := by
  have e1 := km_toInt (a := a) (k := 10) (z := 10) (by decide) (by omega) (by omega)
  rw [a_toInt (by omega) (by omega), e1]
theorem ft_in {S : St} {p a6 q : Int32} (h4 : S 0 4 = τ 0 1) (h7 : S 0 7 = τ 0 3) (h8 : (τ 0 1).toInt ≤ 8) (hx : 0 ≤ a6.toInt ∧ a6.toInt < (τ 0 1).toInt) (he : ∀ z : Int32, 0 ≤ z.toInt → z.toInt < (τ 0 1).toInt → f_X3_smeltFrom S a6 z = f_X4_farIn τ p a6 z (τ 0 2)) : ∀ (n : Nat) (k x3 x4 x5 : Int32), 0 ≤ k.toInt → 0 ≤ x4.toInt → Fs (lp_X3_fits_63 S q a6 n x3 x4 x5 k) (lp_X4_fits_52 τ p q a6 n x3 x4 x5 k) := by
  intro n
  induction n with
  | zero => intro k x3 x4 x5 h0 h1; exact ⟨rfl, h1⟩
  | succ n ih =>
    intro k x3 x4 x5 h0 h1
    rw [lp_X3_fits_63, lp_X4_fits_52, h4, h7]
    by_cases c : τ 0 1 ≤ k
    · rw [if_pos c, if_pos c]; exact ⟨rfl, h1⟩
    have c' := qt_nle c
    have h3 := inc_toInt (a := k) h0 (by omega)
    rw [if_neg c, if_neg c, if_neg (qm_nlt (x := x4) (y := 0) h1), he k h0 c']
    by_cases d : x5 ≤ f_X4_farIn τ p a6 k (τ 0 2)
    · rw [if_pos d, if_pos d]; exact ih _ _ _ _ (by omega) h1
    · rw [if_neg d, if_neg d]
      exact ih _ _ _ _ (by omega) (by show 0 ≤ (10 * a6 + k).toInt; rw [pn_toInt (by omega) (by omega)]; omega)
theorem ft_in1 {S : St} {p a6 q : Int32} (h4 : S 0 4 = τ 0 1) (h7 : S 0 7 = τ 0 3) (h8 : (τ 0 1).toInt ≤ 8) (hx : 0 ≤ a6.toInt ∧ a6.toInt < (τ 0 1).toInt) (he : ∀ z : Int32, 0 ≤ z.toInt → z.toInt < (τ 0 1).toInt → f_X3_smeltFrom S a6 z = f_X4_farIn τ p a6 z (τ 0 2)) (hl : ∀ z : Int32, 0 ≤ z.toInt → z.toInt < (τ 0 1).toInt → (f_X4_farIn τ p a6 z (τ 0 2)).toInt ≤ 54000) (n : Nat) (k x3 : Int32) (h0 : 0 ≤ k.toInt) (h1 : k.toInt < (τ 0 1).toInt) : Fs (lp_X3_fits_63 S q a6 (n + 1) x3 0 2147483647 k) (lp_X4_fits_52 τ p q a6 (n + 1) x3 (-9) 0 k) := by
  rw [lp_X3_fits_63, lp_X4_fits_52, h4, h7]
  have h3 := inc_toInt (a := k) h0 (by omega)
  have zm : (2147483647 : Int32).toInt = 2147483647 := by decide
  have l := hl k h0 h1
  rw [if_neg (qm_nle h1), if_neg (qm_nle h1), if_pos (show (-9 : Int32) < 0 by decide), he k h0 h1, if_neg (qm_nle (by omega))]
  exact ft_in h4 h7 h8 hx he _ _ _ _ _ (by omega) (by show 0 ≤ (10 * a6 + k).toInt; rw [pn_toInt (by omega) (by omega)]; omega)
theorem ft_out {S : St} {p q : Int32} (h4 : S 0 4 = τ 0 1) (h7 : S 0 7 = τ 0 3) (h8 : (τ 0 1).toInt ≤ 8) (he : ∀ x z : Int32, 0 ≤ x.toInt → x.toInt < (τ 0 1).toInt → 0 ≤ z.toInt → z.toInt < (τ 0 1).toInt → f_X3_smeltFrom S x z = f_X4_farIn τ p x z (τ 0 2)) : ∀ (n : Nat) (k x3 x4 x5 : Int32), 0 ≤ k.toInt → 0 ≤ x4.toInt → Fs (lp_X3_fits_48 S q n x3 x4 x5 k) (lp_X4_fits_37 τ p q n x3 x4 x5 k) := by
  intro n
  induction n with
  | zero => intro k x3 x4 x5 h0 h1; exact ⟨rfl, h1⟩
  | succ n ih =>
    intro k x3 x4 x5 h0 h1
    rw [lp_X3_fits_48, lp_X4_fits_37, h4]
    by_cases c : τ 0 1 ≤ k
    · rw [if_pos c, if_pos c]; exact ⟨rfl, h1⟩
    have c' := qt_nle c
    have h3 := inc_toInt (a := k) h0 (by omega)
    rw [if_neg c, if_neg c]
    have e := ft_in (S := S) (τ := τ) (p := p) (a6 := k) (q := q) h4 h7 h8 ⟨h0, c'⟩ (fun z => he k z h0 c') 200 (k + 1) x3 x4 x5 (by omega) h1
    generalize lp_X3_fits_63 S q k 200 x3 x4 x5 (k + 1) = u at e ⊢
    generalize lp_X4_fits_52 τ p q k 200 x3 x4 x5 (k + 1) = v at e ⊢
    obtain ⟨rfl, e2⟩ := e
    obtain ⟨u1, u2, u3⟩ := u
    exact ih _ _ _ _ (by omega) e2
theorem q_fits (h : R j σ τ) (hj : j < 512) (a0 a1 : Int32) : (f_X3_fits σ a0 a1).1 = (f_X4_fits τ a0 a1) ∧ R (j + 1) (f_X3_fits σ a0 a1).2 τ := by
  unfold f_X3_fits f_X4_fits
  by_cases g : f_X4_noPaper τ a0 = 0
  case neg => rw [if_pos ((R_paper h).mpr g), if_neg g]; exact ⟨rfl, R_up h⟩
  rw [if_neg (fun q => (R_paper h).mp q g), if_pos g]
  by_cases w : 0 ≤ a1.toInt ∧ a1.toInt ≤ 2
  case neg => rw [rng_n w (by decide) (by decide), if_pos (in_n w (by decide) (by decide))]; exact ⟨rfl, R_up h⟩
  rw [rng_p w (by decide) (by decide), if_neg (in_p w (by decide) (by decide)), h.2.2.1.2.2.1]
  have hp := noPaper_z.mp g
  have hy := R_pyear h hp
  have hn := R_n0 h hp
  have hn2 := h.2.2.2.1.resolve_left hn
  have h8 := h.2.1.1.2
  have e0 : f_X3_smellPaper σ (ix a0) (τ 0 2) 0 = σ 0 := fr_X3_smellPaper (by omega)
  have h4 : f_X3_smellPaper σ (ix a0) (τ 0 2) 0 4 = τ 0 1 := by rw [e0]; exact h.2.2.1.1
  have h7 : f_X3_smellPaper σ (ix a0) (τ 0 2) 0 7 = τ 0 3 := by rw [e0]; exact h.2.2.1.2.2.2.1
  have he : ∀ x z : Int32, 0 ≤ x.toInt → x.toInt < (τ 0 1).toInt → 0 ≤ z.toInt → z.toInt < (τ 0 1).toInt → f_X3_smeltFrom (f_X3_smellPaper σ (ix a0) (τ 0 2)) x z = f_X4_farIn τ a0 x z (τ 0 2) := fun x z x0 x1 z0 z1 => R_far h hj hp ⟨x0, x1⟩ ⟨z0, z1⟩ hy
  have hr := R_up (R_smellPaper h (ix a0) (τ 0 2))
  generalize f_X3_smellPaper σ (ix a0) (τ 0 2) = S at h4 h7 he hr ⊢
  have z0 : (0 : Int32).toInt = 0 := by decide
  have z1 : ((0 : Int32) + 1).toInt = 1 := by decide
  have key : ∀ n : Nat, Fs (lp_X3_fits_48 S a1 (n + 1) 0 0 2147483647 0) (lp_X4_fits_37 τ a0 a1 (n + 1) 0 (-9) 0 0) := by
    intro n
    rw [lp_X3_fits_48, lp_X4_fits_37, h4, if_neg (qm_nle (by omega)), if_neg (qm_nle (by omega))]
    have e := ft_in1 (S := S) (τ := τ) (p := a0) (a6 := 0) (q := a1) h4 h7 h8 (by omega) (fun z => he 0 z (by omega) (by omega)) (fun z z0 z1 => R_far_le h hj hp (by omega) ⟨z0, z1⟩ hy) 199 (0 + 1) 0 (by omega) (by omega)
    rw [show (199 : Nat) + 1 = 200 from rfl] at e
    generalize lp_X3_fits_63 S a1 0 200 0 0 2147483647 (0 + 1) = u at e ⊢
    generalize lp_X4_fits_52 τ a0 a1 0 200 0 (-9) 0 (0 + 1) = v at e ⊢
    obtain ⟨rfl, e2⟩ := e
    obtain ⟨u1, u2, u3⟩ := u
    exact ft_out h4 h7 h8 he _ _ _ _ _ (by omega) e2
  have e := key 199
  rw [show (199 : Nat) + 1 = 200 from rfl] at e
  generalize lp_X3_fits_48 S a1 200 0 0 2147483647 0 = u at e ⊢
  generalize lp_X4_fits_37 τ a0 a1 200 0 (-9) 0 0 = v at e ⊢
  obtain ⟨rfl, e2⟩ := e
  obtain ⟨u1, u2, u3⟩ := u
  dsimp only
  by_cases c0 : a1 = 0
  · rw [if_pos c0, if_pos c0]; exact ⟨rfl, hr⟩
  rw [if_neg c0, if_neg c0]
  by_cases c1 : a1 = 1
  · rw [if_pos c1, if_pos c1]; exact ⟨rfl, hr⟩
  rw [if_neg c1, if_neg c1]
  exact ⟨rfl, hr⟩
theorem tw_stay {a1 x : Int32} : ∀ (n : Nat) (k a2 m : Int32), a1.toInt < a2.toInt → a2.toInt + n < 1000000 → 0 ≤ a2.toInt → (lp_X4_twins_30 τ a1 x n a2 m k).2 = m ∧ a2.toInt ≤ (lp_X4_twins_30 τ a1 x n a2 m k).1.toInt ∧ (lp_X4_twins_30 τ a1 x n a2 m k).1.toInt ≤ a2.toInt + n := by
  intro n
  induction n with
  | zero => intro k a2 m h h1 h2; exact ⟨rfl, by show a2.toInt ≤ a2.toInt; omega, by show a2.toInt ≤ a2.toInt + _; omega⟩
  | succ n ih =>
    intro k a2 m h h1 h2
    have e := inc_toInt (a := a2) h2 (by omega)
    rw [lp_X4_twins_30]
    by_cases c : τ 0 1 ≤ k
    · rw [if_pos c]; exact ⟨rfl, by show a2.toInt ≤ a2.toInt; omega, by show a2.toInt ≤ a2.toInt + _; omega⟩
    rw [if_neg c]
    by_cases d : τ 0 3 < 8 * f_X4_apartBy τ x k
    · rw [if_pos d]
      have := ih (k + 1) a2 m h (by omega) h2
      exact ⟨this.1, this.2.1, by omega⟩
    · rw [if_neg d, if_neg (fun q : a2 = a1 => by rw [q] at h; omega)]
      have := ih (k + 1) (a2 + 1) m (by omega) (by omega) (by omega)
      exact ⟨this.1, by omega, by omega⟩
theorem tw_24 (h : R j σ τ) {a1 x : Int32} (hx : 0 ≤ x.toInt ∧ x.toInt < (τ 0 1).toInt) : ∀ (n : Nat) (k a2 m : Int32), 0 ≤ k.toInt → a2.toInt + n < 1000000 → 0 ≤ a2.toInt → (match lp_X3_twins_24 σ a1 x n a2 k with | Sum.inl r => (lp_X4_twins_30 τ a1 x n a2 m k).2 = r ∧ a1.toInt < (lp_X4_twins_30 τ a1 x n a2 m k).1.toInt ∧ (lp_X4_twins_30 τ a1 x n a2 m k).1.toInt ≤ a2.toInt + n | Sum.inr w => lp_X4_twins_30 τ a1 x n a2 m k = (w, m) ∧ 0 ≤ w.toInt ∧ w.toInt ≤ a2.toInt + n) := by
  intro n
  induction n with
  | zero => intro k a2 m h0 h1 h2; exact ⟨rfl, h2, by omega⟩
  | succ n ih =>
    intro k a2 m h0 h1 h2
    have e := inc_toInt (a := a2) h2 (by omega)
    have h8 := h.2.1.1.2
    rw [lp_X3_twins_24, lp_X4_twins_30, h.2.2.1.1]
    by_cases c : τ 0 1 ≤ k
    · rw [if_pos c, if_pos c]; exact ⟨rfl, h2, by omega⟩
    have c' := qt_nle c
    have h3 := inc_toInt (a := k) h0 (by omega)
    rw [if_neg c, if_neg c]
    unfold f_X3_areAlike
    rw [R_apart h hx ⟨h0, c'⟩, h.2.2.1.2.2.2.1]
    by_cases d : τ 0 3 < 8 * f_X4_apartBy τ x k
    · rw [if_pos d, if_pos rfl, if_pos d]
      have := ih (k + 1) a2 m (by omega) (by omega) h2
      generalize lp_X3_twins_24 σ a1 x n a2 (k + 1) = u at this ⊢
      cases u with
      | inl r => exact ⟨this.1, this.2.1, by have := this.2.2; omega⟩
      | inr w => exact ⟨this.1, this.2.1, by have := this.2.2; omega⟩
    · rw [if_neg d, if_neg (show ¬ (1 : Int32) = 0 by decide), if_neg d]
      by_cases q : a2 = a1
      · have q' := qt_eq q
        rw [if_pos q, if_pos q]
        have := tw_stay (τ := τ) (a1 := a1) (x := x) n (k + 1) (a2 + 1) (10 * x + k) (by omega) (by omega) (by omega)
        exact ⟨this.1, by have := this.2.1; omega, by have := this.2.2; omega⟩
      · rw [if_neg q, if_neg q]
        have := ih (k + 1) (a2 + 1) m (by omega) (by omega) (by omega)
        generalize lp_X3_twins_24 σ a1 x n (a2 + 1) (k + 1) = u at this ⊢
        cases u with
        | inl r => exact ⟨this.1, this.2.1, by have := this.2.2; omega⟩
        | inr w => exact ⟨this.1, this.2.1, by have := this.2.2; omega⟩
theorem tw_24p {a1 x : Int32} : ∀ (n : Nat) (k a2 : Int32), 0 ≤ a2.toInt → a2.toInt + n < 1000000 → (match lp_X3_twins_24 σ a1 x n a2 k with | Sum.inl _ => 0 ≤ a1.toInt | Sum.inr _ => True) := by
  intro n
  induction n with
  | zero => intro k a2 h2 h1; trivial
  | succ n ih =>
    intro k a2 h2 h1
    have e := inc_toInt (a := a2) h2 (by omega)
    rw [lp_X3_twins_24]
    refine ite_ind (P := fun z : Int32 ⊕ Int32 => match z with | Sum.inl _ => 0 ≤ a1.toInt | Sum.inr _ => True) (fun _ => trivial) (fun _ => ?_)
    refine ite_ind (P := fun z : Int32 ⊕ Int32 => match z with | Sum.inl _ => 0 ≤ a1.toInt | Sum.inr _ => True) (fun _ => ih _ _ h2 (by omega)) (fun _ => ?_)
    exact ite_ind (P := fun z : Int32 ⊕ Int32 => match z with | Sum.inl _ => 0 ≤ a1.toInt | Sum.inr _ => True) (fun q => by rw [← q]; exact h2) (fun _ => ih _ _ (by omega) (by omega))
theorem tw_stay2 {a1 : Int32} : ∀ (n : Nat) (k a2 m : Int32), a1.toInt < a2.toInt → a2.toInt + 200 * n < 900000 → 0 ≤ a2.toInt → (lp_X4_twins_15 τ a1 n a2 m k).2 = m := by
  intro n
  induction n with
  | zero => intro k a2 m h h1 h2; rfl
  | succ n ih =>
    intro k a2 m h h1 h2
    rw [lp_X4_twins_15]
    by_cases c : τ 0 1 ≤ k
    · rw [if_pos c]
    rw [if_neg c]
    have e := tw_stay (τ := τ) (a1 := a1) (x := k) 200 (k + 1) a2 m h (by omega) h2
    generalize lp_X4_twins_30 τ a1 k 200 a2 m (k + 1) = u at e ⊢
    obtain ⟨u1, u2⟩ := u
    dsimp only at e ⊢
    rw [ih _ _ _ (by omega) (by omega) (by omega)]
    exact e.1
theorem tw_11 (h : R j σ τ) {a1 : Int32} : ∀ (n : Nat) (k a2 m : Int32), 0 ≤ k.toInt → a2.toInt + 200 * n < 900000 → 0 ≤ a2.toInt → (match lp_X3_twins_11 σ a1 n a2 k with | Sum.inl r => (lp_X4_twins_15 τ a1 n a2 m k).2 = r ∧ 0 ≤ a1.toInt | Sum.inr w => lp_X4_twins_15 τ a1 n a2 m k = (w, m)) := by
  intro n
  induction n with
  | zero => intro k a2 m h0 h1 h2; rfl
  | succ n ih =>
    intro k a2 m h0 h1 h2
    have h8 := h.2.1.1.2
    rw [lp_X3_twins_11, lp_X4_twins_15, h.2.2.1.1]
    by_cases c : τ 0 1 ≤ k
    · rw [if_pos c, if_pos c]
    have c' := qt_nle c
    have h3 := inc_toInt (a := k) h0 (by omega)
    rw [if_neg c, if_neg c]
    have e := tw_24 h (a1 := a1) ⟨h0, c'⟩ 200 (k + 1) a2 m (by omega) (by omega) h2
    have ep := tw_24p (σ := σ) (a1 := a1) (x := k) 200 (k + 1) a2 h2 (by omega)
    generalize lp_X3_twins_24 σ a1 k 200 a2 (k + 1) = u at e ep ⊢
    generalize lp_X4_twins_30 τ a1 k 200 a2 m (k + 1) = v at e ⊢
    obtain ⟨v1, v2⟩ := v
    cases u with
    | inl r =>
      dsimp only at e ep ⊢
      rw [tw_stay2 _ _ _ _ (by omega) (by omega) (by omega)]
      exact ⟨e.1, ep⟩
    | inr w =>
      dsimp only at e ⊢
      obtain ⟨e1, e2, e3⟩ := e
      cases e1
      exact ih _ _ _ (by omega) (by omega) e2
theorem q_twins (h : R j σ τ) (hj : j < 512) (a0 : Int32) : (f_X3_twins σ a0) = (f_X4_twins τ a0) ∧ R (j + 1) σ τ := by
  refine ⟨?_, R_up h⟩
  unfold f_X3_twins f_X4_twins
  have z0 : (0 : Int32).toInt = 0 := by decide
  have z1 : (-1 : Int32).toInt = -1 := by decide
  by_cases c : (-1 : Int32) ≤ a0
  case neg => rw [if_neg c, if_neg c]
  have c' := qt_le c
  rw [if_pos c, if_pos c]
  have e := tw_11 h (a1 := a0) 200 0 0 (-9) (by decide) (by omega) (by decide)
  generalize lp_X3_twins_11 σ a0 200 0 0 = u at e ⊢
  generalize lp_X4_twins_15 τ a0 200 0 (-9) 0 = v at e ⊢
  obtain ⟨v1, v2⟩ := v
  cases u with
  | inl r =>
    dsimp only at e ⊢
    rw [if_pos (qm_le (by omega))]
    exact e.1.symm
  | inr w =>
    dsimp only at e ⊢
    cases e
    by_cases d : a0 = -1
    · have d' := qt_eq d
      rw [if_pos d, if_neg (qm_nle (by omega))]
    · have d' := qt_ne d
      rw [if_neg d, if_pos (qm_le (by omega))]
end REL6
