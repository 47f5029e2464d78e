/-! isProved and what stands on it, in step -/
section REL5
variable {j : Nat} {σ τ : St}
theorem pv_93_0 {p y a b f x : Int32} : ∀ (n : Nat) (k : Int32), lp_X4_isProved_93 τ p y a b f x n 0 k = 0 := by
  intro n
  induction n with
  | zero => intro k; rfl
  | succ n ih =>
    intro k
    rw [lp_X4_isProved_93]
    exact ite_ind (P := fun z : Int32 => z = 0) (fun _ => rfl) (fun _ => ite_ind (P := fun z : Int32 => z = 0) (fun _ => ih _) (fun q => absurd rfl q))
theorem pv_78_0 {p y a b f : Int32} : ∀ (n : Nat) (k : Int32), lp_X4_isProved_78 τ p y a b f n 0 k = 0 := by
  intro n
  induction n with
  | zero => intro k; rfl
  | succ n ih =>
    intro k
    rw [lp_X4_isProved_78]
    refine ite_ind (P := fun z : Int32 => z = 0) (fun _ => rfl) (fun _ => ?_)
    rw [pv_93_0]
    exact ih _
theorem pv_93 {S : St} {p y a b f x : Int32} (h4 : S 0 4 = τ 0 1) (h8 : (τ 0 1).toInt ≤ 8) (hx : 0 ≤ x.toInt ∧ x.toInt < (τ 0 1).toInt) (he : ∀ z : Int32, 0 ≤ z.toInt → z.toInt < (τ 0 1).toInt → f_X3_smeltFrom S x z = f_X4_farIn τ p x z y) : ∀ (n : Nat) (k : Int32), 0 ≤ k.toInt → (match lp_X3_isProved_73 S f a b x n k with | Sum.inl _ => lp_X4_isProved_93 τ p y a b f x n 1 k = 0 | Sum.inr _ => lp_X4_isProved_93 τ p y a b f x n 1 k = 1) := by
  intro n
  induction n with
  | zero => intro k h0; rfl
  | succ n ih =>
    intro k h0
    rw [lp_X3_isProved_73, lp_X4_isProved_93, h4]
    by_cases h1 : τ 0 1 ≤ k
    · rw [if_pos h1, if_pos h1]
    have h2 := qt_nle h1
    have h3 := inc_toInt (a := k) h0 (by omega)
    have n10 : ¬ (1 : Int32) = 0 := by decide
    have i' := ih (k + 1) (by omega)
    rw [if_neg h1, if_neg h1, if_neg n10, he k h0 h2]
    by_cases hq : x = a ∧ k = b
    · rw [if_pos hq.1, if_pos hq.2, if_neg (show ¬ (1 : Nat) = 0 by decide), if_pos hq.1, if_pos hq.2]
      exact i'
    have e1 : (if x = a then (if k = b then (1 : Nat) else 0) else 0) = 0 := by
      by_cases c1 : x = a
      · rw [if_pos c1, if_neg (fun c2 => hq ⟨c1, c2⟩)]
      · rw [if_neg c1]
    have e2 : ∀ A B : Int32, (if x = a then (if k = b then A else B) else B) = B := by
      intro A B
      by_cases c1 : x = a
      · rw [if_pos c1, if_neg (fun c2 => hq ⟨c1, c2⟩)]
      · rw [if_neg c1]
    rw [if_pos e1, e2]
    by_cases c : f < f_X4_farIn τ p x k y
    · have := qt_lt c
      rw [if_pos c, if_neg (qm_nle (by omega))]
      exact i'
    · have := qt_nlt c
      rw [if_neg c, if_pos (qm_le (by omega))]
      exact pv_93_0 _ _
theorem pv_78 {S : St} {p y a b f : Int32} (h4 : S 0 4 = τ 0 1) (h8 : (τ 0 1).toInt ≤ 8) (he : ∀ x z : Int32, 0 ≤ x.toInt → x.toInt < (τ 0 1).toInt → 0 ≤ z.toInt → z.toInt < (τ 0 1).toInt → f_X3_smeltFrom S x z = f_X4_farIn τ p x z y) : ∀ (n : Nat) (k : Int32), 0 ≤ k.toInt → (match lp_X3_isProved_58 S f a b n k with | Sum.inl r => r.1 = 0 ∧ lp_X4_isProved_78 τ p y a b f n 1 k = 0 | Sum.inr _ => lp_X4_isProved_78 τ p y a b f n 1 k = 1) := by
  intro n
  induction n with
  | zero => intro k h0; rfl
  | succ n ih =>
    intro k h0
    rw [lp_X3_isProved_58, lp_X4_isProved_78, h4]
    by_cases h1 : τ 0 1 ≤ k
    · rw [if_pos h1, if_pos h1]
    have h2 := qt_nle h1
    have h3 := inc_toInt (a := k) h0 (by omega)
    rw [if_neg h1, if_neg h1]
    have e := pv_93 (p := p) (y := y) (a := a) (b := b) (f := f) h4 h8 ⟨h0, h2⟩ (fun z => he k z h0 h2) 200 (k + 1) (by omega)
    have e' := s_isProved_73 (σ := S) (a3 := f) (a4 := a) (a5 := b) (a6 := k) 200 (k + 1)
    generalize lp_X3_isProved_73 S f a b k 200 (k + 1) = w at e e' ⊢
    cases w with
    | inl r =>
      dsimp only at e e' ⊢
      rw [e, e']
      exact ⟨rfl, pv_78_0 _ _⟩
    | inr _ =>
      dsimp only at e ⊢
      rw [e]
      exact ih (k + 1) (by omega)
theorem fi_comm {p a b y : Int32} : ∀ (n : Nat) (s k : Int32), lp_X4_farIn_6 τ p a b y n s k = lp_X4_farIn_6 τ p b a y n s k := by
  intro n
  induction n with
  | zero => intro s k; rfl
  | succ n ih =>
    intro s k
    rw [lp_X4_farIn_6, lp_X4_farIn_6, ih, Int32.add_comm (f_X4_strong τ a k)]
theorem farIn_comm {p a b y : Int32} : f_X4_farIn τ p a b y = f_X4_farIn τ p b a y := fi_comm _ _ _
theorem mn_eq (x y : Int32) : jmin x y = if y ≤ x then y else x := by
  unfold jmin
  by_cases h : y < x
  · have := qt_lt h
    rw [if_pos h, if_pos (qm_le (by omega))]
  · have := qt_nlt h
    rw [if_neg h]
    by_cases h2 : y ≤ x
    · have := qt_le h2
      rw [if_pos h2]; exact qm_eq (by omega)
    · rw [if_neg h2]
theorem mx_eq (x y : Int32) : jmax x y = f_X4_greater x y := by
  unfold jmax f_X4_greater
  by_cases h : x < y
  · have := qt_lt h
    rw [if_pos h, if_pos (qm_le (by omega))]
  · have := qt_nlt h
    rw [if_neg h]
    by_cases h2 : x ≤ y
    · have := qt_le h2
      rw [if_pos h2]; exact qm_eq (by omega)
    · rw [if_neg h2]
theorem far_mm {p a b y : Int32} : f_X4_farIn τ p (if b ≤ a then b else a) (f_X4_greater a b) y = f_X4_farIn τ p a b y := by
  unfold f_X4_greater
  by_cases h : b ≤ a
  · rw [if_pos h]
    by_cases h2 : a ≤ b
    · have e : a = b := qm_eq (by have := qt_le h; have := qt_le h2; omega)
      subst e
      rw [if_pos h]
    · rw [if_neg h2, farIn_comm]
  · have := qt_nle h
    rw [if_neg h, if_pos (qm_le (by omega))]
theorem R_isProved (h : R j σ τ) (hj : j < 512) {p y : Int32} (hp : 0 ≤ p.toInt ∧ p.toInt < (τ 0 11).toInt) (hy : (τ 8 (ix p)).toInt ≤ y.toInt ∧ y.toInt ≤ 99) : (f_X3_isProved σ (ix p) y).1 = f_X4_isProved τ p y := by
  obtain ⟨⟨p1, p2, p3, p4, p5, p6⟩, r1, r2, r3⟩ := R_Rpap h hp
  have ef := R_far h hj hp r1 r2 hy
  have e33 : f_X3_smellPaper σ (ix p) y (33 + ix p) = σ (33 + ix p) := fr_X3_smellPaper (by omega)
  have e0 : f_X3_smellPaper σ (ix p) y 0 = σ 0 := fr_X3_smellPaper (by omega)
  unfold f_X3_isProved f_X4_isProved
  rw [e33, p1, p2, ef, e0, h.2.2.1.2.2.2.1, mn_eq, mx_eq, far_mm]
  by_cases c : f_X4_farIn τ p (τ 6 (ix p)) (τ 7 (ix p)) y ≤ τ 0 3
  · have := qt_le c
    rw [if_pos c, if_neg (qm_nlt (by omega))]
    have e := pv_78 (S := f_X3_smellPaper σ (ix p) y) (τ := τ) (p := p) (y := y) (a := if τ 7 (ix p) ≤ τ 6 (ix p) then τ 7 (ix p) else τ 6 (ix p)) (b := f_X4_greater (τ 6 (ix p)) (τ 7 (ix p))) (f := f_X4_farIn τ p (τ 6 (ix p)) (τ 7 (ix p)) y) (by rw [e0]; exact h.2.2.1.1) h.2.1.1.2 (fun x z x0 x1 z0 z1 => R_far h hj hp ⟨x0, x1⟩ ⟨z0, z1⟩ hy) 200 0 (by decide)
    generalize lp_X3_isProved_58 (f_X3_smellPaper σ (ix p) y) (f_X4_farIn τ p (τ 6 (ix p)) (τ 7 (ix p)) y) (if τ 7 (ix p) ≤ τ 6 (ix p) then τ 7 (ix p) else τ 6 (ix p)) (f_X4_greater (τ 6 (ix p)) (τ 7 (ix p))) 200 0 = w at e ⊢
    cases w with
    | inl r => dsimp only at e ⊢; rw [e.1, e.2]
    | inr _ => dsimp only at e ⊢; rw [e]
  · have := qt_nle c
    rw [if_neg c, if_pos (qm_lt (by omega)), pv_78_0]
theorem R_pyear (h : R j σ τ) {p : Int32} (hp : 0 ≤ p.toInt ∧ p.toInt < (τ 0 11).toInt) : (τ 8 (ix p)).toInt ≤ (τ 0 2).toInt ∧ (τ 0 2).toInt ≤ 99 := ⟨(R_Rpap h hp).2.2.2.2.1.2, h.2.1.2.2.2.2.2.1.2⟩
theorem R_isProved2 (h : R j σ τ) (p : Nat) (y : Int32) : R j (f_X3_isProved σ p y).2 τ := by
  rw [s_X3_isProved]
  exact R_smellPaper h p y
theorem pr_4 (hj : j < 512) : ∀ (n : Nat) (w k : Int32) (σ : St), R j σ τ → 0 ≤ k.toInt → (lp_X3_proved_4 n w k σ).1 = lp_X4_proved_4 τ n w k ∧ R j (lp_X3_proved_4 n w k σ).2 τ := by
  intro n
  induction n with
  | zero => intro w k σ h h0; exact ⟨rfl, h⟩
  | succ n ih =>
    intro w k σ h h0
    rw [lp_X3_proved_4, lp_X4_proved_4, h.2.2.1.2.1]
    by_cases h1 : τ 0 11 ≤ k
    · rw [if_pos h1, if_pos h1]; exact ⟨rfl, h⟩
    have h2 := qt_nle h1
    have h8 := h.2.1.2.1.2
    have h3 := inc_toInt (a := k) h0 (by omega)
    rw [if_neg h1, if_neg h1, h.2.2.1.2.2.1, R_isProved h hj ⟨h0, h2⟩ (R_pyear h ⟨h0, h2⟩)]
    have r := R_isProved2 h (ix k) (τ 0 2)
    by_cases c : f_X4_isProved τ k (τ 0 2) = 0
    · rw [if_pos c, if_pos c]
      have e : w ||| 0 = w := by simp
      rw [e]
      exact ih _ _ _ r (by omega)
    · rw [if_neg c, if_neg c]
      exact ih _ _ _ r (by omega)
theorem q_proved (h : R j σ τ) (hj : j < 512) : (f_X3_proved σ).1 = (f_X4_proved τ) ∧ R (j + 1) (f_X3_proved σ).2 τ := by
  have e := pr_4 (τ := τ) hj 200 0 0 σ h (by decide)
  have e2 : f_X3_proved σ = lp_X3_proved_4 200 0 0 σ := by
    unfold f_X3_proved
    generalize lp_X3_proved_4 200 0 0 σ = z
    cases z
    rfl
  rw [e2]
  exact ⟨e.1, R_up e.2⟩
theorem ag_15 (hj : j < 512) {p : Int32} (hp : 0 ≤ p.toInt ∧ p.toInt < (τ 0 11).toInt) : ∀ (n : Nat) (k : Int32) (σ : St), R j σ τ → (τ 0 2).toInt ≤ k.toInt → 0 ≤ k.toInt → (match lp_X3_again_15 p n k σ with | Sum.inl r => lp_X4_again_15 τ p n k = Sum.inl r.1 ∧ R j r.2 τ | Sum.inr S => lp_X4_again_15 τ p n k = Sum.inr () ∧ R j S τ) := by
  intro n
  induction n with
  | zero => intro k σ h h0 h1; exact ⟨rfl, h⟩
  | succ n ih =>
    intro k σ h h0 h1
    rw [lp_X3_again_15, lp_X4_again_15]
    by_cases c : (99 : Int32) < k
    · rw [if_pos c, if_pos c]; exact ⟨rfl, h⟩
    have c' := qt_nlt c
    have z99 : (99 : Int32).toInt = 99 := by decide
    have y := R_pyear h hp
    rw [if_neg c, if_neg c, R_isProved h hj hp ⟨by omega, by omega⟩]
    have r := R_isProved2 h (ix p) k
    by_cases c2 : f_X4_isProved τ p k = 0
    · rw [if_pos c2, if_pos c2]; exact ⟨rfl, r⟩
    · rw [if_neg c2, if_neg c2]
      have h3 := inc_toInt (a := k) h1 (by omega)
      exact ih _ _ r (by omega) (by omega)
theorem q_again (h : R j σ τ) (hj : j < 512) (a0 : Int32) : (f_X3_again σ a0).1 = (f_X4_again τ a0) ∧ R (j + 1) (f_X3_again σ a0).2 τ := by
  unfold f_X3_again f_X4_again
  by_cases g : f_X4_noPaper τ a0 = 0
  case neg => rw [if_pos ((R_paper h).mpr g), if_neg g]; exact ⟨rfl, R_up h⟩
  rw [if_neg (fun q => (R_paper h).mp q g), if_pos g, h.2.2.1.2.2.1]
  have e := ag_15 (τ := τ) hj (noPaper_z.mp g) 200 (τ 0 2) σ h (by omega) h.2.1.2.2.2.2.2.1.1
  generalize lp_X3_again_15 a0 200 (τ 0 2) σ = z at e ⊢
  cases z with
  | inl r => dsimp only at e ⊢; rw [e.1]; exact ⟨rfl, R_up e.2⟩
  | inr S => dsimp only at e ⊢; rw [e.1]; exact ⟨rfl, R_up e.2⟩
end REL5
