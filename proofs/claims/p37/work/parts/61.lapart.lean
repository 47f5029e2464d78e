/-! apart, twins -/
theorem off_eq {a b : Int32} (a0 : 0 ≤ a.toInt) (a1 : a.toInt ≤ 10000) (b0 : 0 ≤ b.toInt) (b1 : b.toInt ≤ 10000) : f_L_off a b = jabs (a - b) := by
  have z0 : (0 : Int32).toInt = 0 := by decide
  have e := s_toInt (a := a) (b := b) (by omega) (by omega)
  have e2 := s_toInt (a := b) (b := a) (by omega) (by omega)
  have e3 := s_toInt (a := 0) (b := a - b) (by omega) (by omega)
  unfold f_L_off jabs
  by_cases h : b ≤ a
  · have h2 := qt_le h
    rw [if_pos h, if_pos (qm_le (by omega))]
  · have h2 := qt_nle h
    rw [if_neg h, if_neg (qm_nle (by omega))]
    exact qm_eq (by omega)
theorem jabs_bd {a b : Int32} {B : Int} (a0 : 0 ≤ a.toInt) (a1 : a.toInt ≤ B) (b0 : 0 ≤ b.toInt) (b1 : b.toInt ≤ B) (hB : B ≤ 10000) : 0 ≤ (jabs (a - b)).toInt ∧ (jabs (a - b)).toInt ≤ B := by
  have z0 : (0 : Int32).toInt = 0 := by decide
  have e := s_toInt (a := a) (b := b) (by omega) (by omega)
  have e3 := s_toInt (a := 0) (b := a - b) (by omega) (by omega)
  unfold jabs
  by_cases h : 0 ≤ a - b
  · have h2 := qt_le h
    rw [if_pos h]
    omega
  · have h2 := qt_nle h
    rw [if_neg h]
    omega
section AP
variable {σ τ : St}
/-- how far two rows of nine are apart -/
def apS (σ : St) (a b : Nat) : Int32 := sm (fun k => jabs (σ a k - σ b k)) 9
theorem ap_4 {a b : Nat} : ∀ (n k : Nat), k ≤ 9 → 9 - k < n → lp_X3_apartOf_4 σ a b n (sm (fun k => jabs (σ a k - σ b k)) k) (nI k) = apS σ a b := by
  intro n
  induction n with
  | zero => intro k _ h; exact absurd h (Nat.not_lt_zero _)
  | succ n ih =>
    intro k hk hn
    rw [lp_X3_apartOf_4]
    by_cases h : k = 9
    · subst h
      rw [if_pos (show (9 : Int32) ≤ nI 9 by decide)]
      rfl
    · rw [if_neg (fun q => by have := (nI_gE (n := 9) (k := k) (by omega) (by omega)).mp q; omega), ix_nI (by omega), n1]
      exact ih (k + 1) (by omega) (by omega)
theorem apartOf_eq {a b : Nat} : f_X3_apartOf σ a b = apS σ a b := ap_4 200 0 (by omega) (by omega)
theorem ap_6 {x y : Int32} : ∀ (n k : Nat), k ≤ 9 → 9 - k < n → lp_L_apart_6 τ x y n (sm (fun k => f_L_off (f_L_get τ x (1 + nI k)) (f_L_get τ y (1 + nI k))) k) (1 + nI k) = sm (fun k => f_L_off (f_L_get τ x (1 + nI k)) (f_L_get τ y (1 + nI k))) 9 := by
  have z1 : (1 : Int32).toInt = 1 := by decide
  have z10 : (10 : Int32).toInt = 10 := by decide
  intro n
  induction n with
  | zero => intro k _ h; exact absurd h (Nat.not_lt_zero _)
  | succ n ih =>
    intro k hk hn
    have ek := nI_toInt (n := k) (by omega)
    have e1 := a_toInt (a := 1) (b := nI k) (by omega) (by omega)
    rw [lp_L_apart_6]
    by_cases h : k = 9
    · subst h
      rw [if_pos (show (10 : Int32) ≤ 1 + nI 9 by decide)]
    · rw [if_neg (qm_nle (by omega)), Int32.add_assoc, n1]
      exact ih (k + 1) (by omega) (by omega)
theorem st9I (h : Rl σ τ) {x : Int32} (h0 : 0 ≤ x.toInt) (h1 : x.toInt < (σ 0 4).toInt) {k : Nat} (hk : k < 9) : f_L_get τ x (1 + nI k) = σ (25 + ix x) k ∧ 0 ≤ (σ (25 + ix x) k).toInt ∧ (σ (25 + ix x) k).toInt ≤ 9 := by
  have ek := nI_toInt (n := k) (by omega)
  have q := h.st (k := nI k) h0 h1 (by omega) (by omega)
  rw [ix_nI (by omega)] at q
  exact q
theorem L_apart_eq (h : Rl σ τ) {x y : Int32} (x0 : 0 ≤ x.toInt) (x1 : x.toInt < (σ 0 4).toInt) (y0 : 0 ≤ y.toInt) (y1 : y.toInt < (σ 0 4).toInt) : f_L_apart τ x y = apS σ (25 + ix x) (25 + ix y) := by
  have e : f_L_apart τ x y = sm (fun k => f_L_off (f_L_get τ x (1 + nI k)) (f_L_get τ y (1 + nI k))) 9 := ap_6 200 0 (by omega) (by omega)
  rw [e]
  refine sm_congr 9 (fun k hk => ?_)
  have a := st9I h x0 x1 hk
  have b := st9I h y0 y1 hk
  show f_L_off (f_L_get τ x (1 + nI k)) (f_L_get τ y (1 + nI k)) = jabs (σ (25 + ix x) k - σ (25 + ix y) k)
  rw [a.1, b.1]
  exact off_eq (by omega) (by omega) (by omega) (by omega)
theorem q_apart (h : Rl σ τ) {x y : Int32} (x0 : 0 ≤ x.toInt) (x1 : x.toInt < (σ 0 4).toInt) (y0 : 0 ≤ y.toInt) (y1 : y.toInt < (σ 0 4).toInt) : f_X3_apart σ x y = f_L_apart τ x y := by
  unfold f_X3_apart
  rw [if_neg (isSign_p x0 x1), if_neg (isSign_p y0 y1), apartOf_eq, L_apart_eq h x0 x1 y0 y1]
theorem q_apart_n {x y : Int32} (hy : ¬ (0 ≤ y.toInt ∧ y.toInt < (σ 0 4).toInt)) : f_X3_apart σ x y = -1 := by
  unfold f_X3_apart
  rw [isSign_n hy]
  by_cases hx : f_X3_isSign σ x = 0
  · rw [if_pos hx]
  · rw [if_neg hx, if_pos rfl]
/-! twins: how many pairs stand before one -/
def al (σ : St) (x y : Nat) : Prop := ¬ f_X3_areAlike σ (25 + x) (25 + y) = 0
def c2 (σ : St) (x : Nat) : Nat → Nat
  | 0 => 0
  | y + 1 => c2 σ x y + (if x < y then (if f_X3_areAlike σ (25 + x) (25 + y) = 0 then 0 else 1) else 0)
def c1 (σ : St) (n : Nat) : Nat → Nat
  | 0 => 0
  | x + 1 => c1 σ n x + c2 σ x n
theorem c2_hit {x y : Nat} (h : x < y) (ha : al σ x y) : c2 σ x (y + 1) = c2 σ x y + 1 := by
  show c2 σ x y + _ = _
  rw [if_pos h, if_neg ha]
theorem c2_off {x y : Nat} (ha : ¬ (x < y ∧ al σ x y)) : c2 σ x (y + 1) = c2 σ x y := by
  show c2 σ x y + _ = _
  by_cases h : x < y
  · have h2 : f_X3_areAlike σ (25 + x) (25 + y) = 0 := Decidable.byContradiction (fun q => ha ⟨h, q⟩)
    rw [if_pos h, if_pos h2, Nat.add_zero]
  · rw [if_neg h, Nat.add_zero]
theorem c2_z {x : Nat} : ∀ y : Nat, y ≤ x + 1 → c2 σ x y = 0 := by
  intro y
  induction y with
  | zero => intro _; rfl
  | succ y ih => intro h; rw [c2_off (by omega), ih (by omega)]
theorem c2_le {x : Nat} : ∀ y : Nat, c2 σ x y ≤ y := by
  intro y
  induction y with
  | zero => exact Nat.le_refl _
  | succ y ih =>
    show c2 σ x y + _ ≤ _
    by_cases h : x < y
    · rw [if_pos h]; split <;> omega
    · rw [if_neg h]; omega
theorem c2_mono {x y : Nat} : ∀ d : Nat, c2 σ x y ≤ c2 σ x (y + d) := by
  intro d
  induction d with
  | zero => exact Nat.le_refl _
  | succ d ih =>
    refine Nat.le_trans ih ?_
    show c2 σ x (y + d) ≤ c2 σ x (y + d) + _
    exact Nat.le_add_right _ _
theorem c2_mo {x y z : Nat} (h : y ≤ z) : c2 σ x y ≤ c2 σ x z := by
  have q := c2_mono (σ := σ) (x := x) (y := y) (z - y)
  rw [Nat.add_sub_cancel' h] at q
  exact q
theorem c1_le {n : Nat} : ∀ x : Nat, c1 σ n x ≤ n * x := by
  intro x
  induction x with
  | zero => exact Nat.zero_le _
  | succ x ih =>
    have h := c2_le (σ := σ) (x := x) n
    show c1 σ n x + c2 σ x n ≤ n * (x + 1)
    rw [Nat.mul_add]
    omega
theorem c1_mono {n x : Nat} : ∀ d : Nat, c1 σ n x ≤ c1 σ n (x + d) := by
  intro d
  induction d with
  | zero => exact Nat.le_refl _
  | succ d ih => exact Nat.le_trans ih (Nat.le_add_right _ _)
theorem c1_mo {n x z : Nat} (h : x ≤ z) : c1 σ n x ≤ c1 σ n z := by
  have q := c1_mono (σ := σ) (n := n) (x := x) (z - x)
  rw [Nat.add_sub_cancel' h] at q
  exact q
theorem c1_bd {n x : Nat} (hn : n ≤ 8) (hx : x ≤ 8) : c1 σ n x ≤ 64 := Nat.le_trans (c1_le x) (Nat.le_trans (Nat.mul_le_mul hn hx) (by decide))
variable {N : Nat}
/-- a row of pairs none of which is the sought one -/
theorem tw24_pass (hN : (σ 0 4) = nI N) (hN8 : N ≤ 8) {k : Int32} {C x : Nat} (hC : C ≤ 64) (hk : ∀ m : Nat, C ≤ m → m < C + c2 σ x N → nI m ≠ k) : ∀ (n y : Nat), y ≤ N → x < y → N - y < n → lp_X3_twins_24 σ k (nI x) n (nI (C + c2 σ x y)) (nI y) = Sum.inr (nI (C + c2 σ x N)) := by
  intro n
  induction n with
  | zero => intro y _ _ h; exact absurd h (Nat.not_lt_zero _)
  | succ n ih =>
    intro y hy hxy hn
    rw [lp_X3_twins_24, hN]
    by_cases h : y = N
    · subst h
      rw [if_pos ((nI_gE (by omega) (by omega)).mpr (Nat.le_refl _))]
    · rw [if_neg (fun q => by have := (nI_gE (by omega) (by omega)).mp q; omega), ix_nI (by omega), ix_nI (by omega), n1]
      by_cases a : f_X3_areAlike σ (25 + x) (25 + y) = 0
      · rw [if_pos a, ← c2_off (σ := σ) (x := x) (y := y) (fun q => q.2 a)]
        exact ih (y + 1) (by omega) (by omega) (by omega)
      · have hh := c2_hit (σ := σ) hxy a
        have hm := c2_mo (σ := σ) (x := x) (y := y + 1) (z := N) (by omega)
        rw [if_neg a, if_neg (hk _ (by omega) (by omega)), n1, Nat.add_assoc, ← hh]
        exact ih (y + 1) (by omega) (by omega) (by omega)
/-- the sought pair's row -/
theorem tw24_hit (hN : (σ 0 4) = nI N) (hN8 : N ≤ 8) {C x y0 : Nat} (hC : C ≤ 64) (h0 : y0 < N) (ha : al σ x y0) : ∀ (n y : Nat), y ≤ y0 → x < y → N - y < n → lp_X3_twins_24 σ (nI (C + c2 σ x y0)) (nI x) n (nI (C + c2 σ x y)) (nI y) = Sum.inl (f_X3_pairNumber (nI x) (nI y0)) := by
  intro n
  induction n with
  | zero => intro y _ _ h; exact absurd h (Nat.not_lt_zero _)
  | succ n ih =>
    intro y hy hxy hn
    rw [lp_X3_twins_24, hN, if_neg (fun q => by have := (nI_gE (by omega) (by omega)).mp q; omega), ix_nI (by omega), ix_nI (by omega), n1]
    by_cases h : y = y0
    · subst h
      rw [if_neg ha, if_pos rfl]
    · by_cases a : f_X3_areAlike σ (25 + x) (25 + y) = 0
      · rw [if_pos a, ← c2_off (σ := σ) (x := x) (y := y) (fun q => q.2 a)]
        exact ih (y + 1) (by omega) (by omega) (by omega)
      · have hh := c2_hit (σ := σ) hxy a
        have hm := c2_mo (σ := σ) (x := x) (y := y + 1) (z := y0) (by omega)
        have hl := c2_le (σ := σ) (x := x) y0
        rw [if_neg a, if_neg (fun q => by
          have q1 := congrArg ix q
          rw [ix_nI (by omega), ix_nI (by omega)] at q1
          omega), n1, Nat.add_assoc, ← hh]
        exact ih (y + 1) (by omega) (by omega) (by omega)
theorem tw11_pass (hN : (σ 0 4) = nI N) (hN8 : N ≤ 8) {k : Int32} (hk : ∀ m : Nat, m < c1 σ N N → nI m ≠ k) : ∀ (n x : Nat), x ≤ N → N - x < n → lp_X3_twins_11 σ k n (nI (c1 σ N x)) (nI x) = Sum.inr (nI (c1 σ N N)) := by
  intro n
  induction n with
  | zero => intro x _ h; exact absurd h (Nat.not_lt_zero _)
  | succ n ih =>
    intro x hx hn
    rw [lp_X3_twins_11, hN]
    by_cases h : x = N
    · subst h
      rw [if_pos ((nI_gE (by omega) (by omega)).mpr (Nat.le_refl _))]
    · rw [if_neg (fun q => by have := (nI_gE (by omega) (by omega)).mp q; omega), n1]
      have hz := c2_z (σ := σ) (x := x) (x + 1) (by omega)
      have hm := c1_mo (σ := σ) (n := N) (x := x + 1) (z := N) (by omega)
      have hb := c1_bd (σ := σ) (n := N) (x := x) hN8 (by omega)
      have q := tw24_pass hN hN8 (k := k) (C := c1 σ N x) (x := x) hb (fun m _ m2 => hk m (Nat.lt_of_lt_of_le m2 hm)) 200 (x + 1) (by omega) (by omega) (by omega)
      rw [hz, Nat.add_zero] at q
      rw [q]
      exact ih (x + 1) (by omega) (by omega)
theorem tw11_hit (hN : (σ 0 4) = nI N) (hN8 : N ≤ 8) {x0 y0 : Nat} (hxy : x0 < y0) (h0 : y0 < N) (ha : al σ x0 y0) : ∀ (n x : Nat), x ≤ x0 → N - x < n → lp_X3_twins_11 σ (nI (c1 σ N x0 + c2 σ x0 y0)) n (nI (c1 σ N x)) (nI x) = Sum.inl (f_X3_pairNumber (nI x0) (nI y0)) := by
  intro n
  induction n with
  | zero => intro x _ h; exact absurd h (Nat.not_lt_zero _)
  | succ n ih =>
    intro x hx hn
    rw [lp_X3_twins_11, hN, if_neg (fun q => by have := (nI_gE (by omega) (by omega)).mp q; omega), n1]
    have hz := c2_z (σ := σ) (x := x) (x + 1) (by omega)
    have hb := c1_bd (σ := σ) (n := N) (x := x) hN8 (by omega)
    have hb0 := c1_bd (σ := σ) (n := N) (x := x0) hN8 (by omega)
    have hl := c2_le (σ := σ) (x := x0) y0
    by_cases h : x = x0
    · subst h
      have q := tw24_hit hN hN8 (C := c1 σ N x) hb h0 ha 200 (x + 1) (by omega) (by omega) (by omega)
      rw [hz, Nat.add_zero] at q
      rw [q]
    · have hm := c1_mo (σ := σ) (n := N) (x := x + 1) (z := x0) (by omega)
      have q := tw24_pass hN hN8 (k := nI (c1 σ N x0 + c2 σ x0 y0)) (C := c1 σ N x) (x := x) hb (fun m _ m2 e => by
        have e1 := congrArg ix e
        have hm' : c1 σ N x + c2 σ x N ≤ c1 σ N x0 := hm
        rw [ix_nI (by omega), ix_nI (by omega)] at e1
        omega) 200 (x + 1) (by omega) (by omega) (by omega)
      rw [hz, Nat.add_zero] at q
      rw [q]
      exact ih (x + 1) (by omega) (by omega)
theorem Rl.nN (h : Rl σ τ) : (σ 0 4) = nI (ix (σ 0 4)) ∧ ix (σ 0 4) ≤ 8 ∧ 2 ≤ ix (σ 0 4) ∧ (ix (σ 0 4) : Int) = (σ 0 4).toInt := by
  have hn := h.n
  have e := ix_toInt (x := σ 0 4) (by omega)
  exact ⟨nI_ix (by omega), by omega, by omega, e⟩
theorem q_twin (h : Rl σ τ) {x y : Int32} (x0 : 0 ≤ x.toInt) (hxy : x.toInt < y.toInt) (y1 : y.toInt < (σ 0 4).toInt) (ha : al σ (ix x) (ix y)) : f_X3_twins σ (nI (c1 σ (ix (σ 0 4)) (ix x) + c2 σ (ix x) (ix y))) = 10 * x + y := by
  obtain ⟨hN, hN8, hN2, eN⟩ := h.nN
  have ex := ix_toInt x0
  have ey := ix_toInt (x := y) (by omega)
  have hb := c1_bd (σ := σ) (n := ix (σ 0 4)) (x := ix x) hN8 (by omega)
  have hl := c2_le (σ := σ) (x := ix x) (ix y)
  have et := nI_toInt (n := c1 σ (ix (σ 0 4)) (ix x) + c2 σ (ix x) (ix y)) (by omega)
  have zm : (-1 : Int32).toInt = -1 := by decide
  have q := tw11_hit hN hN8 (x0 := ix x) (y0 := ix y) (by omega) (by omega) ha 200 0 (by omega) (by omega)
  unfold f_X3_twins
  rw [if_pos (qm_le (by omega))]
  have q' : lp_X3_twins_11 σ (nI (c1 σ (ix (σ 0 4)) (ix x) + c2 σ (ix x) (ix y))) 200 0 0 = Sum.inl (f_X3_pairNumber (nI (ix x)) (nI (ix y))) := q
  rw [q', ← nI_ix x0, ← nI_ix (x := y) (by omega)]
  rfl
theorem q_twins_m1 (h : Rl σ τ) : f_X3_twins σ (-1) = nI (c1 σ (ix (σ 0 4)) (ix (σ 0 4))) := by
  obtain ⟨hN, hN8, hN2, eN⟩ := h.nN
  have q : lp_X3_twins_11 σ (-1) 200 0 0 = Sum.inr (nI (c1 σ (ix (σ 0 4)) (ix (σ 0 4)))) := tw11_pass hN hN8 (k := -1) (fun m hm e => by
    have hb := c1_bd (σ := σ) (n := ix (σ 0 4)) (x := ix (σ 0 4)) hN8 hN8
    have e1 := congrArg Int32.toInt e
    rw [nI_toInt (by omega), show (-1 : Int32).toInt = -1 by decide] at e1
    omega) 200 0 (by omega) (by omega)
  unfold f_X3_twins
  rw [if_pos (by decide), q]
  show (if (-1 : Int32) = -1 then _ else _) = _
  rw [if_pos rfl]
theorem q_twins_all (h : Rl σ τ) : f_X3_twins σ (nI (c1 σ (ix (σ 0 4)) (ix (σ 0 4)))) = -9 := by
  obtain ⟨hN, hN8, hN2, eN⟩ := h.nN
  have hb := c1_bd (σ := σ) (n := ix (σ 0 4)) (x := ix (σ 0 4)) hN8 hN8
  have et := nI_toInt (n := c1 σ (ix (σ 0 4)) (ix (σ 0 4))) (by omega)
  have zm : (-1 : Int32).toInt = -1 := by decide
  have q : lp_X3_twins_11 σ (nI (c1 σ (ix (σ 0 4)) (ix (σ 0 4)))) 200 0 0 = Sum.inr (nI (c1 σ (ix (σ 0 4)) (ix (σ 0 4)))) := tw11_pass hN hN8 (fun m hm e => by
    have e1 := congrArg ix e
    rw [ix_nI (by omega), ix_nI (by omega)] at e1
    omega) 200 0 (by omega) (by omega)
  unfold f_X3_twins
  rw [if_pos (qm_le (by omega)), q]
  show (if nI (c1 σ (ix (σ 0 4)) (ix (σ 0 4))) = -1 then _ else _) = _
  rw [if_neg (fun e => by
    have e1 := congrArg Int32.toInt e
    omega)]
theorem q_twins_m2 : f_X3_twins σ (-2) = -1 := by
  unfold f_X3_twins
  rw [if_neg (by decide)]
/-- alike, as the law asks it -/
theorem al_iff {x y : Nat} : al σ x y ↔ ¬ σ 0 7 < 8 * apS σ (25 + x) (25 + y) := by
  unfold al f_X3_areAlike
  rw [apartOf_eq]
  by_cases h : σ 0 7 < 8 * apS σ (25 + x) (25 + y)
  · rw [if_pos h]
    exact ⟨fun q => absurd rfl q, fun q => absurd h q⟩
  · rw [if_neg h]
    exact ⟨fun _ => h, fun _ => by decide⟩
end AP
