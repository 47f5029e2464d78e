/-! steals, papers, washing, in step -/
section REL7
variable {j : Nat} {σ τ : St}
theorem near_congr {S : St} (e : ∀ c, c ≠ 6 → S c = σ c) {a b : Nat} {t m : Int32} : f_X3_strengthNear S a b t m = f_X3_strengthNear σ a b t m := by
  unfold f_X3_strengthNear
  rw [e (25 + a) (by omega), e (25 + b) (by omega)]
theorem st_X3 {a b t : Int32} : ∀ (n : Nat) (k : Int32) (σ : St), 0 ≤ k.toInt → k.toInt ≤ 9 → 9 - k.toInt < n → (∀ c, c ≠ 6 → lp_X3_steals_22 a b t n k σ c = σ c) ∧ ∀ m : Int32, 0 ≤ m.toInt → m.toInt < 9 → lp_X3_steals_22 a b t n k σ 6 (ix m) = if m.toInt < k.toInt then σ 6 (ix m) else f_X3_strengthNear σ (ix a) (ix b) t m := by
  intro n
  induction n with
  | zero => intro k σ h0 h1 h2; omega
  | succ n ih =>
    intro k σ h0 h1 h2
    have z9 : (9 : Int32).toInt = 9 := by decide
    rw [lp_X3_steals_22]
    by_cases h : 9 ≤ k
    · have := qt_le h
      rw [if_pos h]
      exact ⟨fun c hc => rfl, fun m m0 m1 => by rw [if_pos (by omega)]⟩
    · have h3 := qt_nle h
      have h5 := inc_toInt (a := k) h0 (by omega)
      rw [if_neg h]
      obtain ⟨i1, i2⟩ := ih (k + 1) (u2 σ 6 (ix k) (f_X3_strengthNear σ (ix a) (ix b) t k)) (by omega) (by omega) (by omega)
      refine ⟨fun c hc => by rw [i1 c hc, u2_nc hc], fun m m0 m1 => ?_⟩
      rw [i2 m m0 m1, near_congr (fun c hc => u2_nc hc)]
      by_cases e : m = k
      · subst e
        rw [if_pos (by omega), if_neg (by omega), u2_self]
      · have e' := qt_ne e
        have e1 := ix_toInt m0
        have e2 := ix_toInt h0
        rw [u2_nk (show ix m ≠ ix k by omega)]
        by_cases q : m.toInt < k.toInt
        · rw [if_pos q, if_pos (by omega)]
        · rw [if_neg q, if_neg (by omega)]
theorem nearBy_congr {T : St} (e : T 2 = τ 2) {a b t m : Int32} : f_X4_nearBy T a b t m = f_X4_nearBy τ a b t m := by
  unfold f_X4_nearBy f_X4_strong
  rw [e]
theorem st_X4 {a b t : Int32} : ∀ (n : Nat) (k : Int32) (τ : St), 0 ≤ k.toInt → k.toInt ≤ 9 → 9 - k.toInt < n → (∀ c, c ≠ 12 → lp_X4_steals_22 a b t n k τ c = τ c) ∧ ∀ m : Int32, 0 ≤ m.toInt → m.toInt < 9 → lp_X4_steals_22 a b t n k τ 12 (ix m) = if m.toInt < k.toInt then τ 12 (ix m) else f_X4_nearBy τ a b t m := by
  intro n
  induction n with
  | zero => intro k σ h0 h1 h2; omega
  | succ n ih =>
    intro k τ h0 h1 h2
    have z9 : (9 : Int32).toInt = 9 := by decide
    rw [lp_X4_steals_22]
    by_cases h : 9 ≤ k
    · have := qt_le h
      rw [if_pos h]
      exact ⟨fun c hc => rfl, fun m m0 m1 => by rw [if_pos (by omega)]⟩
    · have h3 := qt_nle h
      have h5 := inc_toInt (a := k) h0 (by omega)
      rw [if_neg h]
      obtain ⟨i1, i2⟩ := ih (k + 1) (u2 τ 12 (ix k) (f_X4_nearBy τ a b t k)) (by omega) (by omega) (by omega)
      refine ⟨fun c hc => by rw [i1 c hc, u2_nc hc], fun m m0 m1 => ?_⟩
      rw [i2 m m0 m1, nearBy_congr (τ := τ) (u2_nc (by omega))]
      by_cases e : m = k
      · subst e
        rw [if_pos (by omega), if_neg (by omega), u2_self]
      · have e' := qt_ne e
        have e1 := ix_toInt m0
        have e2 := ix_toInt h0
        rw [u2_nk (show ix m ≠ ix k by omega)]
        by_cases q : m.toInt < k.toInt
        · rw [if_pos q, if_pos (by omega)]
        · rw [if_neg q, if_neg (by omega)]
theorem it_4 {S : St} {c1 c2 : Nat} {y : Int32} (he : ∀ m : Int32, 0 ≤ m.toInt → m.toInt < 9 → jabs (S c1 (ix m) - S c2 (ix m)) = f_X4_off (τ 12 (ix m)) (f_X4_strong τ y m)) : ∀ (n : Nat) (s k : Int32), 0 ≤ k.toInt → k.toInt ≤ 9 → lp_X3_apartOf_4 S c1 c2 n s k = lp_X4_isTaken_4 τ y n s k := by
  intro n
  induction n with
  | zero => intro s k h0 h1; rfl
  | succ n ih =>
    intro s k h0 h1
    rw [lp_X3_apartOf_4, lp_X4_isTaken_4]
    have z9 : (9 : Int32).toInt = 9 := by decide
    by_cases h : 9 ≤ k
    · rw [if_pos h, if_pos h]
    · have h3 := qt_nle h
      rw [if_neg h, if_neg h, he k h0 (by omega)]
      have h5 := inc_toInt (a := k) h0 (by omega)
      exact ih _ _ (by omega) (by omega)
theorem R_alike (h : R j σ τ) {b : Int32} (hb : 0 ≤ b.toInt ∧ b.toInt < (τ 0 1).toInt) (he : ∀ m : Int32, 0 ≤ m.toInt → m.toInt < 9 → σ 6 (ix m) = τ 12 (ix m) ∧ -1000000000 ≤ (τ 12 (ix m)).toInt ∧ (τ 12 (ix m)).toInt ≤ 1000000000) : f_X3_areAlike σ 6 (25 + ix b) = f_X4_isTaken τ b := by
  unfold f_X3_areAlike f_X4_isTaken
  have e : f_X3_apartOf σ 6 (25 + ix b) = lp_X4_isTaken_4 τ b 200 0 0 := by
    refine it_4 (fun m m0 m1 => ?_) 200 0 0 (by decide) (by decide)
    obtain ⟨v1, v2⟩ := R_strong h hb ⟨m0, m1⟩
    obtain ⟨w1, w2⟩ := he m m0 m1
    rw [v1, w1]
    exact (off_toInt w2 (by omega)).1
  rw [e, h.2.2.1.2.2.2.1]
theorem R_s6 {S T : St} (h : R j σ τ) (hS : ∀ c, c ≠ 6 → S c = σ c) (hT : ∀ c, c ≠ 12 → T c = τ c) : R j S T :=
  R_fs h (fun k _ => by rw [hS 0 (by omega)]) (fun k _ _ _ => by rw [hT 0 (by omega)]) (by rw [hS 0 (by omega), hT 0 (by omega)]; exact h.2.2.1.2.2.2.2.2) (fun c _ _ h6 _ => hS c h6) (fun c _ _ _ h12 _ _ => hT c h12)
theorem nb_le (h : R j σ τ) {a b t m : Int32} (ha : 0 ≤ a.toInt ∧ a.toInt < (τ 0 1).toInt) (hb : 0 ≤ b.toInt ∧ b.toInt < (τ 0 1).toInt) (ht : 0 ≤ t.toInt ∧ t.toInt ≤ 10) (hm : 0 ≤ m.toInt ∧ m.toInt < 9) : -1000000000 ≤ (f_X4_nearBy τ a b t m).toInt ∧ (f_X4_nearBy τ a b t m).toInt ≤ 1000000000 := by
  obtain ⟨u1, u2⟩ := R_strong h ha hm
  obtain ⟨v1, v2⟩ := R_strong h hb hm
  unfold f_X4_nearBy
  rw [u1, v1]
  have c1 := s_toInt (a := σ (25 + ix b) (ix m)) (b := σ (25 + ix a) (ix m)) (by omega) (by omega)
  have c2 : -90 ≤ (σ (25 + ix b) (ix m) - σ (25 + ix a) (ix m)).toInt * t.toInt ∧ (σ (25 + ix b) (ix m) - σ (25 + ix a) (ix m)).toInt * t.toInt ≤ 90 := by
    rcases (show t.toInt = 0 ∨ t.toInt = 1 ∨ t.toInt = 2 ∨ t.toInt = 3 ∨ t.toInt = 4 ∨ t.toInt = 5 ∨ t.toInt = 6 ∨ t.toInt = 7 ∨ t.toInt = 8 ∨ t.toInt = 9 ∨ t.toInt = 10 by omega) with q | q | q | q | q | q | q | q | q | q | q <;> rw [q] <;> omega
  have c3 := x_toInt (a := σ (25 + ix b) (ix m) - σ (25 + ix a) (ix m)) (b := t) (by omega) (by omega)
  have z10 : (10 : Int32).toInt = 10 := by decide
  have c4 := dv_le (a := (σ (25 + ix b) (ix m) - σ (25 + ix a) (ix m)) * t) (b := 10) (z := 90) (by omega) (by omega) (by omega) (by omega)
  have c5 := dv_ge (a := (σ (25 + ix b) (ix m) - σ (25 + ix a) (ix m)) * t) (b := 10) (by omega) (by omega)
  have c6 := a_toInt (a := σ (25 + ix a) (ix m)) (b := (σ (25 + ix b) (ix m) - σ (25 + ix a) (ix m)) * t / 10) (by omega) (by omega)
  omega
theorem st_13 {a b : Int32} : ∀ (n : Nat) (k : Int32) (σ τ : St), R j σ τ → (0 ≤ a.toInt ∧ a.toInt < (τ 0 1).toInt) → (0 ≤ b.toInt ∧ b.toInt < (τ 0 1).toInt) → 0 ≤ k.toInt → (match lp_X3_steals_13 a b n k σ, lp_X4_steals_13 a b n k τ with | Sum.inl r, Sum.inl s => r.1 = s.1 ∧ R j r.2 s.2 | Sum.inr S, Sum.inr T => R j S T | _, _ => False) := by
  intro n
  induction n with
  | zero => intro k σ τ h _ _ h0; exact h
  | succ n ih =>
    intro k σ τ h ha hb h0
    have z0 : (0 : Int32).toInt = 0 := by decide
    rw [lp_X3_steals_13, lp_X4_steals_13]
    by_cases c : (10 : Int32) < k
    · rw [if_pos c, if_pos c]; exact h
    have c' := qt_nlt c
    have z10 : (10 : Int32).toInt = 10 := by decide
    have h5 := inc_toInt (a := k) h0 (by omega)
    rw [if_neg c, if_neg c]
    obtain ⟨x1, x2⟩ := st_X3 (a := a) (b := b) (t := k) 200 0 σ (by decide) (by decide) (by omega)
    obtain ⟨m1, m2⟩ := st_X4 (a := a) (b := b) (t := k) 200 0 τ (by decide) (by decide) (by omega)
    generalize lp_X3_steals_22 a b k 200 0 σ = S at x1 x2 ⊢
    generalize lp_X4_steals_22 a b k 200 0 τ = T at m1 m2 ⊢
    have r := R_s6 h x1 m1
    have et : T 0 = τ 0 := m1 0 (by omega)
    have e : f_X3_areAlike S 6 (25 + ix b) = f_X4_isTaken T b := by
      refine R_alike r (by rw [et]; exact hb) (fun m q0 q1 => ?_)
      rw [x2 m q0 q1, m2 m q0 q1, if_neg (by omega), if_neg (by omega)]
      exact ⟨R_near h ha hb ⟨q0, q1⟩, nb_le h ha hb ⟨h0, by omega⟩ ⟨q0, q1⟩⟩
    rw [e]
    by_cases d : f_X4_isTaken T b = 0
    · rw [if_pos d, if_pos d]
      exact ih _ _ _ r (by rw [et]; exact ha) (by rw [et]; exact hb) (by omega)
    · rw [if_neg d, if_neg d]
      exact ⟨rfl, r⟩
theorem q_steals (h : R j σ τ) (hj : j < 512) (a0 a1 : Int32) : (f_X3_steals σ a0 a1).1 = (f_X4_steals τ a0 a1).1 ∧ R (j + 1) (f_X3_steals σ a0 a1).2 (f_X4_steals τ a0 a1).2 := by
  unfold f_X3_steals f_X4_steals
  by_cases g1 : f_X4_areTwo τ a0 a1 = 0
  · rw [if_pos ((R_two h).mpr g1), if_pos g1]; exact ⟨rfl, R_up h⟩
  rw [if_neg (fun q => g1 ((R_two h).mp q)), if_neg g1]
  have ht := areTwo_n.mp g1
  have e := st_13 (a := a0) (b := a1) 200 0 σ τ h ht.1 ht.2.1 (by decide)
  generalize lp_X3_steals_13 a0 a1 200 0 σ = u at e ⊢
  generalize lp_X4_steals_13 a0 a1 200 0 τ = v at e ⊢
  cases u with
  | inl r =>
    cases v with
    | inl s => exact ⟨e.1, R_up e.2⟩
    | inr s => exact e.elim
  | inr r =>
    cases v with
    | inl s => exact e.elim
    | inr s => exact ⟨rfl, R_up e⟩
theorem q_paper (h : R j σ τ) (hj : j < 512) (a0 a1 a2 : Int32) : (f_X3_paper σ a0 a1 a2).1 = (f_X4_paper τ a0 a1 a2).1 ∧ R (j + 1) (f_X3_paper σ a0 a1 a2).2 (f_X4_paper τ a0 a1 a2).2 := by
  unfold f_X3_paper f_X4_paper
  by_cases g1 : f_X4_areTwo τ a0 a1 = 0
  · rw [if_pos ((R_two h).mpr g1), if_pos g1]; exact ⟨rfl, R_up h⟩
  rw [if_neg (fun q => g1 ((R_two h).mp q)), if_neg g1]
  have ht := areTwo_n.mp g1
  by_cases w : 0 ≤ a2.toInt ∧ a2.toInt ≤ 9
  case neg => rw [rng_n w (by decide) (by decide), if_pos (in_n w (by decide) (by decide))]; exact ⟨rfl, R_up h⟩
  rw [rng_p w (by decide) (by decide), if_neg (in_p w (by decide) (by decide))]
  have h' := h
  obtain ⟨b1, b2, b3, b4, b5, b6, b7, b8, b9, b10⟩ := h'
  have z8 : (8 : Int32).toInt = 8 := by decide
  have n8 := b2.2.1
  rw [b3.2.1]
  by_cases c : τ 0 11 = 8
  · have c' := qt_eq c
    rw [if_pos c, if_neg (qm_nlt (by omega))]; exact ⟨rfl, R_up h⟩
  have c' := qt_ne c
  rw [if_neg c, if_pos (qm_lt (by omega))]
  have en := ix_toInt n8.1
  have e1 := inc_toInt (a := τ 0 11) n8.1 (by omega)
  have xo : ∀ (S : St) (k : Nat) (v : Int32) (i : Nat), u2 S (33 + ix (τ 0 11)) k v 0 i = S 0 i := fun S k v i => u2_o (by omega) i
  have o6 : ∀ (S : St) (k : Nat) (v : Int32) (i : Nat), u2 S 6 k v 0 i = S 0 i := fun S k v i => u2_o (by omega) i
  have o7 : ∀ (S : St) (k : Nat) (v : Int32) (i : Nat), u2 S 7 k v 0 i = S 0 i := fun S k v i => u2_o (by omega) i
  have o8 : ∀ (S : St) (k : Nat) (v : Int32) (i : Nat), u2 S 8 k v 0 i = S 0 i := fun S k v i => u2_o (by omega) i
  have o9 : ∀ (S : St) (k : Nat) (v : Int32) (i : Nat), u2 S 9 k v 0 i = S 0 i := fun S k v i => u2_o (by omega) i
  have o10 : ∀ (S : St) (k : Nat) (v : Int32) (i : Nat), u2 S 10 k v 0 i = S 0 i := fun S k v i => u2_o (by omega) i
  have o11 : ∀ (S : St) (k : Nat) (v : Int32) (i : Nat), u2 S 11 k v 0 i = S 0 i := fun S k v i => u2_o (by omega) i
  simp only [xo, o6, o7, o8, o9, o10, o11, u2_self, b3.2.1, b3.2.2.1]
  refine ⟨by first | trivial | rfl, ?_⟩
  have n18 := b2.1.2
  have hp8 : ix (τ 0 11) < 8 := by omega
  generalize ix (τ 0 11) = n at en xo hp8 ⊢
  refine R_mk h ?_ ?_ ?_ (by rw [u2_nk (by omega), o11, o10, o9, o8, o7, o6]) (by rw [u2_nk (by omega), o11, o10, o9, o8, o7, o6]; exact b5) (fun x hx => ?_) ?_ ?_ ?_ (fun m hm hn => ?_) (fun p hp => ?_) (fun k hk => ?_)
  · obtain ⟨a1', a2', a3', a4', a5', a6'⟩ := b1
    refine ⟨by rw [u2_nk (by omega), xo, xo, xo, xo, xo, xo]; exact a1', by rw [u2_self]; omega, fun m hm hn => by rw [u2_nk (by omega), xo, xo, xo, xo, xo, xo] at hn; rw [u2_nc (by omega), u2_nc (by omega), u2_nc (by omega), u2_nc (by omega), u2_nc (by omega), u2_nc (by omega), u2_nc (by omega)]; exact a3' m hm hn, fun q hq => by rw [u2_nc (by omega), u2_nc (by omega), u2_nc (by omega), u2_nc (by omega), u2_nc (by omega), u2_nc (by omega), u2_nc (by omega)]; exact a4' q hq, fun p hp => ?_, by rw [u2_nk (by omega), xo, xo, xo, xo, xo, xo]; exact a6'⟩
    rw [u2_nc (by omega)]
    by_cases e : p = n
    · subst e
      rw [u2_nk (by omega), u2_nk (by omega), u2_nk (by omega), u2_nk (by omega), u2_nk (by omega), u2_self, u2_nk (by omega), u2_nk (by omega), u2_nk (by omega), u2_nk (by omega), u2_self]
      exact ⟨vpi (by omega) (by omega), vpi (by omega) (by omega)⟩
    · rw [u2_nc (by omega), u2_nc (by omega), u2_nc (by omega), u2_nc (by omega), u2_nc (by omega), u2_nc (by omega)]
      exact a5' p hp
  · obtain ⟨a1', a2', a3', a4', a5', a6', a7', a8'⟩ := b2
    refine ⟨by rw [u2_nk (by omega), o11, o10, o9, o8, o7, o6]; exact a1', by rw [u2_self]; omega, fun m hm hn => by rw [u2_nk (by omega), o11, o10, o9, o8, o7, o6] at hn; rw [u2_nc (by omega), u2_nc (by omega), u2_nc (by omega), u2_nc (by omega), u2_nc (by omega), u2_nc (by omega), u2_nc (by omega)]; exact a3' m hm hn, fun q hq => by rw [u2_nc (by omega), u2_nc (by omega), u2_nc (by omega), u2_nc (by omega), u2_nc (by omega), u2_nc (by omega), u2_nc (by omega)]; exact a4' q hq, fun p hp => ?_, by rw [u2_nk (by omega), o11, o10, o9, o8, o7, o6]; exact a6', fun p hp => ?_, Or.inr (by rw [u2_nk (by omega), o11, o10, o9, o8, o7, o6]; omega)⟩
    · rw [u2_nc (by omega), u2_nc (by omega), u2_nc (by omega), u2_nc (by omega), u2_nc (by omega), u2_nc (by omega), u2_nc (show (7 : Nat) ≠ 0 by omega), u2_nc (show (7 : Nat) ≠ 11 by omega), u2_nc (show (7 : Nat) ≠ 10 by omega), u2_nc (show (7 : Nat) ≠ 9 by omega), u2_nc (show (7 : Nat) ≠ 8 by omega)]
      by_cases e : p = n
      · subst e
        rw [u2_self, u2_self]
        exact ⟨vpi (by omega) (by omega), vpi (by omega) (by omega)⟩
      · rw [u2_nk e, u2_nk e, u2_nc (by omega)]
        exact a5' p hp
    · rw [u2_nc (by omega), u2_nc (by omega), u2_nc (by omega), u2_nc (by omega)]
      by_cases e : p = n
      · subst e
        rw [u2_self]; exact a6'
      · rw [u2_nk e, u2_nc (by omega), u2_nc (by omega)]
        exact a7' p hp
  · rw [u2_self, u2_self, u2_nk (by omega), u2_nk (by omega), u2_nk (by omega), u2_nk (by omega), u2_nk (by omega), u2_nk (by omega), u2_nk (by omega), u2_nk (by omega), u2_nk (by omega), u2_nk (by omega)]
    simp only [xo, o6, o7, o8, o9, o10, o11]
    exact ⟨b3.1, by first | trivial | rfl, b3.2.2.1, b3.2.2.2.1, b3.2.2.2.2.1, b3.2.2.2.2.2⟩
  · exact ⟨by rw [u2_nc (by omega), u2_nc (by omega), u2_nc (by omega), u2_nc (by omega), u2_nc (by omega), u2_nc (by omega), u2_nc (by omega)], by rw [u2_nc (by omega), u2_nc (by omega), u2_nc (by omega), u2_nc (by omega), u2_nc (by omega), u2_nc (by omega), u2_nc (by omega)]⟩
  · rw [u2_nc (by omega), u2_nc (by omega), u2_nc (by omega), u2_nc (by omega), u2_nc (by omega), u2_nc (by omega), u2_nc (by omega)]
  · rw [u2_nc (by omega), u2_nc (by omega), u2_nc (by omega), u2_nc (by omega), u2_nc (by omega), u2_nc (by omega), u2_nc (by omega)]
  · rw [u2_nc (by omega), u2_nc (by omega), u2_nc (by omega), u2_nc (by omega), u2_nc (by omega), u2_nc (by omega), u2_nc (by omega)]
  · rw [u2_nc (by omega), u2_nc (by omega), u2_nc (by omega), u2_nc (by omega), u2_nc (by omega), u2_nc (by omega), u2_nc (by omega), u2_nc (show (3 : Nat) ≠ 0 by omega), u2_nc (show (3 : Nat) ≠ 11 by omega), u2_nc (show (3 : Nat) ≠ 10 by omega), u2_nc (show (3 : Nat) ≠ 9 by omega), u2_nc (show (3 : Nat) ≠ 8 by omega), u2_nc (show (3 : Nat) ≠ 7 by omega), u2_nc (show (3 : Nat) ≠ 6 by omega)]
    exact b7 m hm hn
  · rw [u2_self] at hp
    by_cases e : p = n
    · subst e
      unfold Rpap
      rw [u2_nc (show 33 + p ≠ 0 by omega)]
      rw [u2_self, u2_nk (show (0 : Nat) ≠ 5 by omega), u2_nk (show (0 : Nat) ≠ 4 by omega), u2_nk (show (0 : Nat) ≠ 3 by omega), u2_nk (show (0 : Nat) ≠ 2 by omega), u2_nk (show (0 : Nat) ≠ 1 by omega), u2_self, u2_nk (show (1 : Nat) ≠ 5 by omega), u2_nk (show (1 : Nat) ≠ 4 by omega), u2_nk (show (1 : Nat) ≠ 3 by omega), u2_nk (show (1 : Nat) ≠ 2 by omega), u2_self, u2_nk (show (2 : Nat) ≠ 5 by omega), u2_nk (show (2 : Nat) ≠ 4 by omega), u2_nk (show (2 : Nat) ≠ 3 by omega), u2_self, u2_nk (show (3 : Nat) ≠ 5 by omega), u2_nk (show (3 : Nat) ≠ 4 by omega), u2_self, u2_nk (show (4 : Nat) ≠ 5 by omega), u2_self]
      rw [u2_nc (show (6 : Nat) ≠ 0 by omega), u2_nc (show (6 : Nat) ≠ 11 by omega), u2_nc (show (6 : Nat) ≠ 10 by omega), u2_nc (show (6 : Nat) ≠ 9 by omega), u2_nc (show (6 : Nat) ≠ 8 by omega), u2_nc (show (6 : Nat) ≠ 7 by omega), u2_self, u2_nc (show (7 : Nat) ≠ 0 by omega), u2_nc (show (7 : Nat) ≠ 11 by omega), u2_nc (show (7 : Nat) ≠ 10 by omega), u2_nc (show (7 : Nat) ≠ 9 by omega), u2_nc (show (7 : Nat) ≠ 8 by omega), u2_self, u2_nc (show (8 : Nat) ≠ 0 by omega), u2_nc (show (8 : Nat) ≠ 11 by omega), u2_nc (show (8 : Nat) ≠ 10 by omega), u2_nc (show (8 : Nat) ≠ 9 by omega), u2_self, u2_nc (show (9 : Nat) ≠ 0 by omega), u2_nc (show (9 : Nat) ≠ 11 by omega), u2_nc (show (9 : Nat) ≠ 10 by omega), u2_self, u2_nc (show (10 : Nat) ≠ 0 by omega), u2_nc (show (10 : Nat) ≠ 11 by omega), u2_self, u2_nc (show (11 : Nat) ≠ 0 by omega), u2_self, u2_nk (show (1 : Nat) ≠ 11 by omega), u2_nk (show (2 : Nat) ≠ 11 by omega)]
      simp only [o6, o7, o8, o9, o10, o11]
      have z0 : (0 : Int32).toInt = 0 := by decide
      refine ⟨?_, ht.1, ht.2.1, ht.2.2, ⟨b2.2.2.2.2.2.1.1, by omega⟩, w, by omega, by omega⟩
      first | trivial | exact ⟨rfl, rfl, rfl, rfl, rfl, rfl⟩ | simp
    · refine Rpap_up (Nat.le_succ j) (Rpap_congr (b8 p (by omega)) ?_ ?_ ?_ ?_)
      · rw [u2_nc (by omega), u2_nc (by omega), u2_nc (by omega), u2_nc (by omega), u2_nc (by omega), u2_nc (by omega), u2_nc (by omega)]
      · rw [u2_nk (by omega), o11, o10, o9, o8, o7, o6]
      · rw [u2_nk (by omega), o11, o10, o9, o8, o7, o6]
      · rw [u2_nc (show (6 : Nat) ≠ 0 by omega), u2_nc (show (6 : Nat) ≠ 11 by omega), u2_nc (show (6 : Nat) ≠ 10 by omega), u2_nc (show (6 : Nat) ≠ 9 by omega), u2_nc (show (6 : Nat) ≠ 8 by omega), u2_nc (show (6 : Nat) ≠ 7 by omega), u2_nc (show (7 : Nat) ≠ 0 by omega), u2_nc (show (7 : Nat) ≠ 11 by omega), u2_nc (show (7 : Nat) ≠ 10 by omega), u2_nc (show (7 : Nat) ≠ 9 by omega), u2_nc (show (7 : Nat) ≠ 8 by omega), u2_nc (show (8 : Nat) ≠ 0 by omega), u2_nc (show (8 : Nat) ≠ 11 by omega), u2_nc (show (8 : Nat) ≠ 10 by omega), u2_nc (show (8 : Nat) ≠ 9 by omega), u2_nc (show (9 : Nat) ≠ 0 by omega), u2_nc (show (9 : Nat) ≠ 11 by omega), u2_nc (show (9 : Nat) ≠ 10 by omega), u2_nc (show (10 : Nat) ≠ 0 by omega), u2_nc (show (10 : Nat) ≠ 11 by omega), u2_nc (show (11 : Nat) ≠ 0 by omega), u2_nk e, u2_nk e, u2_nk e, u2_nk e, u2_nk e, u2_nk e, u2_nc (show (7 : Nat) ≠ 6 by omega), u2_nc (show (8 : Nat) ≠ 7 by omega), u2_nc (show (8 : Nat) ≠ 6 by omega), u2_nc (show (9 : Nat) ≠ 8 by omega), u2_nc (show (9 : Nat) ≠ 7 by omega), u2_nc (show (9 : Nat) ≠ 6 by omega), u2_nc (show (10 : Nat) ≠ 9 by omega), u2_nc (show (10 : Nat) ≠ 8 by omega), u2_nc (show (10 : Nat) ≠ 7 by omega), u2_nc (show (10 : Nat) ≠ 6 by omega), u2_nc (show (11 : Nat) ≠ 10 by omega), u2_nc (show (11 : Nat) ≠ 9 by omega), u2_nc (show (11 : Nat) ≠ 8 by omega), u2_nc (show (11 : Nat) ≠ 7 by omega), u2_nc (show (11 : Nat) ≠ 6 by omega)]
        exact ⟨rfl, rfl, rfl, rfl, rfl, rfl⟩
  · refine Rsh_congr (b9 k hk) ?_ ?_ ?_ ?_ (fun i _ => ?_)
    · rw [u2_nc (by omega), u2_nc (by omega), u2_nc (by omega), u2_nc (by omega), u2_nc (by omega), u2_nc (by omega), u2_nc (by omega)]
    · rw [u2_nc (by omega), u2_nc (by omega), u2_nc (by omega), u2_nc (by omega), u2_nc (by omega), u2_nc (by omega), u2_nc (by omega)]
    · rw [u2_nc (by omega), u2_nc (by omega), u2_nc (by omega), u2_nc (by omega), u2_nc (by omega), u2_nc (by omega), u2_nc (by omega)]
    · rw [u2_nc (by omega), u2_nc (by omega), u2_nc (by omega), u2_nc (by omega), u2_nc (by omega), u2_nc (by omega), u2_nc (by omega)]
    · rw [u2_nc (by omega), u2_nc (by omega), u2_nc (by omega), u2_nc (by omega), u2_nc (by omega), u2_nc (by omega), u2_nc (by omega)]
end REL7
