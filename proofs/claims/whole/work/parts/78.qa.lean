/-! who and odds -/
theorem u2_comm {S : St} {c c' k k' : Nat} {v v' : Int32} (h : c ≠ c') : u2 (u2 S c k v) c' k' v' = u2 (u2 S c' k' v') c k v := by
  funext d i
  by_cases d1 : d = c'
  · subst d1
    rw [u2_nc (show d ≠ c from fun q => h q.symm)]
    by_cases i1 : i = k'
    · subst i1; rw [u2_self, u2_self]
    · rw [u2_nk i1, u2_nk i1, u2_nc (fun q => h q.symm)]
  · rw [u2_nc d1]
    by_cases d2 : d = c
    · subst d2
      by_cases i1 : i = k
      · subst i1; rw [u2_self, u2_self]
      · rw [u2_nk i1, u2_nk i1, u2_nc d1]
    · rw [u2_nc d2, u2_nc d2, u2_nc d1]
section CONGR
variable {τ T : St}
theorem f51_congr {a5 : Int32} : ∀ (n : Nat) (a6 a7 : Int32), lp_X4_fades_51 T a5 n a6 a7 = lp_X4_fades_51 τ a5 n a6 a7 := by
  intro n
  induction n with
  | zero => intro a6 a7; rfl
  | succ n ih => intro a6 a7; rw [lp_X4_fades_51, lp_X4_fades_51, ih]
theorem fades_congr (e : ∀ c, c ≠ 0 → T c = τ c) {x m ink y : Int32} : f_X4_fades T x m ink y = f_X4_fades τ x m ink y := by
  unfold f_X4_fades
  rw [f51_congr (τ := τ), e 1 (by omega), e 3 (by omega)]
theorem mb_congr (e : ∀ c, c ≠ 0 → T c = τ c) {x hr w f : Int32} : ∀ (n : Nat) (s k : Int32), lp_X4_mayBe_6 T x hr w f n s k = lp_X4_mayBe_6 τ x hr w f n s k := by
  intro n
  induction n with
  | zero => intro s k; rfl
  | succ n ih =>
    intro s k
    have es : f_X4_strong T x k = f_X4_strong τ x k := by unfold f_X4_strong; rw [e 2 (by omega)]
    rw [lp_X4_mayBe_6, lp_X4_mayBe_6, ih, es, fades_congr e, e 16 (by omega)]
theorem mayBe_congr (e : ∀ c, c ≠ 0 → T c = τ c) (e3 : T 0 3 = τ 0 3) {x hr w f : Int32} : f_X4_mayBe T x hr w f = f_X4_mayBe τ x hr w f := by
  unfold f_X4_mayBe
  rw [mb_congr e, e3]
theorem c_83 {a b d x v : Int32} : ∀ (n : Nat) (k : Int32) (τ : St), lp_X4_laysHours_83 a b d x n k (u2 τ 0 0 v) = u2 (lp_X4_laysHours_83 a b d x n k τ) 0 0 v := by
  intro n
  induction n with
  | zero => intro k τ; rfl
  | succ n ih =>
    intro k τ
    rw [lp_X4_laysHours_83, lp_X4_laysHours_83]
    by_cases h : 10 ≤ k
    · rw [if_pos h, if_pos h]
    · rw [if_neg h, if_neg h, ← ih, mayBe_congr (τ := τ) (fun c hc => u2_nc hc) (u2_nk (by omega)), u2_nc (show (13 : Nat) ≠ 0 by omega), u2_comm (show (0 : Nat) ≠ 13 by omega)]
theorem c_59 {a b d v : Int32} : ∀ (n : Nat) (k : Int32) (τ : St), lp_X4_laysHours_59 a b d n k (u2 τ 0 0 v) = u2 (lp_X4_laysHours_59 a b d n k τ) 0 0 v := by
  intro n
  induction n with
  | zero => intro k τ; rfl
  | succ n ih =>
    intro k τ
    rw [lp_X4_laysHours_59, lp_X4_laysHours_59, u2_nk (show (1 : Nat) ≠ 0 by omega)]
    by_cases h : τ 0 1 ≤ k
    · rw [if_pos h, if_pos h]
    · rw [if_neg h, if_neg h]
      by_cases hd : d = 0
      · rw [if_pos hd, if_pos hd]
      · rw [if_neg hd, if_neg hd, u2_comm (show (0 : Nat) ≠ 13 by omega), c_83, ih]
theorem lh_13_n {w f : Int32} : ∀ (N : Nat) (k : Int32), 0 ≤ k.toInt → k.toInt ≤ 9 → 9 - k.toInt < N → ¬ lp_X4_laysHours_13 τ w f N 1 k = 0 → lp_X4_laysHours_13 τ w f N 1 k = 1 ∧ ∀ m : Int32, k.toInt ≤ m.toInt → m.toInt < 9 → 0 ≤ (τ 16 (ix (f + m))).toInt ∧ (τ 16 (ix (f + m))).toInt ≤ 99 := by
  intro N
  induction N with
  | zero => intro k h0 h1 h2; omega
  | succ N ih =>
    intro k h0 h1 h2
    have z9 : (9 : Int32).toInt = 9 := by decide
    rw [lp_X4_laysHours_13]
    by_cases c : 9 ≤ k
    · have := qt_le c
      rw [if_pos c]; exact fun _ => ⟨rfl, fun m q0 q1 => by omega⟩
    have c' := qt_nle c
    have h5 := inc_toInt (a := k) h0 (by omega)
    rw [if_neg c, if_neg (show ¬ (1 : Int32) = 0 by decide)]
    by_cases g : 0 ≤ (τ 16 (ix (f + k))).toInt ∧ (τ 16 (ix (f + k))).toInt ≤ 99
    · rw [if_neg (in_p g (by decide) (by decide))]
      intro q
      obtain ⟨i1, i2⟩ := ih (k + 1) (by omega) (by omega) (by omega) q
      refine ⟨i1, fun m m0 m1 => ?_⟩
      by_cases e : m = k
      · rw [e]; exact g
      · have := qt_ne e
        exact i2 m (by omega) m1
    · rw [if_pos (in_n g (by decide) (by decide))]
      exact fun q => absurd (lh_13_0 _ _) q
theorem lays_n {w f : Int32} (h : ¬ (f_X4_laysHours τ w f).1 = 0) : (f_X4_laysHours τ w f).1 = 1 ∧ (0 ≤ w.toInt ∧ w.toInt ≤ 3) ∧ ∀ m : Int32, 0 ≤ m.toInt → m.toInt < 9 → 0 ≤ (τ 16 (ix (f + m))).toInt ∧ (τ 16 (ix (f + m))).toInt ≤ 99 := by
  have e : (f_X4_laysHours τ w f).1 = lp_X4_laysHours_13 τ w f 200 (f_X4_in w.toInt64 0 3) 0 := rfl
  rw [e] at h ⊢
  by_cases g : 0 ≤ w.toInt ∧ w.toInt ≤ 3
  · have g1 : f_X4_in w.toInt64 0 3 = 1 := (bo_X4_in (v := w.toInt64) (l := 0) (h := 3)).resolve_left (in_p g (by decide) (by decide))
    rw [g1] at h ⊢
    have z0 : (0 : Int32).toInt = 0 := by decide
    obtain ⟨i1, i2⟩ := lh_13_n 200 0 (by decide) (by decide) (by omega) h
    exact ⟨i1, g, fun m m0 m1 => i2 m (by omega) m1⟩
  · rw [in_n g (by decide) (by decide), lh_13_0] at h
    exact absurd rfl h
end CONGR
theorem sp_has {σ : St} {k lane i : Int32} {n : Int64} (z : (f_X3_spanRefusal σ k lane i n).1 = 0) : σ (9 + ix k) 0 ≠ 0 := by
  intro q
  unfold f_X3_spanRefusal at z
  by_cases h1 : f_X3_isSheet k = 0
  · rw [if_pos h1] at z; exact absurd z (by show ¬ (-1 : Int32) = 0; decide)
  rw [if_neg h1] at z
  by_cases h2 : f_X3_isLane lane = 0
  · rw [if_pos h2] at z; exact absurd z (by show ¬ (-2 : Int32) = 0; decide)
  rw [if_neg h2, if_pos q, if_pos q] at z
  exact absurd z (by show ¬ (-10 - 1 : Int32) = 0; decide)
section REL10
variable {j : Nat} {σ τ : St}
/-- what both sides have once a door has been read -/
theorem R_lays (h : R j σ τ) {k i w p1 p6 : Int32} {S : St} (hS : S = u2 σ 0 9 0) (hk : 0 ≤ k.toInt ∧ k.toInt < 4) (hc : ∀ m : Int32, 0 ≤ m.toInt → m.toInt < 9 → S (13 + ix k) (ix (i + m)) = τ 16 (ix (90 * k + i + m))) (hf : ¬ (f_X4_laysHours τ w (90 * k + i)).1 = 0) : (∀ y : Nat, (y : Int) < (τ 0 1).toInt → (f_X3_countHours S w (ix k) i).2 7 y = (f_X4_laysHours τ w (90 * k + i)).2 13 y) ∧ (f_X3_countHours S w (ix k) i).1 = lp_X4_odds_82 (f_X4_laysHours τ w (90 * k + i)).2 p1 p6 200 0 0 := by
  obtain ⟨l1, l2, l3⟩ := lays_n hf
  have r := R_fault h 0
  rw [← hS] at r
  have d : Door S (u2 τ 0 0 0) w i (90 * k + i) (ix k) := ⟨l2, fun m m0 m1 => by rw [u2_nc (by omega)]; exact ⟨hc m m0 m1, l3 m m0 m1⟩⟩
  have e0 := ix_toInt hk.1
  have h8 := h.2.1.1.2
  have z0 : (0 : Int32).toInt = 0 := by decide
  obtain ⟨i1, i2, i3⟩ := hr_6 (p1 := p1) (p6 := p6) 200 0 0 S (u2 τ 0 0 0) r d (by omega) (by decide) (by rw [u2_nk (by omega)]; omega) (fun y yl => by omega)
  have el : (f_X4_laysHours τ w (90 * k + i)).2 = lp_X4_laysHours_59 w (90 * k + i) (f_X4_laysHours τ w (90 * k + i)).1 200 0 τ := rfl
  rw [l1] at el
  rw [el, countHours_eq]
  rw [c_59] at i1 i2
  refine ⟨fun y yl => ?_, ?_⟩
  · rw [i1 y (by rw [u2_nk (by omega)]; exact yl), u2_nc (by omega)]
  · rw [i2]
    generalize lp_X4_laysHours_59 w (90 * k + i) 1 200 0 τ = T
    have oc : ∀ (n : Nat) (a b : Int32), lp_X4_odds_82 (u2 T 0 0 0) p1 p6 n a b = lp_X4_odds_82 T p1 p6 n a b := by
      intro n
      induction n with
      | zero => intro a b; rfl
      | succ n ih => intro a b; rw [lp_X4_odds_82, lp_X4_odds_82, ih, u2_nk (show (1 : Nat) ≠ 0 by omega), u2_nc (show (13 : Nat) ≠ 0 by omega)]
    exact oc _ _ _
theorem q_who (h : R j σ τ) (hj : j < 512) (a0 a1 a2 a3 : Int32) : (f_X3_who σ a0 a1 a2 a3).1 = (f_X4_who τ a0 a1 a2 a3).1 ∧ R (j + 1) (f_X3_who σ a0 a1 a2 a3).2 (f_X4_who τ a0 a1 a2 a3).2 := by
  unfold f_X3_who f_X4_who
  rcases R_span h (k := a1) (lane := a2) (i := a3) (n := 9) (by decide) with ⟨ex, ey⟩ | ⟨n1, n2, n3, v, v1, v2⟩
  case inr =>
    rw [if_neg n1, if_neg n2]
    refine ⟨n3, ?_⟩
    show R (j + 1) (f_X3_spanRefusal σ a1 a2 a3 9).2 (f_X4_barred τ a1 a2 a3 9).2
    rw [v1, v2]
    exact R_up (R_fault h v)
  have z : (f_X3_spanRefusal σ a1 a2 a3 9).1 = 0 := by rw [ex]
  obtain ⟨hk, hc⟩ := R_door h (w := a0) rfl z (sp_has z)
  rw [ex, ey]
  dsimp only
  rw [if_pos rfl, if_pos (show (0 : Int32) ≤ 0 by decide), door_eq (T := τ) hc]
  have fin : ∀ (X : St) (v : Int32), (∀ c, c ≠ 7 → X c = u2 σ 0 9 0 c) → R (j + 1) X (u2 (f_X4_laysHours τ a0 (90 * a1 + a3)).2 0 0 0) := fun X v hX => R_up (R_fs h (fun k hk => by rw [hX 0 (by omega), u2_nk hk]) (fun k k0 _ _ => by rw [u2_nk k0, fr_X4_laysHours (by omega)]) (by rw [hX 0 (by omega), u2_self, u2_self]) (fun c c0 _ _ c7 => by rw [hX c c7, u2_nc c0]) (fun c c0 _ _ _ c13 _ => by rw [u2_nc c0, fr_X4_laysHours c13]))
  by_cases f : (f_X4_laysHours τ a0 (90 * a1 + a3)).1 = 0
  · rw [if_pos f, if_pos f]
    exact ⟨rfl, fin _ 0 (fun c _ => rfl)⟩
  rw [if_neg f, if_neg f]
  obtain ⟨l1, l2⟩ := R_lays h (p1 := 0) (p6 := 0) rfl hk hc f
  refine ⟨?_, fin _ 0 (fun c hc => fr_X3_countHours hc)⟩
  have h8 := h.2.1.1.2
  have e0 : (f_X4_laysHours τ a0 (90 * a1 + a3)).2 0 = τ 0 := fr_X4_laysHours (by omega)
  have s0 : (f_X3_countHours (u2 σ 0 9 0) a0 (ix a1) a3).2 0 4 = σ 0 4 := by rw [fr_X3_countHours (by omega), u2_nk (by omega)]
  exact wh_63 (by rw [s0, e0]; exact h.2.2.1.1) (by rw [e0]; exact h8) (fun y yl => l1 y (by rw [e0] at yl; exact yl)) 200 (-9) 0 0 (by decide) (Or.inl ⟨rfl, rfl⟩)
theorem told_eq : ∀ a : Nat, a < 11 → ∀ b : Nat, b < 101 → b ≠ 0 → (f_X3_ofShare (nI a) (nI b) 0).toInt64 = f_X4_told (nI a).toInt64 (nI b).toInt64 0 ∧ (f_X3_ofShare (nI a) (nI b) 1).toInt64 = f_X4_told (nI a).toInt64 (nI b).toInt64 1 := by decide +kernel
end REL10
