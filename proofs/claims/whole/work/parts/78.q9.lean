/-! the hours: who and odds, in step -/
section REL9
variable {j : Nat} {σ τ : St}
theorem ix_add {a b : Int32} (ha : 0 ≤ a.toInt) (hb : 0 ≤ b.toInt) (h : a.toInt + b.toInt < 2147483648) : ix (a + b) = ix a + ix b := by
  have e2 := a_toInt (a := a) (b := b) (by omega) (by omega)
  have e3 := ix_toInt (x := a + b) (by omega)
  have e4 := ix_toInt ha
  have e5 := ix_toInt hb
  omega
theorem lh_13_0 {w f : Int32} : ∀ (N : Nat) (k : Int32), lp_X4_laysHours_13 τ w f N 0 k = 0 := by
  intro N
  induction N with
  | zero => intro k; rfl
  | succ N ih =>
    intro k
    rw [lp_X4_laysHours_13]
    exact ite_ind (P := fun z : Int32 => z = 0) (fun _ => rfl) (fun _ => ite_ind (P := fun z : Int32 => z = 0) (fun _ => ih _) (fun q => absurd rfl q))
/-- the door's numbers, checked on both sides -/
theorem door_2 {S T : St} {w i f : Int32} {q : Nat} (hc : ∀ k : Int32, 0 ≤ k.toInt → k.toInt < 9 → S (13 + q) (ix (i + k)) = T 16 (ix (f + k))) : ∀ (N : Nat) (k : Int32), 0 ≤ k.toInt → k.toInt ≤ 9 → (match lp_X3_isDoor_2 S q i w N k with | Sum.inl r => r = 0 ∧ lp_X4_laysHours_13 T w f N 1 k = 0 | Sum.inr _ => lp_X4_laysHours_13 T w f N 1 k = 1) := by
  intro N
  induction N with
  | zero => intro k h0 h1; rfl
  | succ N ih =>
    intro k h0 h1
    rw [lp_X3_isDoor_2, lp_X4_laysHours_13]
    have z9 : (9 : Int32).toInt = 9 := by decide
    by_cases c : 9 ≤ k
    · rw [if_pos c, if_pos c]
    have c' := qt_nle c
    have h5 := inc_toInt (a := k) h0 (by omega)
    rw [if_neg c, if_neg c, if_neg (show ¬ (1 : Int32) = 0 by decide), hc k h0 (by omega)]
    by_cases g : 0 ≤ (T 16 (ix (f + k))).toInt ∧ (T 16 (ix (f + k))).toInt ≤ 99
    · rw [rng_p g (by decide) (by decide), if_neg (in_p g (by decide) (by decide))]
      exact ih _ (by omega) (by omega)
    · rw [rng_n g (by decide) (by decide), if_pos (in_n g (by decide) (by decide))]
      exact ⟨rfl, lh_13_0 _ _⟩
theorem door_eq {S T : St} {w i f : Int32} {q : Nat} (hc : ∀ k : Int32, 0 ≤ k.toInt → k.toInt < 9 → S (13 + q) (ix (i + k)) = T 16 (ix (f + k))) : f_X3_isDoor S q i w = (f_X4_laysHours T w f).1 := by
  show f_X3_isDoor S q i w = lp_X4_laysHours_13 T w f 200 (f_X4_in w.toInt64 0 3) 0
  unfold f_X3_isDoor
  have e := door_2 (w := w) hc 200 0 (by decide) (by decide)
  by_cases g : 0 ≤ w.toInt ∧ w.toInt ≤ 3
  · have g1 : f_X4_in w.toInt64 0 3 = 1 := (bo_X4_in (v := w.toInt64) (l := 0) (h := 3)).resolve_left (in_p g (by decide) (by decide))
    rw [g1]
    generalize lp_X3_isDoor_2 S q i w 200 0 = z at e ⊢
    cases z with
    | inl r => dsimp only at e ⊢; rw [e.1, e.2]
    | inr _ => dsimp only at e ⊢; rw [e, rng2_p g (by decide) (by decide)]
  · rw [in_n g (by decide) (by decide), lh_13_0]
    generalize lp_X3_isDoor_2 S q i w 200 0 = z at e ⊢
    cases z with
    | inl r => dsimp only at e ⊢; rw [e.1]
    | inr _ => dsimp only at e ⊢; rw [rng2_n g (by decide) (by decide)]
theorem lf_6 {S T : St} {x y f i w hr : Int32} {q : Nat} (he : ∀ k : Int32, 0 ≤ k.toInt → k.toInt < 9 → jabs (f_X3_fade S (ix x) k (8 * S (25 + ix x) (ix k)) y - S (13 + q) (ix (i + k))) = f_X4_off (f_X4_fades T x k (8 * f_X4_strong T x k) (hr + hr * w)) (T 16 (ix (f + k)))) : ∀ (N : Nat) (s k : Int32), 0 ≤ k.toInt → k.toInt ≤ 9 → lp_X3_leftFrom_6 S (ix x) y q i N s k = lp_X4_mayBe_6 T x hr w f N s k := by
  intro N
  induction N with
  | zero => intro s k h0 h1; rfl
  | succ N ih =>
    intro s k h0 h1
    rw [lp_X3_leftFrom_6, lp_X4_mayBe_6]
    have z9 : (9 : Int32).toInt = 9 := by decide
    by_cases c : 9 ≤ k
    · rw [if_pos c, if_pos c]
    have c' := qt_nle c
    have h5 := inc_toInt (a := k) h0 (by omega)
    rw [if_neg c, if_neg c, he k h0 (by omega)]
    exact ih _ _ (by omega) (by omega)
/-- a door: what the sheet's nine cells and the wind are -/
def Door (σ τ : St) (w i f : Int32) (q : Nat) : Prop := (0 ≤ w.toInt ∧ w.toInt ≤ 3) ∧ ∀ k : Int32, 0 ≤ k.toInt → k.toInt < 9 → σ (13 + q) (ix (i + k)) = τ 16 (ix (f + k)) ∧ 0 ≤ (τ 16 (ix (f + k))).toInt ∧ (τ 16 (ix (f + k))).toInt ≤ 99
theorem R_mayBe (h : R j σ τ) {x w i f hr : Int32} {q : Nat} (hx : 0 ≤ x.toInt ∧ x.toInt < (τ 0 1).toInt) (d : Door σ τ w i f q) (hh : 0 ≤ hr.toInt ∧ hr.toInt ≤ 9) : f_X3_leftFrom σ (ix x) (hr + hr * w) q i = lp_X4_mayBe_6 τ x hr w f 200 0 0 := by
  refine lf_6 (fun k k0 k1 => ?_) 200 0 0 (by decide) (by decide)
  obtain ⟨u1, u2⟩ := R_strong h hx ⟨k0, k1⟩
  obtain ⟨d1, d2⟩ := d.2 k k0 k1
  have c2 := km_toInt (a := σ (25 + ix x) (ix k)) (k := 8) (z := 8) (by decide) (by omega) (by omega)
  obtain ⟨f1, f2⟩ := R_fade h (ink := 8 * σ (25 + ix x) (ix k)) hx ⟨k0, k1⟩ (by omega) (hw_le hh d.1)
  rw [u1, f1, d1]
  exact (off_toInt (by omega) (by omega)).1
theorem R_hrs (h : R j σ τ) {S T : St} (s : ∀ c, c ≠ 7 → S c = σ c) (t : ∀ c, c ≠ 13 → T c = τ c) : R j S T :=
  R_fs h (fun k _ => by rw [s 0 (by omega)]) (fun k _ _ _ => by rw [t 0 (by omega)]) (by rw [s 0 (by omega), t 0 (by omega)]; exact h.2.2.1.2.2.2.2.2) (fun c _ _ _ h7 => s c h7) (fun c _ _ _ _ h13 _ => t c h13)
theorem Door_congr {S T : St} {w i f : Int32} {q : Nat} (d : Door σ τ w i f q) (s : S (13 + q) = σ (13 + q)) (t : T 16 = τ 16) : Door S T w i f q := by
  unfold Door
  rw [s, t]
  exact d
theorem hr_26 {w i f x a4 : Int32} {q : Nat} : ∀ (N : Nat) (k : Int32) (σ τ : St), R j σ τ → Door σ τ w i f q → (0 ≤ x.toInt ∧ x.toInt < (τ 0 1).toInt) → 0 ≤ k.toInt → σ 7 (ix x) = τ 13 (ix x) → lp_X3_countHours_26 w q i a4 x N k σ 7 (ix x) = lp_X4_laysHours_83 w f 1 x N k τ 13 (ix x) := by
  intro N
  induction N with
  | zero => intro k σ τ h d hx h0 e; exact e
  | succ N ih =>
    intro k σ τ h d hx h0 e
    rw [lp_X3_countHours_26, lp_X4_laysHours_83]
    have z10 : (10 : Int32).toInt = 10 := by decide
    by_cases c : 10 ≤ k
    · rw [if_pos c, if_pos c]; exact e
    have c' := qt_nle c
    have h5 := inc_toInt (a := k) h0 (by omega)
    rw [if_neg c, if_neg c]
    unfold f_X4_mayBe
    rw [R_mayBe h hx d ⟨h0, by omega⟩, h.2.2.1.2.2.2.1]
    by_cases b : τ 0 3 < lp_X4_mayBe_6 τ x k w f 200 0 0
    · have e0 : τ 13 (ix x) + 0 = τ 13 (ix x) := Int32.add_zero _
      rw [if_pos b, if_pos b, if_pos rfl, e0, u2_id]
      exact ih _ _ _ h d hx (by omega) e
    · rw [if_neg b, if_neg b, if_neg (show ¬ (1 : Int32) = 0 by decide)]
      exact ih _ _ _ (R_hrs h (fun c hc => u2_nc hc) (fun c hc => u2_nc hc)) (Door_congr d (u2_nc (by omega)) (u2_nc (by omega))) (by rw [u2_nc (by omega)]; exact hx) (by omega) (by rw [u2_self, u2_self, e])
theorem nk_countHours_26 {w i a4 x : Int32} {q b : Nat} (hb : b ≠ ix x) : ∀ (n : Nat) (k : Int32) (σ : St), lp_X3_countHours_26 w q i a4 x n k σ 7 b = σ 7 b := by
  intro n
  induction n with
  | zero => intro k σ; rfl
  | succ n ih =>
    intro k σ
    rw [lp_X3_countHours_26]
    by_cases h : 10 ≤ k
    · rw [if_pos h]
    · rw [if_neg h]
      refine ite_ind (P := fun z : St => z 7 b = σ 7 b) (fun _ => ih _ _) (fun _ => ?_)
      rw [ih, u2_nk hb]
theorem hr_6 {w i f p1 p6 : Int32} {q : Nat} : ∀ (N : Nat) (k t : Int32) (σ τ : St), R j σ τ → Door σ τ w i f q → q < 4 → 0 ≤ k.toInt → (τ 0 1).toInt - k.toInt < N → (∀ y : Nat, (y : Int) < k.toInt → σ 7 y = τ 13 y) → (∀ y : Nat, (y : Int) < (τ 0 1).toInt → (lp_X3_countHours_6 w q i N t k σ).2 7 y = lp_X4_laysHours_59 w f 1 N k τ 13 y) ∧ (lp_X3_countHours_6 w q i N t k σ).1 = lp_X4_odds_82 (lp_X4_laysHours_59 w f 1 N k τ) p1 p6 N t k ∧ (∀ y : Nat, (y : Int) < k.toInt → lp_X4_laysHours_59 w f 1 N k τ 13 y = τ 13 y) := by
  intro N
  induction N with
  | zero =>
    intro k t σ τ h d hq h0 h1 hy
    exact ⟨fun y yl => hy y (by omega), rfl, fun y _ => rfl⟩
  | succ N ih =>
    intro k t σ τ h d hq h0 h1 hy
    have ef : lp_X4_laysHours_59 w f 1 (N + 1) k τ 0 1 = τ 0 1 := by rw [fr_laysHours_59 (by omega)]
    by_cases c : τ 0 1 ≤ k
    · have c' := qt_le c
      rw [lp_X4_odds_82, ef, if_pos c, lp_X3_countHours_6, lp_X4_laysHours_59, h.2.2.1.1, if_pos c, if_pos c]
      exact ⟨fun y yl => hy y (by omega), rfl, fun y _ => rfl⟩
    have c' := qt_nle c
    have h8 := h.2.1.1.2
    have h3 := inc_toInt (a := k) h0 (by omega)
    have ek := ix_toInt h0
    rw [lp_X4_odds_82, ef, if_neg c, lp_X3_countHours_6, lp_X4_laysHours_59, h.2.2.1.1, if_neg c, if_neg c, if_neg (show ¬ (1 : Int32) = 0 by decide)]
    have r0 : R j (u2 σ 7 (ix k) 0) (u2 τ 13 (ix k) 0) := R_hrs h (fun c hc => u2_nc hc) (fun c hc => u2_nc hc)
    have d0 : Door (u2 σ 7 (ix k) 0) (u2 τ 13 (ix k) 0) w i f q := Door_congr d (u2_nc (by omega)) (u2_nc (by omega))
    have e := hr_26 (a4 := t) (x := k) 200 0 _ _ r0 d0 (by rw [u2_nc (by omega)]; exact ⟨h0, c'⟩) (by decide) (by rw [u2_self, u2_self])
    have s7 : ∀ c, c ≠ 7 → lp_X3_countHours_26 w q i t k 200 0 (u2 σ 7 (ix k) 0) c = σ c := fun c hc => by rw [fr_countHours_26 hc, u2_nc hc]
    have t13 : ∀ c, c ≠ 13 → lp_X4_laysHours_83 w f 1 k 200 0 (u2 τ 13 (ix k) 0) c = τ c := fun c hc => by rw [fr_laysHours_83 hc, u2_nc hc]
    have s7k : ∀ y, y ≠ ix k → lp_X3_countHours_26 w q i t k 200 0 (u2 σ 7 (ix k) 0) 7 y = σ 7 y := fun y hc => by rw [nk_countHours_26 hc, u2_nk hc]
    have t13k : ∀ y, y ≠ ix k → lp_X4_laysHours_83 w f 1 k 200 0 (u2 τ 13 (ix k) 0) 13 y = τ 13 y := fun y hc => by rw [nk_laysHours_83 hc, u2_nk hc]
    generalize lp_X3_countHours_26 w q i t k 200 0 (u2 σ 7 (ix k) 0) = S at e s7 s7k ⊢
    generalize lp_X4_laysHours_83 w f 1 k 200 0 (u2 τ 13 (ix k) 0) = T at e t13 t13k ⊢
    have e01 : T 0 1 = τ 0 1 := by rw [t13 0 (by omega)]
    obtain ⟨i1, i2, i3⟩ := ih (k + 1) (t + S 7 (ix k)) S T (R_hrs h s7 t13) (Door_congr d (s7 _ (by omega)) (t13 _ (by omega))) hq (by omega) (by rw [e01]; omega) (fun y yl => by
      by_cases ye : y = ix k
      · rw [ye]; exact e
      · rw [s7k y ye, t13k y ye]; exact hy y (by omega))
    refine ⟨fun y yl => i1 y (by rw [e01]; exact yl), ?_, fun y yl => ?_⟩
    · rw [i2, i3 (ix k) (by omega), e]
    · rw [i3 y (by omega)]; exact t13k y (by omega)
theorem wh_63 {S T : St} (h4 : S 0 4 = T 0 1) (h8 : (T 0 1).toInt ≤ 8) (he : ∀ y : Nat, (y : Int) < (T 0 1).toInt → S 7 y = T 13 y) : ∀ (N : Nat) (b v k : Int32), 0 ≤ k.toInt → ((b = -9 ∧ v = 0) ∨ (0 ≤ b.toInt ∧ v = T 13 (ix b))) → lp_X3_who_63 S N b v k = lp_X4_who_50 T N b k := by
  intro N
  induction N with
  | zero => intro b v k h0 hb; rfl
  | succ N ih =>
    intro b v k h0 hb
    rw [lp_X3_who_63, lp_X4_who_50, h4]
    by_cases c : T 0 1 ≤ k
    · rw [if_pos c, if_pos c]
    have c' := qt_nle c
    have h3 := inc_toInt (a := k) h0 (by omega)
    have ek := ix_toInt h0
    have ev : (if (0 : Int32) ≤ b then T 13 (ix b) else 0) = v := by
      rcases hb with ⟨q1, q2⟩ | ⟨q1, q2⟩
      · rw [q1, q2, if_neg (by decide)]
      · rw [if_pos (qm_le (x := 0) (y := b) q1), q2]
    rw [if_neg c, if_neg c, ev, he (ix k) (by omega)]
    by_cases d : T 13 (ix k) ≤ v
    · rw [if_pos d, if_pos d]; exact ih _ _ _ (by omega) hb
    · rw [if_neg d, if_neg d]; exact ih _ _ _ (by omega) (Or.inr ⟨h0, rfl⟩)
/-- the door at hand after a span was let through -/
theorem R_door (h : R j σ τ) {k i w lane : Int32} {S : St} (hs : S = u2 σ 0 9 0) (z : (f_X3_spanRefusal σ k lane i 9).1 = 0) (hh : σ (9 + ix k) 0 ≠ 0) : (0 ≤ k.toInt ∧ k.toInt < 4) ∧ ∀ m : Int32, 0 ≤ m.toInt → m.toInt < 9 → S (13 + ix k) (ix (i + m)) = τ 16 (ix (90 * k + i + m)) := by
  obtain ⟨z1, z2, z3, z4⟩ := sp_z z
  have z9 : (9 : Int64).toInt = 9 := by decide
  rw [z9] at z4
  have z5 := z4 (by omega)
  refine ⟨z1, fun m m0 m1 => ?_⟩
  rcases R_Rsh h z1 with ⟨q1, q2⟩ | ⟨q1, q2, q3, q4, q5, q6⟩
  · exact absurd q1 hh
  rw [q2] at z5
  have e1 := km_toInt (a := k) (k := 90) (z := 90) (by decide) (by omega) (by omega)
  have e2 := a_toInt (a := 90 * k) (b := i) (by omega) (by omega)
  rw [hs, u2_nc (by omega), ix_add z2 m0 (by omega), ix_add (by omega) m0 (by omega), ix_90 z1 ⟨z2, by omega⟩, q6 _ (by have := ix_toInt z2; have := ix_toInt m0; omega), Nat.add_assoc]
end REL9
