/-! forged -/
section CONGR2
variable {v : Int32}
theorem c_f3 {a b f p s : Int32} : ∀ (n : Nat) (k : Int32) (τ : St), lp_X4_forges_3 a b f p s n k (u2 τ 0 0 v) = u2 (lp_X4_forges_3 a b f p s n k τ) 0 0 v := by
  intro n
  induction n with
  | zero => intro k τ; rfl
  | succ n ih =>
    intro k τ
    rw [lp_X4_forges_3, lp_X4_forges_3]
    by_cases h : 9 ≤ k
    · rw [if_pos h, if_pos h]
    · have es : f_X4_strong (u2 τ 0 0 v) a k = f_X4_strong τ a k := by unfold f_X4_strong; rw [u2_nc (by omega)]
      rw [if_neg h, if_neg h, es, u2_comm (show (0 : Nat) ≠ 12 by omega), ih]
theorem c_f33 {y f m s : Int32} : ∀ (n : Nat) (k : Int32) (τ : St), lp_X4_forges_33 y f m s n k (u2 τ 0 0 v) = u2 (lp_X4_forges_33 y f m s n k τ) 0 0 v := by
  intro n
  induction n with
  | zero => intro k τ; rfl
  | succ n ih =>
    intro k τ
    rw [lp_X4_forges_33, lp_X4_forges_33]
    by_cases h : m ≤ k
    · rw [if_pos h, if_pos h]
    · rw [if_neg h, if_neg h, u2_nc (show (16 : Nat) ≠ 0 by omega), u2_nc (show (12 : Nat) ≠ 0 by omega), u2_comm (show (0 : Nat) ≠ 12 by omega), ih]
theorem c_it {y : Int32} {τ : St} : f_X4_isTaken (u2 τ 0 0 v) y = f_X4_isTaken τ y := by
  have e : ∀ (n : Nat) (s k : Int32), lp_X4_isTaken_4 (u2 τ 0 0 v) y n s k = lp_X4_isTaken_4 τ y n s k := by
    intro n
    induction n with
    | zero => intro s k; rfl
    | succ n ih =>
      intro s k
      have es : f_X4_strong (u2 τ 0 0 v) y k = f_X4_strong τ y k := by unfold f_X4_strong; rw [u2_nc (by omega)]
      rw [lp_X4_isTaken_4, lp_X4_isTaken_4, ih, es, u2_nc (show (12 : Nat) ≠ 0 by omega)]
  unfold f_X4_isTaken
  rw [e, u2_nk (show (3 : Nat) ≠ 0 by omega)]
theorem c_forges {x y f n s : Int32} {τ : St} : (f_X4_forges (u2 τ 0 0 v) x y f n s).1 = (f_X4_forges τ x y f n s).1 ∧ (f_X4_forges (u2 τ 0 0 v) x y f n s).2 = u2 (f_X4_forges τ x y f n s).2 0 0 v := by
  have e : (f_X4_forges (u2 τ 0 0 v) x y f n s).2 = u2 (f_X4_forges τ x y f n s).2 0 0 v := by
    show lp_X4_forges_33 y f n s 200 0 (lp_X4_forges_3 x y f n s 200 0 (u2 τ 0 0 v)) = u2 (lp_X4_forges_33 y f n s 200 0 (lp_X4_forges_3 x y f n s 200 0 τ)) 0 0 v
    rw [c_f3, c_f33]
  refine ⟨?_, e⟩
  show f_X4_isTaken (f_X4_forges (u2 τ 0 0 v) x y f n s).2 y = f_X4_isTaken (f_X4_forges τ x y f n s).2 y
  rw [e, c_it]
end CONGR2
/-- the stoppers' numbers on both sides -/
def HD (σ τ : St) (q : Nat) (p f n : Int32) : Prop := ∀ i : Int32, 0 ≤ i.toInt → i.toInt < n.toInt → (σ (13 + q) (ix (p + 2 * i)) = τ 16 (ix (f + 2 * i)) ∧ σ (13 + q) (ix (p + 2 * i + 1)) = τ 16 (ix (f + 2 * i + 1))) ∧ (0 ≤ (τ 16 (ix (f + 2 * i))).toInt ∧ (τ 16 (ix (f + 2 * i))).toInt < 9) ∧ (1 ≤ (τ 16 (ix (f + 2 * i + 1))).toInt ∧ (τ 16 (ix (f + 2 * i + 1))).toInt ≤ 9)
theorem fs_67 {S T : St} {x y p f n : Int32} {q : Nat} (hc : ∀ i : Int32, 0 ≤ i.toInt → i.toInt < n.toInt → S (13 + q) (ix (p + 2 * i)) = T 16 (ix (f + 2 * i)) ∧ S (13 + q) (ix (p + 2 * i + 1)) = T 16 (ix (f + 2 * i + 1))) (hn : n.toInt ≤ 10) : ∀ (N : Nat) (k : Int32), 0 ≤ k.toInt → (match lp_X3_areStoppers_2 S q p n N k with | Sum.inl r => r = 0 ∧ lp_X4_forged_67 T x y n f N k = Sum.inl ((f_X4_refused T (-2)).1, (f_X4_refused T (-2)).2) | Sum.inr _ => lp_X4_forged_67 T x y n f N k = Sum.inr ()) := by
  intro N
  induction N with
  | zero => intro k h0; rfl
  | succ N ih =>
    intro k h0
    rw [lp_X3_areStoppers_2, lp_X4_forged_67]
    by_cases c : n ≤ k
    · rw [if_pos c, if_pos c]
    have c' := qt_nle c
    have h5 := inc_toInt (a := k) h0 (by omega)
    obtain ⟨d1, d2⟩ := hc k h0 c'
    rw [if_neg c, if_neg c, d1, d2]
    by_cases g : f_X4_noSmell (T 16 (ix (f + 2 * k))) = 0
    case neg => rw [if_pos (s_smell.mpr g), if_neg g]; exact ⟨rfl, rfl⟩
    rw [if_neg (fun q => s_smell.mp q g), if_pos g]
    by_cases w : 1 ≤ (T 16 (ix (f + 2 * k + 1))).toInt ∧ (T 16 (ix (f + 2 * k + 1))).toInt ≤ 9
    · rw [rng_p w (by decide) (by decide), if_neg (in_p w (by decide) (by decide))]
      exact ih _ (by omega)
    · rw [rng_n w (by decide) (by decide), if_pos (in_n w (by decide) (by decide))]
      exact ⟨rfl, rfl⟩
