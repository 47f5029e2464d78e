/-! forged -/
section CONGR2
variable {v : Int32}
theorem c_f3 {a b f p s : Int32} : ∀ (n : Nat) (k : Int32) (τ : St), lp_X4_forges_3 a b f p s n k (u2 τ 0 0 v) = u2 (lp_X4_forges_3 a b f p s n k τ) 0 0 v := by
  intro n
  induction n with
  | zero => intro k τ; rfl
  | succ n ih =>
    intro k τ
    rw [lp_X4_forges_3, lp_X4_forges_3]
    by_cases h : 9 ≤ k
    · rw [if_pos h, if_pos h]
    · have es : f_X4_strong (u2 τ 0 0 v) a k = f_X4_strong τ a k := by unfold f_X4_strong; rw [u2_nc (by omega)]
      rw [if_neg h, if_neg h, es, u2_comm (show (0 : Nat) ≠ 12 by omega), ih]
theorem c_f33 {y f m s : Int32} : ∀ (n : Nat) (k : Int32) (τ : St), lp_X4_forges_33 y f m s n k (u2 τ 0 0 v) = u2 (lp_X4_forges_33 y f m s n k τ) 0 0 v := by
  intro n
  induction n with
  | zero => intro k τ; rfl
  | succ n ih =>
    intro k τ
    rw [lp_X4_forges_33, lp_X4_forges_33]
    by_cases h : m ≤ k
    · rw [if_pos h, if_pos h]
    · rw [if_neg h, if_neg h, u2_nc (show (16 : Nat) ≠ 0 by omega), u2_nc (show (12 : Nat) ≠ 0 by omega), u2_comm (show (0 : Nat) ≠ 12 by omega), ih]
theorem c_it {y : Int32} {τ : St} : f_X4_isTaken (u2 τ 0 0 v) y = f_X4_isTaken τ y := by
  have e : ∀ (n : Nat) (s k : Int32), lp_X4_isTaken_4 (u2 τ 0 0 v) y n s k = lp_X4_isTaken_4 τ y n s k := by
    intro n
    induction n with
    | zero => intro s k; rfl
    | succ n ih =>
      intro s k
      have es : f_X4_strong (u2 τ 0 0 v) y k = f_X4_strong τ y k := by unfold f_X4_strong; rw [u2_nc (by omega)]
      rw [lp_X4_isTaken_4, lp_X4_isTaken_4, ih, es, u2_nc (show (12 : Nat) ≠ 0 by omega)]
  unfold f_X4_isTaken
  rw [e, u2_nk (show (3 : Nat) ≠ 0 by omega)]
theorem c_forges {x y f n s : Int32} {τ : St} : (f_X4_forges (u2 τ 0 0 v) x y f n s).1 = (f_X4_forges τ x y f n s).1 ∧ (f_X4_forges (u2 τ 0 0 v) x y f n s).2 = u2 (f_X4_forges τ x y f n s).2 0 0 v := by
  have e : (f_X4_forges (u2 τ 0 0 v) x y f n s).2 = u2 (f_X4_forges τ x y f n s).2 0 0 v := by
    show lp_X4_forges_33 y f n s 200 0 (lp_X4_forges_3 x y f n s 200 0 (u2 τ 0 0 v)) = u2 (lp_X4_forges_33 y f n s 200 0 (lp_X4_forges_3 x y f n s 200 0 τ)) 0 0 v
    rw [c_f3, c_f33]
  refine ⟨?_, e⟩
  show f_X4_isTaken (f_X4_forges (u2 τ 0 0 v) x y f n s).2 y = f_X4_isTaken (f_X4_forges τ x y f n s).2 y
  rw [e, c_it]
end CONGR2
/-- the stoppers' numbers on both sides -/
def HD (σ τ : St) (q : Nat) (p f n : Int32) : Prop := ∀ i : Int32, 0 ≤ i.toInt → i.toInt < n.toInt → (σ (13 + q) (ix (p + 2 * i)) = τ 16 (ix (f + 2 * i)) ∧ σ (13 + q) (ix (p + 2 * i + 1)) = τ 16 (ix (f + 2 * i + 1))) ∧ (0 ≤ (τ 16 (ix (f + 2 * i))).toInt ∧ (τ 16 (ix (f + 2 * i))).toInt < 9) ∧ (1 ≤ (τ 16 (ix (f + 2 * i + 1))).toInt ∧ (τ 16 (ix (f + 2 * i + 1))).toInt ≤ 9)
theorem fg_80 {j : Nat} {x y k p f n : Int32} (hn : 0 ≤ n.toInt ∧ n.toInt ≤ 10) : ∀ (N : Nat) (b c s : Int32) (σ τ : St), R j σ (u2 τ 0 0 0) → (0 ≤ x.toInt ∧ x.toInt < (τ 0 1).toInt) → (0 ≤ y.toInt ∧ y.toInt < (τ 0 1).toInt) → HD σ τ (ix k) p f n → 0 ≤ s.toInt → ((b = -9 ∧ c = n + 1) ∨ ((0 ≤ b.toInt ∧ b.toInt < 1024) ∧ c = f_J6_bitCount_0f7a4 b)) → (lp_X3_forged_80 x y k p n N b c s σ).1 = (lp_X4_forged_137 x y n f N b s τ).1 ∧ R j (lp_X3_forged_80 x y k p n N b c s σ).2 (u2 (lp_X4_forged_137 x y n f N b s τ).2 0 0 0) := by
  intro N
  induction N with
  | zero => intro b c s σ τ h hx hy hd hs hb; exact ⟨rfl, h⟩
  | succ N ih =>
    intro b c s σ τ h hx hy hd hs hb
    rw [lp_X3_forged_80, lp_X4_forged_137]
    by_cases g : (1 : Int32) <<< (n &&& 31) ≤ s
    · rw [if_pos g, if_pos g]; exact ⟨rfl, h⟩
    have g' := qt_nle g
    have sl := sh_le hn.1 hn.2
    rw [if_neg g, if_neg g]
    have en := ix_toInt hn.1
    have es := ix_toInt hs
    have h5 := inc_toInt (a := s) hs (by omega)
    have g2 := g'
    rw [sh_eq hn.1 hn.2] at g2
    have sp : ix s < 2 ^ ix n := by
      have e2 : ((2 ^ ix n : Nat) : Int) = 2 ^ ix n := by norm_cast
      omega
    have b1 := bits_eq (ix s) (by omega)
    have b2 := bits_le (ix n) (by omega) (ix s) sp
    rw [← nI_ix hs] at b1 b2
    have hz : ∀ i : Int32, n.toInt ≤ i.toInt → i.toInt < 10 → (s >>> (i &&& 31)) &&& 1 = 0 := fun i i0 i1 => by
      have ei := ix_toInt (x := i) (by omega)
      have := bit_lt (ix n) (by omega) (ix i) (by omega) (by omega) (ix s) sp
      rw [← nI_ix hs, ← nI_ix (by omega)] at this
      exact this
    have t := R_taken h (x := x) (y := y) (p := p) (f := f) (s := s) (n := n) (q := ix k) (by rw [u2_nk (by omega)]; exact hx) (by rw [u2_nk (by omega)]; exact hy) hn.2 hz (by rw [u2_nc (by omega)]; exact hd)
    rw [c_forges.1, c_forges.2] at t
    have sx : (f_X3_isTakenFor σ x y (ix k) p s).2 (13 + ix k) = σ (13 + ix k) := fr_X3_isTakenFor (by omega)
    have s0 : (f_X4_forges τ x y f n s).2 0 = τ 0 := fr_X4_forges (by omega)
    have s16 : (f_X4_forges τ x y f n s).2 16 = τ 16 := fr_X4_forges (by omega)
    have z0 : (0 : Int32).toInt = 0 := by decide
    have step : ((if (f_X3_isTakenFor σ x y (ix k) p s).1 = 0 then lp_X3_forged_80 x y k p n N b c (s + 1) (f_X3_isTakenFor σ x y (ix k) p s).2 else lp_X3_forged_80 x y k p n N s (f_J6_bitCount_0f7a4 s) (s + 1) (f_X3_isTakenFor σ x y (ix k) p s).2)).1 = ((if (f_X4_forges τ x y f n s).1 = 0 then lp_X4_forged_137 x y n f N b (s + 1) (f_X4_forges τ x y f n s).2 else lp_X4_forged_137 x y n f N s (s + 1) (f_X4_forges τ x y f n s).2)).1 ∧ R j ((if (f_X3_isTakenFor σ x y (ix k) p s).1 = 0 then lp_X3_forged_80 x y k p n N b c (s + 1) (f_X3_isTakenFor σ x y (ix k) p s).2 else lp_X3_forged_80 x y k p n N s (f_J6_bitCount_0f7a4 s) (s + 1) (f_X3_isTakenFor σ x y (ix k) p s).2)).2 (u2 ((if (f_X4_forges τ x y f n s).1 = 0 then lp_X4_forged_137 x y n f N b (s + 1) (f_X4_forges τ x y f n s).2 else lp_X4_forged_137 x y n f N s (s + 1) (f_X4_forges τ x y f n s).2)).2 0 0 0) := by
      have hd' : HD (f_X3_isTakenFor σ x y (ix k) p s).2 (f_X4_forges τ x y f n s).2 (ix k) p f n := by unfold HD; rw [sx, s16]; exact hd
      rw [t.1]
      by_cases w : (f_X4_forges τ x y f n s).1 = 0
      · rw [if_pos w, if_pos w]
        exact ih _ _ _ _ _ t.2 (by rw [s0]; exact hx) (by rw [s0]; exact hy) hd' (by omega) hb
      · rw [if_neg w, if_neg w]
        exact ih _ _ _ _ _ t.2 (by rw [s0]; exact hx) (by rw [s0]; exact hy) hd' (by omega) (Or.inr ⟨⟨hs, by omega⟩, rfl⟩)
    rcases hb with ⟨q1, q2⟩ | ⟨q1, q2⟩
    · have en1 := inc_toInt (a := n) hn.1 (by omega)
      rw [if_neg (show ¬ c ≤ f_J6_bitCount_0f7a4 s from qm_nle (by rw [q2]; omega)), if_pos (show b < 0 by rw [q1]; decide)]
      exact step
    · have eb := ix_toInt q1.1
      have b3 := bits_eq (ix b) (by omega)
      rw [← nI_ix q1.1] at b3
      rw [if_neg (show ¬ b < 0 from qm_nlt (x := b) (y := 0) q1.1), ← b1, ← b3, ← q2]
      by_cases w : c ≤ f_J6_bitCount_0f7a4 s
      · rw [if_pos w, if_pos w]
        exact ih _ _ _ _ _ h hx hy hd (by omega) (Or.inr ⟨q1, q2⟩)
      · rw [if_neg w, if_neg w]
        exact step
theorem fs_67 {S T : St} {x y p f n : Int32} {q : Nat} (hc : ∀ i : Int32, 0 ≤ i.toInt → i.toInt < n.toInt → S (13 + q) (ix (p + 2 * i)) = T 16 (ix (f + 2 * i)) ∧ S (13 + q) (ix (p + 2 * i + 1)) = T 16 (ix (f + 2 * i + 1))) (hn : n.toInt ≤ 10) : ∀ (N : Nat) (k : Int32), 0 ≤ k.toInt → (match lp_X3_areStoppers_2 S q p n N k with | Sum.inl r => r = 0 ∧ lp_X4_forged_67 T x y n f N k = Sum.inl ((f_X4_refused T (-2)).1, (f_X4_refused T (-2)).2) | Sum.inr _ => lp_X4_forged_67 T x y n f N k = Sum.inr ()) := by
  intro N
  induction N with
  | zero => intro k h0; rfl
  | succ N ih =>
    intro k h0
    rw [lp_X3_areStoppers_2, lp_X4_forged_67]
    by_cases c : n ≤ k
    · rw [if_pos c, if_pos c]
    have c' := qt_nle c
    have h5 := inc_toInt (a := k) h0 (by omega)
    obtain ⟨d1, d2⟩ := hc k h0 c'
    rw [if_neg c, if_neg c, d1, d2]
    by_cases g : f_X4_noSmell (T 16 (ix (f + 2 * k))) = 0
    case neg => rw [if_pos (s_smell.mpr g), if_neg g]; exact ⟨rfl, rfl⟩
    rw [if_neg (fun q => s_smell.mp q g), if_pos g]
    by_cases w : 1 ≤ (T 16 (ix (f + 2 * k + 1))).toInt ∧ (T 16 (ix (f + 2 * k + 1))).toInt ≤ 9
    · rw [rng_p w (by decide) (by decide), if_neg (in_p w (by decide) (by decide))]
      exact ih _ (by omega)
    · rw [rng_n w (by decide) (by decide), if_pos (in_n w (by decide) (by decide))]
      exact ⟨rfl, rfl⟩
theorem q_forged {j : Nat} {σ τ : St} (h : R j σ τ) (hj : j < 512) (a0 a1 a2 a3 a4 a5 : Int32) : (f_X3_forged σ a0 a1 a2 a3 a4 a5).1 = (f_X4_forged τ a0 a1 a2 a3 a4 a5).1 ∧ R (j + 1) (f_X3_forged σ a0 a1 a2 a3 a4 a5).2 (f_X4_forged τ a0 a1 a2 a3 a4 a5).2 := by
  unfold f_X3_forged f_X4_forged
  by_cases g1 : f_X4_areTwo τ a0 a1 = 0
  · rw [if_pos ((R_two h).mpr g1), if_pos g1]; exact Q_refused h _
  rw [if_neg (fun q => g1 ((R_two h).mp q)), if_neg g1]
  have ht := areTwo_n.mp g1
  have l2 := l2_toInt a5
  have lb5 := lb a5
  rcases R_span h (k := a2) (lane := a3) (i := a4) (n := 2 * a5.toInt64) (by omega) with ⟨ex, ey⟩ | ⟨n1, n2, n3, v, v1, v2⟩
  case inr =>
    rw [if_neg n1, if_neg n2]
    refine ⟨n3, ?_⟩
    show R (j + 1) (f_X3_spanRefusal σ a2 a3 a4 (2 * a5.toInt64)).2 (f_X4_barred τ a2 a3 a4 (2 * a5.toInt64)).2
    rw [v1, v2]
    exact R_up (R_fault h v)
  have z : (f_X3_spanRefusal σ a2 a3 a4 (2 * a5.toInt64)).1 = 0 := by rw [ex]
  obtain ⟨hk, p1, p2, p3⟩ := sp_z z
  have has := sp_has z
  rw [ex, ey]
  dsimp only
  rw [if_pos rfl, if_pos (show (0 : Int32) ≤ 0 by decide)]
  have z10 : (10 : Int32).toInt = 10 := by decide
  by_cases c : (10 : Int32) < a5
  · have := qt_lt c
    rw [if_pos c, if_neg (qm_nle (by omega))]
    exact Q_refused h (-2)
  have c' := qt_nlt c
  rw [if_neg c, if_pos (qm_le (by omega))]
  rcases R_Rsh h hk with ⟨q1, q2⟩ | ⟨q1, q2, q3, q4, q5, q6⟩
  · exact absurd q1 has
  have p4 := p3 (by omega)
  rw [l2, q2] at p4
  have hn : 0 ≤ a5.toInt ∧ a5.toInt ≤ 10 := by omega
  have e0 := ix_toInt hk.1
  have cells : ∀ i : Int32, 0 ≤ i.toInt → i.toInt < a5.toInt → u2 σ 0 9 0 (13 + ix a2) (ix (a4 + 2 * i)) = τ 16 (ix (90 * a2 + a4 + 2 * i)) ∧ u2 σ 0 9 0 (13 + ix a2) (ix (a4 + 2 * i + 1)) = τ 16 (ix (90 * a2 + a4 + 2 * i + 1)) := by
    intro i i0 i1
    have z1 : (1 : Int32).toInt = 1 := by decide
    have o1 : ix (1 : Int32) = 1 := by decide
    have e1 := km_toInt (a := i) (k := 2) (z := 2) (by decide) (by omega) (by omega)
    have e2 := km_toInt (a := a2) (k := 90) (z := 90) (by decide) (by omega) (by omega)
    have e3 := a_toInt (a := 90 * a2) (b := a4) (by omega) (by omega)
    have e4 := a_toInt (a := a4) (b := 2 * i) (by omega) (by omega)
    have e5 := a_toInt (a := 90 * a2 + a4) (b := 2 * i) (by omega) (by omega)
    have x1 := ix_toInt p1
    have x2 := ix_toInt (x := 2 * i) (by omega)
    rw [u2_nc (by omega), ix_add (a := a4 + 2 * i) (b := 1) (by omega) (by omega) (by omega), ix_add (a := 90 * a2 + a4 + 2 * i) (b := 1) (by omega) (by omega) (by omega), ix_add (a := a4) (b := 2 * i) (by omega) (by omega) (by omega), ix_add (a := 90 * a2 + a4) (b := 2 * i) (by omega) (by omega) (by omega), ix_90 hk ⟨p1, by omega⟩, o1]
    refine ⟨?_, ?_⟩
    · rw [q6 _ (by omega), Nat.add_assoc]
    · rw [q6 _ (by omega), Nat.add_assoc, Nat.add_assoc, Nat.add_assoc]
  have fs := fs_67 (x := a0) (y := a1) cells hn.2 200 0 (by decide)
  by_cases st : f_X3_areStoppers (u2 σ 0 9 0) (ix a2) a4 a5 = 0
  · rw [if_pos st]
    unfold f_X3_areStoppers at st
    generalize lp_X3_areStoppers_2 (u2 σ 0 9 0) (ix a2) a4 a5 200 0 = w at fs st
    cases w with
    | inl r => dsimp only at fs; rw [fs.2]; exact Q_refused h (-2)
    | inr _ => exact absurd st (by show ¬ (1 : Int32) = 0; decide)
  rw [if_neg st]
  have al := as_all hn st
  have fs2 : lp_X4_forged_67 τ a0 a1 a5 (90 * a2 + a4) 200 0 = Sum.inr () := by
    unfold f_X3_areStoppers at st
    generalize lp_X3_areStoppers_2 (u2 σ 0 9 0) (ix a2) a4 a5 200 0 = w at fs st
    cases w with
    | inl r => exact absurd fs.1 st
    | inr _ => exact fs
  rw [fs2]
  dsimp only
  have hd : HD (u2 σ 0 9 0) τ (ix a2) a4 (90 * a2 + a4) a5 := fun i i0 i1 => by
    obtain ⟨b1, b2, b3⟩ := al i i0 i1
    obtain ⟨d1, d2⟩ := cells i i0 i1
    rw [d1] at b1
    rw [d2] at b2 b3
    exact ⟨⟨d1, d2⟩, bf_isSmell_n b1, qt_nlt b2, qt_le b3⟩
  have e := fg_80 (k := a2) hn 1100 (-9) (a5 + 1) 0 (u2 σ 0 9 0) τ (R_fault h 0) ht.1 ht.2.1 hd (by decide) (Or.inl ⟨rfl, rfl⟩)
  generalize lp_X3_forged_80 a0 a1 a2 a4 a5 1100 (-9) (a5 + 1) 0 (u2 σ 0 9 0) = U at e ⊢
  generalize lp_X4_forged_137 a0 a1 a5 (90 * a2 + a4) 1100 (-9) 0 τ = W at e ⊢
  obtain ⟨u1, u2⟩ := U
  obtain ⟨w1, w2⟩ := W
  exact ⟨e.1, R_up e.2⟩
