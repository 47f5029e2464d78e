theorem fg_80 {j : Nat} {x y k p f n : Int32} (hn : 0 ≤ n.toInt ∧ n.toInt ≤ 10) : ∀ (N : Nat) (b c s : Int32) (σ τ : St), R j σ (u2 τ 0 0 0) → (0 ≤ x.toInt ∧ x.toInt < (τ 0 1).toInt) → (0 ≤ y.toInt ∧ y.toInt < (τ 0 1).toInt) → HD σ τ (ix k) p f n → 0 ≤ s.toInt → ((b = -9 ∧ c = n + 1) ∨ ((0 ≤ b.toInt ∧ b.toInt < 1024) ∧ c = f_J6_bitCount_0f7a4 b)) → (lp_X3_forged_80 x y k p n N b c s σ).1 = (lp_X4_forged_137 x y n f N b s τ).1 ∧ R j (lp_X3_forged_80 x y k p n N b c s σ).2 (u2 (lp_X4_forged_137 x y n f N b s τ).2 0 0 0) := by
  intro N
  induction N with
  | zero => intro b c s σ τ h hx hy hd hs hb; exact ⟨rfl, h⟩
  | succ N ih =>
    intro b c s σ τ h hx hy hd hs hb
    rw [lp_X3_forged_80, lp_X4_forged_137]
    by_cases g : (1 : Int32) <<< (n &&& 31) ≤ s
    · rw [if_pos g, if_pos g]; exact ⟨rfl, h⟩
    have g' := qt_nle g
    have sl := sh_le hn.1 hn.2
    rw [if_neg g, if_neg g]
    have en := ix_toInt hn.1
    have es := ix_toInt hs
    have h5 := inc_toInt (a := s) hs (by omega)
    have g2 := g'
    rw [sh_eq hn.1 hn.2] at g2
    have sp : ix s < 2 ^ ix n := by
      have e2 : ((2 ^ ix n : Nat) : Int) = 2 ^ ix n := by norm_cast
      omega
    have b1 := bits_eq (ix s) (by omega)
    have b2 := bits_le (ix n) (by omega) (ix s) sp
    rw [← nI_ix hs] at b1 b2
    have hz : ∀ i : Int32, n.toInt ≤ i.toInt → i.toInt < 10 → (s >>> (i &&& 31)) &&& 1 = 0 := fun i i0 i1 => by
      have ei := ix_toInt (x := i) (by omega)
      have := bit_lt (ix n) (by omega) (ix i) (by omega) (by omega) (ix s) sp
      rw [← nI_ix hs, ← nI_ix (by omega)] at this
      exact this
    have t := R_taken h (x := x) (y := y) (p := p) (f := f) (s := s) (n := n) (q := ix k) (by rw [u2_nk (by omega)]; exact hx) (by rw [u2_nk (by omega)]; exact hy) hn.2 hz (by rw [u2_nc (by omega)]; exact hd)
    rw [c_forges.1, c_forges.2] at t
    have sx : (f_X3_isTakenFor σ x y (ix k) p s).2 (13 + ix k) = σ (13 + ix k) := fr_X3_isTakenFor (by omega)
    have s0 : (f_X4_forges τ x y f n s).2 0 = τ 0 := fr_X4_forges (by omega)
    have s16 : (f_X4_forges τ x y f n s).2 16 = τ 16 := fr_X4_forges (by omega)
    have z0 : (0 : Int32).toInt = 0 := by decide
    have step : ((if (f_X3_isTakenFor σ x y (ix k) p s).1 = 0 then lp_X3_forged_80 x y k p n N b c (s + 1) (f_X3_isTakenFor σ x y (ix k) p s).2 else lp_X3_forged_80 x y k p n N s (f_J6_bitCount_0f7a4 s) (s + 1) (f_X3_isTakenFor σ x y (ix k) p s).2)).1 = ((if (f_X4_forges τ x y f n s).1 = 0 then lp_X4_forged_137 x y n f N b (s + 1) (f_X4_forges τ x y f n s).2 else lp_X4_forged_137 x y n f N s (s + 1) (f_X4_forges τ x y f n s).2)).1 ∧ R j ((if (f_X3_isTakenFor σ x y (ix k) p s).1 = 0 then lp_X3_forged_80 x y k p n N b c (s + 1) (f_X3_isTakenFor σ x y (ix k) p s).2 else lp_X3_forged_80 x y k p n N s (f_J6_bitCount_0f7a4 s) (s + 1) (f_X3_isTakenFor σ x y (ix k) p s).2)).2 (u2 ((if (f_X4_forges τ x y f n s).1 = 0 then lp_X4_forged_137 x y n f N b (s + 1) (f_X4_forges τ x y f n s).2 else lp_X4_forged_137 x y n f N s (s + 1) (f_X4_forges τ x y f n s).2)).2 0 0 0) := by
      have hd' : HD (f_X3_isTakenFor σ x y (ix k) p s).2 (f_X4_forges τ x y f n s).2 (ix k) p f n := by unfold HD; rw [sx, s16]; exact hd
      rw [t.1]
      by_cases w : (f_X4_forges τ x y f n s).1 = 0
      · rw [if_pos w, if_pos w]
        exact ih _ _ _ _ _ t.2 (by rw [s0]; exact hx) (by rw [s0]; exact hy) hd' (by omega) hb
      · rw [if_neg w, if_neg w]
        exact ih _ _ _ _ _ t.2 (by rw [s0]; exact hx) (by rw [s0]; exact hy) hd' (by omega) (Or.inr ⟨⟨hs, by omega⟩, rfl⟩)
    rcases hb with ⟨q1, q2⟩ | ⟨q1, q2⟩
    · have en1 := inc_toInt (a := n) hn.1 (by omega)
      rw [if_neg (show ¬ c ≤ f_J6_bitCount_0f7a4 s from qm_nle (by rw [q2]; omega)), if_pos (show b < 0 by rw [q1]; decide)]
      exact step
    · have eb := ix_toInt q1.1
      have b3 := bits_eq (ix b) (by omega)
      rw [← nI_ix q1.1] at b3
      rw [if_neg (show ¬ b < 0 from qm_nlt (x := b) (y := 0) q1.1), ← b1, ← b3, ← q2]
      by_cases w : c ≤ f_J6_bitCount_0f7a4 s
      · rw [if_pos w, if_pos w]
        exact ih _ _ _ _ _ h hx hy hd (by omega) (Or.inr ⟨q1, q2⟩)
      · rw [if_neg w, if_neg w]
        exact step
