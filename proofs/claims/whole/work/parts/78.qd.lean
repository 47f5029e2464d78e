/-! forged: the two pairs of marks tried -/
section REL11
variable {j : Nat} {σ τ : St}
theorem f3_X3 {a b p s : Int32} {q : Nat} : ∀ (n : Nat) (k : Int32) (σ : St), 0 ≤ k.toInt → k.toInt ≤ 9 → 9 - k.toInt < n → ∀ m : Int32, 0 ≤ m.toInt → m.toInt < 9 → lp_X3_isTakenFor_3 a b q p s n k σ 6 (ix m) = if m.toInt < k.toInt then σ 6 (ix m) else σ (25 + ix a) (ix m) := by
  intro n
  induction n with
  | zero => intro k σ h0 h1 h2; omega
  | succ n ih =>
    intro k σ h0 h1 h2 m m0 m1
    have z9 : (9 : Int32).toInt = 9 := by decide
    rw [lp_X3_isTakenFor_3]
    by_cases h : 9 ≤ k
    · have := qt_le h
      rw [if_pos h, if_pos (by omega)]
    · have h3 := qt_nle h
      have h5 := inc_toInt (a := k) h0 (by omega)
      rw [if_neg h, ih (k + 1) _ (by omega) (by omega) (by omega) m m0 m1]
      have e1 := ix_toInt m0
      have e2 := ix_toInt h0
      by_cases e : m = k
      · subst e
        rw [if_pos (by omega), if_neg (by omega), u2_self]
      · have e' := qt_ne e
        rw [u2_nk (show ix m ≠ ix k by omega), u2_nc (show 25 + ix a ≠ 6 by omega)]
        by_cases q : m.toInt < k.toInt
        · rw [if_pos q, if_pos (by omega)]
        · rw [if_neg q, if_neg (by omega)]
theorem f3_X4 {a b f p s : Int32} : ∀ (n : Nat) (k : Int32) (τ : St), 0 ≤ k.toInt → k.toInt ≤ 9 → 9 - k.toInt < n → ∀ m : Int32, 0 ≤ m.toInt → m.toInt < 9 → lp_X4_forges_3 a b f p s n k τ 12 (ix m) = if m.toInt < k.toInt then τ 12 (ix m) else f_X4_strong τ a m := by
  intro n
  induction n with
  | zero => intro k σ h0 h1 h2; omega
  | succ n ih =>
    intro k τ h0 h1 h2 m m0 m1
    have z9 : (9 : Int32).toInt = 9 := by decide
    rw [lp_X4_forges_3]
    by_cases h : 9 ≤ k
    · have := qt_le h
      rw [if_pos h, if_pos (by omega)]
    · have h3 := qt_nle h
      have h5 := inc_toInt (a := k) h0 (by omega)
      have es : f_X4_strong (u2 τ 12 (ix k) (f_X4_strong τ a k)) a m = f_X4_strong τ a m := by
        unfold f_X4_strong
        rw [u2_nc (show (2 : Nat) ≠ 12 by omega)]
      rw [if_neg h, ih (k + 1) _ (by omega) (by omega) (by omega) m m0 m1, es]
      have e1 := ix_toInt m0
      have e2 := ix_toInt h0
      by_cases e : m = k
      · subst e
        rw [if_pos (by omega), if_neg (by omega), u2_self]
      · have e' := qt_ne e
        rw [u2_nk (show ix m ≠ ix k by omega)]
        by_cases q : m.toInt < k.toInt
        · rw [if_pos q, if_pos (by omega)]
        · rw [if_neg q, if_neg (by omega)]
/-- the worked-on strengths, the same on both sides and small -/
def V6 (B : Int) (S T : St) : Prop := ∀ m : Int32, 0 ≤ m.toInt → m.toInt < 9 → S 6 (ix m) = T 12 (ix m) ∧ 0 ≤ (T 12 (ix m)).toInt ∧ (T 12 (ix m)).toInt ≤ B
theorem V6_up {B C : Int} {S T : St} (h : V6 B S T) (l : B ≤ C) : V6 C S T := fun m m0 m1 => by
  obtain ⟨a, b, c⟩ := h m m0 m1
  exact ⟨a, b, by omega⟩
theorem z_38 {y p s n : Int32} {q : Nat} (hz : ∀ k : Int32, n.toInt ≤ k.toInt → k.toInt < 10 → (s >>> (k &&& 31)) &&& 1 = 0) : ∀ (N : Nat) (k : Int32) (S : St), 0 ≤ k.toInt → n.toInt ≤ k.toInt → lp_X3_isTakenFor_38 y q p s N k S = S := by
  intro N
  induction N with
  | zero => intro k S h0 h1; rfl
  | succ N ih =>
    intro k S h0 h1
    have z10 : (10 : Int32).toInt = 10 := by decide
    rw [lp_X3_isTakenFor_38]
    by_cases h : 10 ≤ k
    · rw [if_pos h]
    · have h3 := qt_nle h
      have h5 := inc_toInt (a := k) h0 (by omega)
      rw [if_neg h, if_pos (hz k h1 (by omega))]
      exact ih _ _ (by omega) (by omega)
theorem ad_38 {y p f s n : Int32} {q : Nat} (hn : n.toInt ≤ 10) (hz : ∀ k : Int32, n.toInt ≤ k.toInt → k.toInt < 10 → (s >>> (k &&& 31)) &&& 1 = 0) : ∀ (N : Nat) (k : Int32) (S T : St), 0 ≤ k.toInt → k.toInt ≤ 10 → V6 (9 + 9 * k.toInt) S T → (∀ i : Int32, 0 ≤ i.toInt → i.toInt < n.toInt → (S (13 + q) (ix (p + 2 * i)) = T 16 (ix (f + 2 * i)) ∧ S (13 + q) (ix (p + 2 * i + 1)) = T 16 (ix (f + 2 * i + 1))) ∧ (0 ≤ (T 16 (ix (f + 2 * i))).toInt ∧ (T 16 (ix (f + 2 * i))).toInt < 9) ∧ (1 ≤ (T 16 (ix (f + 2 * i + 1))).toInt ∧ (T 16 (ix (f + 2 * i + 1))).toInt ≤ 9)) → V6 200 (lp_X3_isTakenFor_38 y q p s N k S) (lp_X4_forges_33 y f n s N k T) := by
  intro N
  induction N with
  | zero => intro k S T h0 h1 v hd; exact V6_up v (by omega)
  | succ N ih =>
    intro k S T h0 h1 v hd
    have z10 : (10 : Int32).toInt = 10 := by decide
    by_cases c : n ≤ k
    · have c' := qt_le c
      rw [z_38 hz _ _ _ h0 c', lp_X4_forges_33, if_pos c]
      exact V6_up v (by omega)
    have c' := qt_nle c
    have h5 := inc_toInt (a := k) h0 (by omega)
    rw [lp_X3_isTakenFor_38, lp_X4_forges_33, if_neg (qm_nle (x := 10) (y := k) (by omega)), if_neg c]
    obtain ⟨⟨d1, d2⟩, d3, d4⟩ := hd k h0 c'
    have n01 : ¬ (0 : Int32) = 1 := by decide
    have n10 : ¬ (1 : Int32) = 0 := by decide
    rcases and1 (s >>> (k &&& 31)) with b | b
    · have e0 : T 12 (ix (T 16 (ix (f + 2 * k)))) + 0 = T 12 (ix (T 16 (ix (f + 2 * k)))) := Int32.add_zero _
      rw [if_pos b, b, if_neg n01, e0, u2_id]
      exact ih _ _ _ (by omega) (by omega) (V6_up v (by omega)) hd
    · rw [if_neg (by rw [b]; exact n10), b, if_pos rfl, d1, d2]
      refine ih _ _ _ (by omega) (by omega) (fun m m0 m1 => ?_) (fun i i0 i1 => ?_)
      · obtain ⟨v1, v2, v3⟩ := v m m0 m1
        have em := ix_toInt m0
        have ed := ix_toInt d3.1
        by_cases e : ix m = ix (T 16 (ix (f + 2 * k)))
        · rw [← e, u2_self, u2_self, v1]
          have := a_toInt (a := T 12 (ix m)) (b := T 16 (ix (f + 2 * k + 1))) (by omega) (by omega)
          exact ⟨rfl, by omega, by omega⟩
        · rw [u2_nk e, u2_nk e]
          exact ⟨v1, v2, by omega⟩
      · rw [u2_nc (by omega), u2_nc (by omega)]
        exact hd i i0 i1
theorem R_taken (h : R j σ τ) {x y p f s n : Int32} {q : Nat} (hx : 0 ≤ x.toInt ∧ x.toInt < (τ 0 1).toInt) (hy : 0 ≤ y.toInt ∧ y.toInt < (τ 0 1).toInt) (hn : n.toInt ≤ 10) (hz : ∀ k : Int32, n.toInt ≤ k.toInt → k.toInt < 10 → (s >>> (k &&& 31)) &&& 1 = 0) (hd : ∀ i : Int32, 0 ≤ i.toInt → i.toInt < n.toInt → (σ (13 + q) (ix (p + 2 * i)) = τ 16 (ix (f + 2 * i)) ∧ σ (13 + q) (ix (p + 2 * i + 1)) = τ 16 (ix (f + 2 * i + 1))) ∧ (0 ≤ (τ 16 (ix (f + 2 * i))).toInt ∧ (τ 16 (ix (f + 2 * i))).toInt < 9) ∧ (1 ≤ (τ 16 (ix (f + 2 * i + 1))).toInt ∧ (τ 16 (ix (f + 2 * i + 1))).toInt ≤ 9)) : (f_X3_isTakenFor σ x y q p s).1 = (f_X4_forges τ x y f n s).1 ∧ R j (f_X3_isTakenFor σ x y q p s).2 (f_X4_forges τ x y f n s).2 := by
  have r : R j (f_X3_isTakenFor σ x y q p s).2 (f_X4_forges τ x y f n s).2 := R_s6 h (fun c hc => fr_X3_isTakenFor hc) (fun c hc => fr_X4_forges hc)
  refine ⟨?_, r⟩
  show f_X3_areAlike (f_X3_isTakenFor σ x y q p s).2 6 (25 + ix y) = f_X4_isTaken (f_X4_forges τ x y f n s).2 y
  have z0 : (0 : Int32).toInt = 0 := by decide
  have v : V6 200 (f_X3_isTakenFor σ x y q p s).2 (f_X4_forges τ x y f n s).2 := by
    show V6 200 (lp_X3_isTakenFor_38 y q p s 200 0 (lp_X3_isTakenFor_3 x y q p s 200 0 σ)) (lp_X4_forges_33 y f n s 200 0 (lp_X4_forges_3 x y f n s 200 0 τ))
    refine ad_38 hn hz 200 0 _ _ (by decide) (by decide) (fun m m0 m1 => ?_) (fun i i0 i1 => ?_)
    · rw [f3_X3 200 0 σ (by decide) (by decide) (by omega) m m0 m1, f3_X4 200 0 τ (by decide) (by decide) (by omega) m m0 m1, if_neg (by omega), if_neg (by omega)]
      obtain ⟨u1, u2⟩ := R_strong h hx ⟨m0, m1⟩
      rw [u1]
      exact ⟨rfl, u2.1, by omega⟩
    · rw [fr_isTakenFor_3 (by omega), fr_forges_3 (by omega)]
      exact hd i i0 i1
  refine R_alike r (by rw [fr_X4_forges (by omega)]; exact hy) (fun m m0 m1 => ?_)
  obtain ⟨a, b, c⟩ := v m m0 m1
  exact ⟨a, by omega, by omega⟩
theorem bits_eq : ∀ s : Nat, s < 1024 → f_J6_bitCount_0f7a4 (nI s) = f_X4_bits (nI s) := by decide +kernel
theorem bits_le : ∀ n : Nat, n < 11 → ∀ s : Nat, s < 2 ^ n → (f_J6_bitCount_0f7a4 (nI s)).toInt ≤ n := by decide +kernel
end REL11
