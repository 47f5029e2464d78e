/-! copy -/
theorem cp_107 {a1 a2 a3 a4 n : Int32} {b : Nat} (hb : ∀ k : Int32, 0 ≤ k.toInt → k.toInt < n.toInt → ix (90 * a1 + a2 + k) = b + ix k) (hn : n.toInt ≤ 90) : ∀ (N : Nat) (k : Int32) (S : St), 0 ≤ k.toInt → n.toInt - k.toInt < N → (∀ c, c ≠ 17 → lp_X4_copy_107 a1 a2 a3 a4 n N k S c = S c) ∧ (∀ i : Nat, lp_X4_copy_107 a1 a2 a3 a4 n N k S 17 i = if k.toInt ≤ i ∧ (i : Int) < n.toInt then S 16 (b + i) else S 17 i) := by
  intro N
  induction N with
  | zero =>
    intro k S h0 h1
    exact ⟨fun c hc => rfl, fun i => by rw [if_neg (by omega)]; rfl⟩
  | succ N ih =>
    intro k S h0 h1
    rw [lp_X4_copy_107]
    by_cases c : n ≤ k
    · have := qt_le c
      rw [if_pos c]
      exact ⟨fun c hc => rfl, fun i => by rw [if_neg (by omega)]⟩
    · have c' := qt_nle c
      have h3 := inc_toInt (a := k) h0 (by omega)
      have ek := ix_toInt h0
      rw [if_neg c, hb k h0 c']
      obtain ⟨i1, i2⟩ := ih (k + 1) (u2 S 17 (ix k) (S 16 (b + ix k))) (by omega) (by omega)
      refine ⟨fun c hc => by rw [i1 c hc, u2_nc hc], fun i => ?_⟩
      rw [i2 i, u2_nc (show (16 : Nat) ≠ 17 by omega)]
      by_cases ei : i = ix k
      · subst ei
        rw [if_neg (by omega), u2_self, if_pos (by omega)]
      · rw [u2_nk ei]
        by_cases q : k.toInt ≤ i ∧ (i : Int) < n.toInt
        · rw [if_pos q, if_pos (by omega)]
        · rw [if_neg q, if_neg (by omega)]
theorem cp_144 {a3 a4 n : Int32} {b : Nat} (hb : ∀ k : Int32, 0 ≤ k.toInt → k.toInt < n.toInt → ix (90 * a3 + a4 + k) = b + ix k) (hn : n.toInt ≤ 90) : ∀ (N : Nat) (k : Int32) (S : St), 0 ≤ k.toInt → n.toInt - k.toInt < N → (∀ c, c ≠ 16 → lp_X4_copy_144 a3 a4 n N k S c = S c) ∧ (∀ i : Nat, lp_X4_copy_144 a3 a4 n N k S 16 i = if b + k.toInt ≤ i ∧ (i : Int) < b + n.toInt then S 17 (i - b) else S 16 i) := by
  intro N
  induction N with
  | zero =>
    intro k S h0 h1
    exact ⟨fun c hc => rfl, fun i => by rw [if_neg (by omega)]; rfl⟩
  | succ N ih =>
    intro k S h0 h1
    rw [lp_X4_copy_144]
    by_cases c : n ≤ k
    · have := qt_le c
      rw [if_pos c]
      exact ⟨fun c hc => rfl, fun i => by rw [if_neg (by omega)]⟩
    · have c' := qt_nle c
      have h3 := inc_toInt (a := k) h0 (by omega)
      have ek := ix_toInt h0
      rw [if_neg c, hb k h0 c']
      obtain ⟨i1, i2⟩ := ih (k + 1) (u2 S 16 (b + ix k) (S 17 (ix k))) (by omega) (by omega)
      refine ⟨fun c hc => by rw [i1 c hc, u2_nc hc], fun i => ?_⟩
      rw [i2 i, u2_nc (show (17 : Nat) ≠ 16 by omega)]
      by_cases ei : i = b + ix k
      · subst ei
        rw [if_neg (by omega), u2_self, if_pos (by omega), Nat.add_sub_cancel_left]
      · rw [u2_nk ei]
        by_cases q : b + k.toInt ≤ i ∧ (i : Int) < b + n.toInt
        · rw [if_pos q, if_pos (by omega)]
        · rw [if_neg q, if_neg (by omega)]
theorem q_copy {j : Nat} {σ τ : St} (h : R j σ τ) (hj : j < 512) (a0 a1 a2 a3 a4 : Int32) : (f_X3_copy σ a0 a1 a2 a3 a4).1 = (f_X4_copy τ a0 a1 a2 a3 a4).1 ∧ R (j + 1) (f_X3_copy σ a0 a1 a2 a3 a4).2 (f_X4_copy τ a0 a1 a2 a3 a4).2 := by
  unfold f_X3_copy f_X4_copy
  by_cases g : f_X4_noSheet a0 = 0
  case neg => rw [if_pos (s_sheet.mpr g), if_neg g]; exact Q_refused h _
  rw [if_neg (fun q => s_sheet.mp q g), if_pos g]
  by_cases g1 : f_X4_noSheet a2 = 0
  case neg => rw [if_pos (s_sheet.mpr g1), if_neg g1]; exact Q_refused h _
  rw [if_neg (fun q => s_sheet.mp q g1), if_pos g1]
  have hk := noSheet_z.mp g
  have hm := noSheet_z.mp g1
  have z0 : (0 : Int32).toInt = 0 := by decide
  have n1 : ¬ (1 : Int32) = 0 := by decide
  rcases R_Rsh h hk with ⟨q1, q2⟩ | ⟨q1, q2, q3, q4, q5, q6⟩
  · rw [if_pos q1, q2, if_pos (show (-1 : Int32) < 0 by decide)]
    exact Q_failed h 1
  rw [if_neg (by rw [q1]; exact n1), if_neg (qm_nlt (x := τ 14 (ix a0)) (y := 0) q3.1)]
  rcases R_Rsh h hm with ⟨r1, r2⟩ | ⟨r1, r2, r3, r4, r5, r6⟩
  · rw [if_pos r1, r2, if_neg (show ¬ (0 : Int32) ≤ -1 by decide)]
    exact Q_failed h 1
  rw [if_neg (by rw [r1]; exact n1), if_pos (qm_le (x := 0) (y := τ 14 (ix a2)) r3.1), q4, r4]
  by_cases l : τ 15 (ix a0) = τ 15 (ix a2)
  case neg => rw [if_neg l, if_neg l]; exact Q_failed h 2
  rw [if_pos l, if_pos l]
  have e5 : a4.toInt64.toInt = a4.toInt := Int32.toInt_toInt64 a4
  have b5 := lb a4
  have i1 : f_X4_isBeyond a1 a4.toInt64 (τ 14 (ix a0)) = 0 ↔ _ := beyond_iff (by omega)
  have i2 : f_X4_isBeyond a3 a4.toInt64 (τ 14 (ix a2)) = 0 ↔ _ := beyond_iff (by omega)
  have k1 : f_X1_lacks σ (ix a0) a1 a4.toInt64 = 0 ↔ _ := lacks_iff (by omega)
  have k2 : f_X1_lacks σ (ix a2) a3 a4.toInt64 = 0 ↔ _ := lacks_iff (by omega)
  rw [e5] at i1 i2 k1 k2
  rw [q2] at k1
  rw [r2] at k2
  by_cases c : a4 < 0
  · have c' := qt_lt c
    rw [if_pos c, if_neg (fun q => by have := i1.mp q; omega)]
    exact Q_failed h 3
  have c' := qt_nlt c
  rw [if_neg c]
  by_cases d : f_X4_isBeyond a1 a4.toInt64 (τ 14 (ix a0)) = 0
  case neg => rw [if_neg d, if_neg (fun q => d (i1.mpr (by have := k1.mp q; omega)))]; exact Q_failed h 3
  have d' := i1.mp d
  rw [if_pos d, if_pos (k1.mpr ⟨d'.1, d'.2.2⟩)]
  by_cases e : f_X4_isBeyond a3 a4.toInt64 (τ 14 (ix a2)) = 0
  case neg => rw [if_neg e, if_neg (fun q => e (i2.mpr (by have := k2.mp q; omega)))]; exact Q_failed h 3
  have e' := i2.mp e
  rw [if_pos e, if_pos (k2.mpr ⟨e'.1, e'.2.2⟩)]
  refine ⟨rfl, R_up ?_⟩
  have x0 := ix_toInt hk.1
  have x2 := ix_toInt hm.1
  have x1 := ix_toInt d'.1
  have x3 := ix_toInt e'.1
  have x4 := ix_toInt (x := a4) (by omega)
  have B : ∀ A D : Int32, (0 ≤ A.toInt ∧ A.toInt < 4) → 0 ≤ D.toInt → D.toInt + a4.toInt ≤ 90 → ∀ k : Int32, 0 ≤ k.toInt → k.toInt < a4.toInt → ix (90 * A + D + k) = 90 * ix A + ix D + ix k := by
    intro A D hA hD hl k h0 h1
    have e1 := km_toInt (a := A) (k := 90) (z := 90) (by decide) (by omega) (by omega)
    have e2 := a_toInt (a := 90 * A) (b := D) (by omega) (by omega)
    rw [ix_add (by omega) h0 (by omega), ix_90 hA (by omega)]
  obtain ⟨m1, m2⟩ := cp_107 (a3 := a2) (a4 := a3) (B a0 a1 hk d'.1 (by omega)) (by omega) 200 0 τ (by decide) (by omega)
  have o := fun S => cp_144 (B a2 a3 hm e'.1 (by omega)) (by omega) 200 0 S (by decide) (by omega)
  obtain ⟨o1, o2⟩ := o (lp_X4_copy_107 a0 a1 a2 a3 a4 200 0 τ)
  show R j (u1 (u2 σ 0 9 0) (13 + ix a2) _) (u2 (lp_X4_copy_144 a2 a3 a4 200 0 (lp_X4_copy_107 a0 a1 a2 a3 a4 200 0 τ)) 0 0 0)
  generalize lp_X4_copy_107 a0 a1 a2 a3 a4 200 0 τ = T at m1 m2 o1 o2 ⊢
  generalize lp_X4_copy_144 a2 a3 a4 200 0 T = U at o1 o2 ⊢
  have u16 : ∀ y : Nat, U 16 y = if 90 * ix a2 + ix a3 ≤ y ∧ y < 90 * ix a2 + ix a3 + ix a4 then τ 16 (90 * ix a0 + ix a1 + (y - (90 * ix a2 + ix a3))) else τ 16 y := by
    intro y
    rw [o2 y]
    by_cases q : 90 * ix a2 + ix a3 ≤ y ∧ y < 90 * ix a2 + ix a3 + ix a4
    · rw [if_pos q, if_pos (by omega), m2, if_pos (by omega)]
    · rw [if_neg q, if_neg (by omega), m1 16 (by omega)]
  have uo : ∀ c, c ≠ 16 → c ≠ 17 → U c = τ c := fun c h16 h17 => by rw [o1 c h16, m1 c h17]
  refine R_fs (R_sheet (S := u1 (u2 σ 0 9 0) (13 + ix a2) (va_cpy ((u2 σ 0 9 0) (13 + ix a0)) ((u2 σ 0 9 0) (13 + ix a2)) (ix a1) (ix a3) (ix a4))) (T := fun c => if c = 17 then τ 17 else u2 U 0 0 0 c) h (k := ix a2) (lane := τ 15 (ix a2)) (n := τ 14 (ix a2)) (by omega) r5 r3 (fun i hi => ?_) (fun i hi => ?_) ?_ ?_ (fun i hi => ?_) (fun c c0 c9 c13 => ?_) (fun c c0 c14 c15 c16 => ?_) (fun i => ?_) (fun i => ?_) (fun k' i hk' hne hi => ?_)) (fun k hk => rfl) (fun k k0 _ _ => ?_) ?_ (fun c _ _ _ _ => rfl) (fun c c0 _ _ _ _ c17 => ?_)
  · rw [u1_ne _ (by omega), u2_nk hi]
  · show u2 U 0 0 0 0 i = _
    rw [u2_nk hi, uo 0 (by omega) (by omega)]
  · show _ = u2 U 0 0 0 0 0
    rw [u1_ne _ (by omega), u2_self, u2_self]
  · rw [u1_ne _ (by omega), u2_nc (by omega)]
    exact ⟨r1, r4, r2⟩
  · show _ = u2 U 0 0 0 16 _
    rw [u1_same, u2_nc (show 13 + ix a0 ≠ 0 by omega), u2_nc (show 13 + ix a2 ≠ 0 by omega), u2_nc (show (16 : Nat) ≠ 0 by omega), cpy_val, u16]
    by_cases q : ix a3 ≤ i ∧ i < ix a3 + ix a4
    · rw [if_pos q, if_pos (by omega), q6 _ (by omega), show 90 * ix a0 + (ix a1 + (i - ix a3)) = 90 * ix a0 + ix a1 + (90 * ix a2 + i - (90 * ix a2 + ix a3)) by omega]
    · rw [if_neg q, if_neg (by omega), r6 i hi]
  · rw [u1_ne _ c13, u2_nc c0]
  · show (if c = 17 then τ 17 else u2 U 0 0 0 c) = τ c
    by_cases c17 : c = 17
    · rw [if_pos c17, c17]
    · rw [if_neg c17, u2_nc c0, uo c c16 c17]
  · show u2 U 0 0 0 14 i = _
    rw [u2_nc (show (14 : Nat) ≠ 0 by omega), uo 14 (by omega) (by omega)]
    by_cases ei : i = ix a2
    · rw [if_pos ei, ei]
    · rw [if_neg ei]
  · show u2 U 0 0 0 15 i = _
    rw [u2_nc (show (15 : Nat) ≠ 0 by omega), uo 15 (by omega) (by omega)]
    by_cases ei : i = ix a2
    · rw [if_pos ei, ei]
    · rw [if_neg ei]
  · show u2 U 0 0 0 16 _ = _
    rw [u2_nc (show (16 : Nat) ≠ 0 by omega), u16, if_neg (by omega)]
  · rfl
  · show u1 _ _ _ 0 9 = u2 U 0 0 0 0 0
    rw [u1_ne _ (by omega), u2_self, u2_self]
  · show u2 U 0 0 0 c = if c = 17 then τ 17 else u2 U 0 0 0 c
    rw [if_neg c17]
