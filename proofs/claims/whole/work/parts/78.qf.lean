/-! forged, in step -/
theorem fs_as {S T : St} {x y p f n : Int32} {q : Nat} (hc : ∀ i : Int32, 0 ≤ i.toInt → i.toInt < n.toInt → S (13 + q) (ix (p + 2 * i)) = T 16 (ix (f + 2 * i)) ∧ S (13 + q) (ix (p + 2 * i + 1)) = T 16 (ix (f + 2 * i + 1))) (hn : n.toInt ≤ 10) : (f_X3_areStoppers S q p n = 0 ∧ lp_X4_forged_67 T x y n f 200 0 = Sum.inl ((f_X4_refused T (-2)).1, (f_X4_refused T (-2)).2)) ∨ (¬ f_X3_areStoppers S q p n = 0 ∧ lp_X4_forged_67 T x y n f 200 0 = Sum.inr ()) := by
  unfold f_X3_areStoppers
  generalize (200 : Nat) = N
  have fs := fs_67 (x := x) (y := y) hc hn N 0 (by decide)
  generalize lp_X3_areStoppers_2 S q p n N 0 = w at fs ⊢
  cases w with
  | inl r => exact Or.inl ⟨fs.1, fs.2⟩
  | inr _ => exact Or.inr ⟨by show ¬ (1 : Int32) = 0; decide, fs⟩
theorem fg_cells {σ τ : St} {a2 a4 a5 : Int32} (hk : 0 ≤ a2.toInt ∧ a2.toInt < 4) (p1 : 0 ≤ a4.toInt) (p4 : a4.toInt + 2 * a5.toInt ≤ (τ 14 (ix a2)).toInt) (q3 : (τ 14 (ix a2)).toInt ≤ 90) (q6 : ∀ i : Nat, (i : Int) < (τ 14 (ix a2)).toInt → σ (13 + ix a2) i = τ 16 (90 * ix a2 + i)) : ∀ i : Int32, 0 ≤ i.toInt → i.toInt < a5.toInt → u2 σ 0 9 0 (13 + ix a2) (ix (a4 + 2 * i)) = τ 16 (ix (90 * a2 + a4 + 2 * i)) ∧ u2 σ 0 9 0 (13 + ix a2) (ix (a4 + 2 * i + 1)) = τ 16 (ix (90 * a2 + a4 + 2 * i + 1)) := by
  intro i i0 i1
  have e0 := ix_toInt hk.1
  have z1 : (1 : Int32).toInt = 1 := by decide
  have o1 : ix (1 : Int32) = 1 := by decide
  have e1 := km_toInt (a := i) (k := 2) (z := 2) (by decide) (by omega) (by omega)
  have e2 := km_toInt (a := a2) (k := 90) (z := 90) (by decide) (by omega) (by omega)
  have e3 := a_toInt (a := 90 * a2) (b := a4) (by omega) (by omega)
  have e4 := a_toInt (a := a4) (b := 2 * i) (by omega) (by omega)
  have e5 := a_toInt (a := 90 * a2 + a4) (b := 2 * i) (by omega) (by omega)
  have x1 := ix_toInt p1
  have x2 := ix_toInt (x := 2 * i) (by omega)
  rw [u2_nc (by omega), ix_add (a := a4 + 2 * i) (b := 1) (by omega) (by omega) (by omega), ix_add (a := 90 * a2 + a4 + 2 * i) (b := 1) (by omega) (by omega) (by omega), ix_add (a := a4) (b := 2 * i) (by omega) (by omega) (by omega), ix_add (a := 90 * a2 + a4) (b := 2 * i) (by omega) (by omega) (by omega), ix_90 hk ⟨p1, by omega⟩, o1]
  refine ⟨?_, ?_⟩
  · rw [q6 _ (by omega), Nat.add_assoc]
  · rw [q6 _ (by omega), Nat.add_assoc, Nat.add_assoc, Nat.add_assoc]
theorem q_forged {j : Nat} {σ τ : St} (h : R j σ τ) (hj : j < 512) (a0 a1 a2 a3 a4 a5 : Int32) : (f_X3_forged σ a0 a1 a2 a3 a4 a5).1 = (f_X4_forged τ a0 a1 a2 a3 a4 a5).1 ∧ R (j + 1) (f_X3_forged σ a0 a1 a2 a3 a4 a5).2 (f_X4_forged τ a0 a1 a2 a3 a4 a5).2 := by
  unfold f_X3_forged f_X4_forged
  generalize (1100 : Nat) = N
  by_cases g1 : f_X4_areTwo τ a0 a1 = 0
  · rw [if_pos ((R_two h).mpr g1), if_pos g1]; exact Q_refused h _
  rw [if_neg (fun q => g1 ((R_two h).mp q)), if_neg g1]
  have ht := areTwo_n.mp g1
  have l2 := l2_toInt a5
  have lb5 := lb a5
  rcases R_span h (k := a2) (lane := a3) (i := a4) (n := 2 * a5.toInt64) (by omega) with ⟨ex, ey⟩ | ⟨n1, n2, n3, v, v1, v2⟩
  case inr =>
    rw [if_neg n1, if_neg n2]
    refine ⟨n3, ?_⟩
    show R (j + 1) (f_X3_spanRefusal σ a2 a3 a4 (2 * a5.toInt64)).2 (f_X4_barred τ a2 a3 a4 (2 * a5.toInt64)).2
    rw [v1, v2]
    exact R_up (R_fault h v)
  have z : (f_X3_spanRefusal σ a2 a3 a4 (2 * a5.toInt64)).1 = 0 := by rw [ex]
  obtain ⟨hk, p1, p2, p3⟩ := sp_z z
  have has := sp_has z
  have z10 : (10 : Int32).toInt = 10 := by decide
  have E1 : (f_X3_spanRefusal σ a2 a3 a4 (2 * a5.toInt64)).2 = u2 σ 0 9 0 := by rw [ex]
  have E2 : (f_X4_barred τ a2 a3 a4 (2 * a5.toInt64)).1 = 0 := by rw [ey]
  have E3 : (f_X4_barred τ a2 a3 a4 (2 * a5.toInt64)).2 = τ := by rw [ey]
  rw [if_pos z, E1, E2, E3, if_pos (show (0 : Int32) ≤ 0 by decide)]
  clear ex ey z E1 E2 E3
  by_cases c : (10 : Int32) < a5
  · have := qt_lt c
    rw [if_pos c, if_neg (qm_nle (by omega))]
    exact Q_refused h (-2)
  have c' := qt_nlt c
  rw [if_neg c, if_pos (qm_le (by omega))]
  rcases R_Rsh h hk with ⟨q1, q2⟩ | ⟨q1, q2, q3, q4, q5, q6⟩
  · exact absurd q1 has
  have p4 := p3 (by omega)
  rw [l2, q2] at p4
  have hn : 0 ≤ a5.toInt ∧ a5.toInt ≤ 10 := by omega
  have cells := fg_cells hk p1 p4 q3.2 q6
  rcases fs_as (x := a0) (y := a1) cells hn.2 with ⟨st, fs⟩ | ⟨st, fs⟩
  · rw [if_pos st, fs]; exact Q_refused h (-2)
  rw [if_neg st, fs]
  have al := as_all hn st
  have hd : HD (u2 σ 0 9 0) τ (ix a2) a4 (90 * a2 + a4) a5 := fun i i0 i1 => by
    obtain ⟨b1, b2, b3⟩ := al i i0 i1
    obtain ⟨d1, d2⟩ := cells i i0 i1
    rw [d1] at b1
    rw [d2] at b2 b3
    exact ⟨⟨d1, d2⟩, bf_isSmell_n b1, qt_nlt b2, qt_le b3⟩
  have e := fg_80 (k := a2) hn N (-9) (a5 + 1) 0 (u2 σ 0 9 0) τ (R_fault h 0) ht.1 ht.2.1 hd (by decide) (Or.inl ⟨rfl, rfl⟩)
  generalize lp_X3_forged_80 a0 a1 a2 a4 a5 N (-9) (a5 + 1) 0 (u2 σ 0 9 0) = U at e ⊢
  generalize lp_X4_forged_137 a0 a1 a5 (90 * a2 + a4) N (-9) 0 τ = W at e ⊢
  obtain ⟨u1, u2⟩ := U
  obtain ⟨w1, w2⟩ := W
  exact ⟨e.1, R_up e.2⟩
