/-! register: taking the text, on both sides -/
theorem isum_congr {f g : Nat → Int32} : ∀ n : Nat, (∀ m, m < n → f m = g m) → isum f n = isum g n := by
  intro n
  induction n with
  | zero => intro _; rfl
  | succ n ih =>
    intro h
    rw [isum_s, isum_s, ih (fun m hm => h m (by omega)), h n (by omega)]
section TAKE
variable {G C : Nat → Int32}
theorem tt_65 {q : Nat} (hq : q < 4) {p2 k a5 : Int32} {x : Nat} (hx : ix k = x) (hcell : ∀ m : Int32, 0 ≤ m.toInt → m.toInt < 9 → C (ix ((a5 + 1) + m)) = G (11 * x + 1 + ix m)) : ∀ (N : Nat) (m : Int32) (S : St), 0 ≤ m.toInt → m.toInt ≤ 9 → 9 - m.toInt < N → S (13 + q) = C → S (17 + x) 1 = isum (fun i => G (11 * x + 1 + i) - 48) (ix m) → (∀ c, c ≠ 17 + x → c ≠ 25 + x → lp_X3_takeText_65 q p2 k a5 N m S c = S c) ∧ (∀ i, i ≠ 1 → lp_X3_takeText_65 q p2 k a5 N m S (17 + x) i = S (17 + x) i) ∧ lp_X3_takeText_65 q p2 k a5 N m S (17 + x) 1 = isum (fun i => G (11 * x + 1 + i) - 48) 9 ∧ (∀ i, i < ix m → lp_X3_takeText_65 q p2 k a5 N m S (25 + x) i = S (25 + x) i) ∧ ∀ i, ix m ≤ i → i < 9 → lp_X3_takeText_65 q p2 k a5 N m S (25 + x) i = G (11 * x + 1 + i) - 48 := by
  have z9 : (9 : Int32).toInt = 9 := by decide
  intro N
  induction N with
  | zero => intro m S h0 h1 h2; omega
  | succ N ih =>
    intro m S h0 h1 h2 hS h17
    have em := ix_toInt h0
    rw [lp_X3_takeText_65]
    by_cases d : 9 ≤ m
    · have d' := qt_le d
      have e9 : ix m = 9 := by omega
      rw [if_pos d]
      rw [e9] at h17
      exact ⟨fun c _ _ => rfl, fun i _ => rfl, h17, fun i _ => rfl, fun i i0 i1 => by omega⟩
    have d' := qt_nle d
    have m1 := inc_toInt (a := m) h0 (by omega)
    have em1 := ix_toInt (x := m + 1) (by omega)
    have e1 : ix (m + 1) = ix m + 1 := by omega
    rw [if_neg d, hx, hS, hcell m h0 (by omega), u2_nc (show 17 + x ≠ 25 + x by omega), h17]
    obtain ⟨i1, i2, i3, i4, i5⟩ := ih (m + 1) (u2 (u2 S (25 + x) (ix m) (G (11 * x + 1 + ix m) - 48)) (17 + x) 1 (isum (fun i => G (11 * x + 1 + i) - 48) (ix m) + (G (11 * x + 1 + ix m) - 48))) (by omega) (by omega) (by omega) (by rw [u2_nc (by omega), u2_nc (by omega)]; exact hS) (by rw [u2_self, e1, isum_s])
    refine ⟨fun c c1 c2 => ?_, fun i hi => ?_, i3, fun i hi => ?_, fun i ia ib => ?_⟩
    · rw [i1 c c1 c2, u2_nc c1, u2_nc c2]
    · rw [i2 i hi, u2_nk hi, u2_nc (by omega)]
    · rw [i4 i (by omega), u2_nc (by omega), u2_nk (by omega)]
    · by_cases e : i = ix m
      · rw [i4 i (by omega), u2_nc (by omega), e, u2_self]
      · exact i5 i (by omega) ib
theorem tt_13 {q : Nat} (hq : q < 4) {p2 cnt : Int32} (h8 : cnt.toInt ≤ 8) (hcell : ∀ x : Int32, 0 ≤ x.toInt → x.toInt < cnt.toInt → C (ix (p2 + x * 11)) = G (11 * ix x) ∧ ∀ m : Int32, 0 ≤ m.toInt → m.toInt < 9 → C (ix ((p2 + x * 11 + 1) + m)) = G (11 * ix x + 1 + ix m)) : ∀ (N : Nat) (k : Int32) (S : St), 0 ≤ k.toInt → cnt.toInt - k.toInt < N → S 0 4 = cnt → S (13 + q) = C → (∀ c, (c < 17 ∨ 33 ≤ c) → lp_X3_takeText_13 q p2 N k S c = S c) ∧ (∀ y : Nat, y < 8 → (y : Int) < k.toInt → lp_X3_takeText_13 q p2 N k S (17 + y) = S (17 + y) ∧ lp_X3_takeText_13 q p2 N k S (25 + y) = S (25 + y)) ∧ ∀ y : Nat, k.toInt ≤ y → (y : Int) < cnt.toInt → lp_X3_takeText_13 q p2 N k S (17 + y) 0 = f_X3_kindOf (G (11 * y)) ∧ lp_X3_takeText_13 q p2 N k S (17 + y) 1 = isum (fun i => G (11 * y + 1 + i) - 48) 9 ∧ ∀ m, m < 9 → lp_X3_takeText_13 q p2 N k S (25 + y) m = G (11 * y + 1 + m) - 48 := by
  intro N
  induction N with
  | zero =>
    intro k S h0 h1 h4 hS
    exact ⟨fun c _ => rfl, fun y _ _ => ⟨rfl, rfl⟩, fun y y0 y1 => by omega⟩
  | succ N ih =>
    intro k S h0 h1 h4 hS
    rw [lp_X3_takeText_13, h4]
    by_cases d : cnt ≤ k
    · have d' := qt_le d
      rw [if_pos d]
      exact ⟨fun c _ => rfl, fun y _ _ => ⟨rfl, rfl⟩, fun y y0 y1 => by omega⟩
    have d' := qt_nle d
    have ek := ix_toInt h0
    have k1 := inc_toInt (a := k) h0 (by omega)
    obtain ⟨c1, c2⟩ := hcell k h0 d'
    rw [if_neg d, hS, c1]
    have o0 : ix (0 : Int32) = 0 := by decide
    obtain ⟨t1, t2, t3, t4, t5⟩ := tt_65 (G := G) hq (p2 := p2) (k := k) (a5 := p2 + k * 11) rfl c2 200 0 (u2 (u2 S (17 + ix k) 0 (f_X3_kindOf (G (11 * ix k)))) (17 + ix k) 1 0) (by decide) (by decide) (by decide) (by rw [u2_nc (by omega), u2_nc (by omega)]; exact hS) (by rw [u2_self, o0]; rfl)
    generalize lp_X3_takeText_65 q p2 k (p2 + k * 11) 200 0 (u2 (u2 S (17 + ix k) 0 (f_X3_kindOf (G (11 * ix k)))) (17 + ix k) 1 0) = S1 at t1 t2 t3 t4 t5 ⊢
    obtain ⟨i1, i2, i3⟩ := ih (k + 1) S1 (by omega) (by omega) (by rw [t1 0 (by omega) (by omega), u2_nc (by omega), u2_nc (by omega)]; exact h4) (by rw [t1 (13 + q) (by omega) (by omega), u2_nc (by omega), u2_nc (by omega)]; exact hS)
    refine ⟨fun c hc => ?_, fun y y8 yk => ?_, fun y y0 y1 => ?_⟩
    · rw [i1 c hc, t1 c (by omega) (by omega), u2_nc (by omega), u2_nc (by omega)]
    · obtain ⟨w1, w2⟩ := i2 y y8 (by omega)
      rw [w1, w2, t1 (17 + y) (by omega) (by omega), t1 (25 + y) (by omega) (by omega), u2_nc (by omega), u2_nc (by omega), u2_nc (by omega), u2_nc (by omega)]
      exact ⟨rfl, rfl⟩
    · by_cases e : y = ix k
      · obtain ⟨w1, w2⟩ := i2 y (by omega) (by omega)
        rw [w1, w2, e, t2 0 (by decide), t3, u2_nk (by decide), u2_self]
        exact ⟨rfl, rfl, fun m hm => t5 m (by omega) hm⟩
      · exact i3 y (by omega) y1
end TAKE
theorem cp_58 : ∀ (N : Nat) (k : Int32) (S : St), 0 ≤ k.toInt → (S 0 1).toInt - k.toInt < N → (∀ c, c ≠ 1 → lp_X4_register_58 N k S c = S c) ∧ ∀ i : Nat, lp_X4_register_58 N k S 1 i = if k.toInt ≤ i ∧ (i : Int) < (S 0 1).toInt then S 4 i else S 1 i := by
  intro N
  induction N with
  | zero => intro k S h0 h1; exact ⟨fun c hc => rfl, fun i => by rw [if_neg (by omega)]; rfl⟩
  | succ N ih =>
    intro k S h0 h1
    rw [lp_X4_register_58]
    by_cases d : S 0 1 ≤ k
    · have d' := qt_le d
      rw [if_pos d]
      exact ⟨fun c hc => rfl, fun i => by rw [if_neg (by omega)]⟩
    have d' := qt_nle d
    have b := lb (S 0 1)
    have k1 := inc_toInt (a := k) h0 (by omega)
    have ek := ix_toInt h0
    have e0 : u2 S 1 (ix k) (S 4 (ix k)) 0 = S 0 := u2_nc (by decide)
    rw [if_neg d]
    obtain ⟨i1, i2⟩ := ih (k + 1) (u2 S 1 (ix k) (S 4 (ix k))) (by omega) (by rw [e0]; omega)
    refine ⟨fun c hc => by rw [i1 c hc, u2_nc hc], fun i => ?_⟩
    rw [i2 i, e0, u2_nc (show (4 : Nat) ≠ 1 by decide)]
    by_cases ei : i = ix k
    · subst ei
      rw [if_neg (by omega), u2_self, if_pos (by omega)]
    · rw [u2_nk ei]
      by_cases q : k.toInt ≤ i ∧ (i : Int) < (S 0 1).toInt
      · rw [if_pos q, if_pos (by omega)]
      · rw [if_neg q, if_neg (by omega)]
theorem cp_90 : ∀ (N : Nat) (k : Int32) (S : St), 0 ≤ k.toInt → 72 - k.toInt < N → (∀ c, c ≠ 2 → lp_X4_register_90 N k S c = S c) ∧ ∀ i : Nat, lp_X4_register_90 N k S 2 i = if k.toInt ≤ i ∧ i < 72 then S 5 i else S 2 i := by
  have z : (72 : Int32).toInt = 72 := by decide
  intro N
  induction N with
  | zero => intro k S h0 h1; exact ⟨fun c hc => rfl, fun i => by rw [if_neg (by omega)]; rfl⟩
  | succ N ih =>
    intro k S h0 h1
    rw [lp_X4_register_90]
    by_cases d : 72 ≤ k
    · have d' := qt_le d
      rw [if_pos d]
      exact ⟨fun c hc => rfl, fun i => by rw [if_neg (by omega)]⟩
    have d' := qt_nle d
    have k1 := inc_toInt (a := k) h0 (by omega)
    have ek := ix_toInt h0
    rw [if_neg d]
    obtain ⟨i1, i2⟩ := ih (k + 1) (u2 S 2 (ix k) (S 5 (ix k))) (by omega) (by omega)
    refine ⟨fun c hc => by rw [i1 c hc, u2_nc hc], fun i => ?_⟩
    rw [i2 i, u2_nc (show (5 : Nat) ≠ 2 by decide)]
    by_cases ei : i = ix k
    · subst ei
      rw [if_neg (by omega), u2_self, if_pos (by omega)]
    · rw [u2_nk ei]
      by_cases q : k.toInt ≤ i ∧ i < 72
      · rw [if_pos q, if_pos (by omega)]
      · rw [if_neg q, if_neg (by omega)]
theorem cp_120 : ∀ (N : Nat) (k : Int32) (S : St), 0 ≤ k.toInt → 9 - k.toInt < N → (∀ c, c ≠ 3 → lp_X4_register_120 N k S c = S c) ∧ ∀ i : Nat, lp_X4_register_120 N k S 3 i = if k.toInt ≤ i ∧ i < 9 then 5 else S 3 i := by
  have z : (9 : Int32).toInt = 9 := by decide
  intro N
  induction N with
  | zero => intro k S h0 h1; exact ⟨fun c hc => rfl, fun i => by rw [if_neg (by omega)]; rfl⟩
  | succ N ih =>
    intro k S h0 h1
    rw [lp_X4_register_120]
    by_cases d : 9 ≤ k
    · have d' := qt_le d
      rw [if_pos d]
      exact ⟨fun c hc => rfl, fun i => by rw [if_neg (by omega)]⟩
    have d' := qt_nle d
    have k1 := inc_toInt (a := k) h0 (by omega)
    have ek := ix_toInt h0
    rw [if_neg d]
    obtain ⟨i1, i2⟩ := ih (k + 1) (u2 S 3 (ix k) 5) (by omega) (by omega)
    refine ⟨fun c hc => by rw [i1 c hc, u2_nc hc], fun i => ?_⟩
    rw [i2 i]
    by_cases ei : i = ix k
    · subst ei
      rw [if_neg (by omega), u2_self, if_pos (by omega)]
    · rw [u2_nk ei]
      by_cases q : k.toInt ≤ i ∧ i < 9
      · rw [if_pos q, if_pos (by omega)]
      · rw [if_neg q, if_neg (by omega)]
theorem R_new {j : Nat} {σ τ : St} (h : R j σ τ) {S T : St} {c : Nat} (c2 : 2 ≤ c) (c8 : c ≤ 8) (s4 : (S 0 4).toInt = c) (t1 : T 0 1 = S 0 4) (s0 : S 0 5 = 0 ∧ S 0 6 = 0 ∧ S 0 7 = 40 ∧ S 0 8 = σ 0 8 ∧ S 0 9 = 0) (t0 : T 0 11 = 0 ∧ T 0 2 = 0 ∧ T 0 3 = 40 ∧ T 0 24 = τ 0 24 ∧ T 0 0 = 0) (hs : ∀ c, (9 ≤ c ∧ c < 17 ∨ 33 ≤ c) → S c = σ c) (ht : ∀ c, c = 6 ∨ c = 7 ∨ c = 8 ∨ c = 14 ∨ c = 15 ∨ c = 16 → T c = τ c) (h4 : ∀ m, m < 9 → S 4 m = 5) (k3 : ∀ m, m < 9 → T 3 m = 5) (h8 : S 8 0 = -1) (hr : ∀ x, x < c → Rsign S T x) : R j S T := by
  obtain ⟨a1, a2, a3, a4, a5, a6, a7, a8, a9, a10⟩ := h
  have z0 : (0 : Int32).toInt = 0 := by decide
  have z40 : (40 : Int32).toInt = 40 := by decide
  have z5 : (5 : Int32).toInt = 5 := by decide
  obtain ⟨s5, s6, s7, s8, s9⟩ := s0
  obtain ⟨t11, t2, t3, t24, t00⟩ := t0
  have tc : (T 0 1).toInt = c := by rw [t1, s4]
  refine ⟨⟨by omega, by rw [s5, z0]; omega, fun m hm _ => by rw [h4 m hm, z5]; omega, fun q hq => by rw [hs _ (by omega)]; exact a1.2.2.2.1 q hq, fun p hp => by rw [hs _ (by omega)]; exact a1.2.2.2.2.1 p hp, by rw [s6, z0]; omega⟩, ⟨by omega, by rw [t11, z0]; omega, fun m hm _ => by rw [k3 m hm, z5]; omega, fun q hq => by rw [ht 14 (by omega)]; exact a2.2.2.2.1 q hq, fun p hp => by rw [ht 6 (by omega), ht 7 (by omega)]; exact a2.2.2.2.2.1 p hp, by rw [t2, z0]; omega, fun p hp => by rw [ht 8 (by omega)]; exact a2.2.2.2.2.2.2.1 p hp, Or.inl (by rw [t11, z0])⟩, ⟨t1.symm, by rw [s5, t11], by rw [s6, t2], by rw [s7, t3], by rw [s8, t24]; exact a3.2.2.2.2.1, by rw [s9, t00]⟩, Or.inr (by omega), by rw [t3, z40]; omega, fun x hx => hr x (by omega), fun m hm _ => by rw [h4 m hm, k3 m hm], fun p hp => by rw [t11, z0] at hp; omega, fun k hk => ?_, fun _ => Or.inl h8⟩
  exact Rsh_congr (a9 k hk) (hs _ (by omega)) (hs _ (by omega)) (by rw [ht 14 (by omega)]) (by rw [ht 15 (by omega)]) (fun i _ => by rw [ht 16 (by omega)])
