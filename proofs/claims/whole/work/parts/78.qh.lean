/-! a new smell: the search -/
section SEEK
variable {j : Nat} {σ τ : St}
theorem R_la (h : R j σ τ) (hn : (τ 0 1).toInt ≠ 0) {S : St} (hS : ∀ c, c ≠ 8 → S c = σ c) {f s u v : Int32} (hf : 0 ≤ f.toInt ∧ f.toInt < 9) (hs : 0 ≤ s.toInt ∧ s.toInt < 9) (hfs : f ≠ s) (hu : 0 ≤ u.toInt ∧ u.toInt ≤ 9) (hv : 0 ≤ v.toInt ∧ v.toInt ≤ 9) : f_X3_leastApart S f s u v = f_X4_leastFar τ f s u v ∧ 0 ≤ (f_X4_leastFar τ f s u v).toInt := by
  have h1 := h.2.1.1
  refine la_eq (by rw [hS 0 (by decide)]; exact h.2.2.1.1) (by omega) h1.2 (fun x x0 x1 => ?_) hf hs hfs hu hv
  have r := R_Rsign h ⟨x0, x1⟩
  unfold Rsign at r ⊢
  rw [hS _ (by omega), hS _ (by omega)]
  exact r
theorem ts_11 (h : R j σ τ) (hn : (τ 0 1).toInt ≠ 0) {p f s u : Int32} (hf : 0 ≤ f.toInt ∧ f.toInt < 9) (hs : 0 ≤ s.toInt ∧ s.toInt < 9) (hfs : f ≠ s) (hu : 0 ≤ u.toInt ∧ u.toInt ≤ 9) (N : Nat) : ∀ (r M : Nat) (v a2 a3 a6 : Int32) (S : St), r < M → v.toInt = 10 - r → 0 ≤ v.toInt → a6.toInt = 10 * u.toInt + v.toInt → (∀ c, c ≠ 8 → S c = σ c) → FR S a2 a3 → ∃ b2 b3 b6, lp_X4_fresh_56 τ p f s (N + r) a2 a3 a6 = lp_X4_fresh_56 τ p f s N b2 b3 b6 ∧ b6.toInt = 10 * u.toInt + 10 ∧ (∀ c, c ≠ 8 → lp_X3_tryStrengths_11 f s u M v S c = σ c) ∧ FR (lp_X3_tryStrengths_11 f s u M v S) b2 b3 ∧ (0 ≤ a2.toInt ∨ 0 < r → 0 ≤ b2.toInt) := by
  have z9 : (9 : Int32).toInt = 9 := by decide
  have z10 : (10 : Int32).toInt = 10 := by decide
  have z100 : (100 : Int32).toInt = 100 := by decide
  intro r
  induction r with
  | zero =>
    intro M v a2 a3 a6 S hM hv h0 h6 hS hR
    cases M with
    | zero => omega
    | succ M =>
      rw [lp_X3_tryStrengths_11, if_pos (show 9 < v from qm_lt (by omega))]
      exact ⟨a2, a3, a6, rfl, by omega, hS, hR, fun q => q.elim id (fun q => absurd q (by omega))⟩
  | succ r ih =>
    intro M v a2 a3 a6 S hM hv h0 h6 hS hR
    cases M with
    | zero => omega
    | succ M =>
      have v1 := inc_toInt (a := v) h0 (by omega)
      have a1 := inc_toInt (a := a6) (by omega) (by omega)
      have d1 := dv_toInt (a := a6) (b := 10) (by omega) (by decide)
      have d2 := irem_toInt (a := a6) (b := 10) (by omega) (by decide)
      rw [z10] at d1 d2
      have e6 : a6 / 10 = u := qm_eq (by omega)
      have e7 : a6 - a6 / 10 * 10 = v := qm_eq (by omega)
      obtain ⟨l1, l2⟩ := R_la h hn hS hf hs hfs hu (show 0 ≤ v.toInt ∧ v.toInt ≤ 9 by omega)
      have E4 : lp_X4_fresh_56 τ p f s (N + (r + 1)) a2 a3 a6 = if f_X4_leastFar τ f s u v ≤ a2 then lp_X4_fresh_56 τ p f s (N + r) a2 a3 (a6 + 1) else lp_X4_fresh_56 τ p f s (N + r) (f_X4_leastFar τ f s u v) (((1000 * f) + (100 * s)) + a6) (a6 + 1) := by
        rw [show N + (r + 1) = (N + r) + 1 from rfl, lp_X4_fresh_56, if_neg (show ¬ 100 ≤ a6 from qm_nle (by omega)), e7, e6]
      have E3 : lp_X3_tryStrengths_11 f s u (M + 1) v S = if f_X4_leastFar τ f s u v ≤ S 8 (ix 0) then lp_X3_tryStrengths_11 f s u M (v + 1) S else lp_X3_tryStrengths_11 f s u M (v + 1) (u2 (u2 (u2 (u2 (u2 S 8 (ix 0) (f_X4_leastFar τ f s u v)) 8 (ix 1) f) 8 (ix 2) s) 8 (ix 3) u) 8 (ix 4) v) := by
        rw [lp_X3_tryStrengths_11, if_neg (show ¬ 9 < v from qm_nlt (by omega)), l1]
      have ww := FR_le hR l2
      generalize f_X4_leastFar τ f s u v = L at l2 E4 E3 ww
      rw [E4, E3]
      by_cases w : L ≤ a2
      · rw [if_pos w, if_pos (ww.mpr w)]
        obtain ⟨b2, b3, b6, i1, i2, i3, i4, i5⟩ := ih M (v + 1) a2 a3 (a6 + 1) S (by omega) (by omega) (by omega) (by omega) hS hR
        have w' := qt_le w
        exact ⟨b2, b3, b6, i1, i2, i3, i4, fun _ => i5 (Or.inl (by omega))⟩
      · rw [if_neg w, if_neg (fun q => w (ww.mp q))]
        obtain ⟨b2, b3, b6, i1, i2, i3, i4, i5⟩ := ih M (v + 1) L (((1000 * f) + (100 * s)) + a6) (a6 + 1) (u2 (u2 (u2 (u2 (u2 S 8 (ix 0) L) 8 (ix 1) f) 8 (ix 2) s) 8 (ix 3) u) 8 (ix 4) v) (by omega) (by omega) (by omega) (by omega) (fun c hc => by rw [u2_nc hc, u2_nc hc, u2_nc hc, u2_nc hc, u2_nc hc, hS c hc]) (FR_new l2 hf hs hu (by omega) h6)
        exact ⟨b2, b3, b6, i1, i2, i3, i4, fun _ => i5 (Or.inl l2)⟩
theorem ts_2 (h : R j σ τ) (hn : (τ 0 1).toInt ≠ 0) {p f s : Int32} (hf : 0 ≤ f.toInt ∧ f.toInt < 9) (hs : 0 ≤ s.toInt ∧ s.toInt < 9) (hfs : f ≠ s) (N : Nat) : ∀ (r M : Nat) (u a2 a3 a6 : Int32) (S : St), r < M → u.toInt = 10 - r → 0 ≤ u.toInt → a6.toInt = 10 * u.toInt → (∀ c, c ≠ 8 → S c = σ c) → FR S a2 a3 → ∃ b2 b3, lp_X4_fresh_56 τ p f s (N + 1 + 10 * r) a2 a3 a6 = (b2, b3) ∧ (∀ c, c ≠ 8 → lp_X3_tryStrengths_2 f s M u S c = σ c) ∧ FR (lp_X3_tryStrengths_2 f s M u S) b2 b3 ∧ (0 ≤ a2.toInt ∨ 0 < r → 0 ≤ b2.toInt) := by
  have z9 : (9 : Int32).toInt = 9 := by decide
  have z0 : (0 : Int32).toInt = 0 := by decide
  have z100 : (100 : Int32).toInt = 100 := by decide
  intro r
  induction r with
  | zero =>
    intro M u a2 a3 a6 S hM hu h0 h6 hS hR
    cases M with
    | zero => omega
    | succ M =>
      rw [lp_X3_tryStrengths_2, if_pos (show 9 < u from qm_lt (by omega))]
      refine ⟨a2, a3, ?_, hS, hR, fun q => q.elim id (fun q => absurd q (by omega))⟩
      rw [show N + 1 + 10 * 0 = N + 1 from rfl, lp_X4_fresh_56, if_pos (show 100 ≤ a6 from qm_le (by omega))]
  | succ r ih =>
    intro M u a2 a3 a6 S hM hu h0 h6 hS hR
    cases M with
    | zero => omega
    | succ M =>
      have u1 := inc_toInt (a := u) h0 (by omega)
      obtain ⟨b2, b3, b6, i1, i2, i3, i4, i5⟩ := ts_11 (p := p) h hn hf hs hfs (u := u) (by omega) (N + 1 + 10 * r) 10 200 0 a2 a3 a6 S (by decide) (by decide) (by decide) (by omega) hS hR
      rw [lp_X3_tryStrengths_2, if_neg (show ¬ 9 < u from qm_nlt (by omega)), show N + 1 + 10 * (r + 1) = N + 1 + 10 * r + 10 by omega, i1]
      generalize lp_X3_tryStrengths_11 f s u 200 0 S = S' at i3 i4 ⊢
      obtain ⟨d2, d3, k1, k2, k3, k4⟩ := ih M (u + 1) b2 b3 b6 S' (by omega) (by omega) (by omega) (by omega) i3 i4
      exact ⟨d2, d3, k1, k2, k3, fun _ => k4 (Or.inl (i5 (Or.inr (by decide))))⟩
theorem sk_12 (h : R j σ τ) (hn : (τ 0 1).toInt ≠ 0) {p f : Int32} (hf : 0 ≤ f.toInt ∧ f.toInt < 9) : ∀ (n : Nat) (s a2 a3 : Int32) (S : St), f.toInt < s.toInt → (∀ c, c ≠ 8 → S c = σ c) → FR S a2 a3 → (∀ c, c ≠ 8 → lp_X3_seekNewSmell_12 f n s S c = σ c) ∧ FR (lp_X3_seekNewSmell_12 f n s S) (lp_X4_fresh_46 τ p f n a2 a3 s).1 (lp_X4_fresh_46 τ p f n a2 a3 s).2 ∧ (0 ≤ a2.toInt ∨ (0 < n ∧ s.toInt < 9) → 0 ≤ (lp_X4_fresh_46 τ p f n a2 a3 s).1.toInt) := by
  have z9 : (9 : Int32).toInt = 9 := by decide
  intro n
  induction n with
  | zero => intro s a2 a3 S hs hS hR; exact ⟨hS, hR, fun q => q.elim id (fun q => absurd q.1 (by omega))⟩
  | succ n ih =>
    intro s a2 a3 S hs hS hR
    rw [lp_X3_seekNewSmell_12, lp_X4_fresh_46]
    by_cases c : 9 ≤ s
    · have c' := qt_le c
      rw [if_pos c, if_pos c]
      exact ⟨hS, hR, fun q => q.elim id (fun q => absurd q.2 (by omega))⟩
    have c' := qt_nle c
    have s1 := inc_toInt (a := s) (by omega) (by omega)
    obtain ⟨b2, b3, k1, k2, k3, k4⟩ := ts_2 (p := p) h hn hf (s := s) (by omega) (fun q => by rw [q] at hs; omega) 99 10 200 0 a2 a3 0 S (by decide) (by decide) (by decide) (by decide) hS hR
    rw [if_neg c, if_neg c]
    have k1' : lp_X4_fresh_56 τ p f s 200 a2 a3 0 = (b2, b3) := k1
    rw [k1']
    unfold f_X3_tryStrengths
    generalize lp_X3_tryStrengths_2 f s 200 0 S = S' at k2 k3 ⊢
    obtain ⟨i1, i2, i3⟩ := ih (s + 1) b2 b3 S' (by omega) k2 k3
    exact ⟨i1, i2, fun _ => i3 (Or.inl (k4 (Or.inr (by decide))))⟩
theorem sk_2 (h : R j σ τ) (hn : (τ 0 1).toInt ≠ 0) {p : Int32} : ∀ (n : Nat) (f a2 a3 : Int32) (S : St), 0 ≤ f.toInt → (∀ c, c ≠ 8 → S c = σ c) → FR S a2 a3 → (∀ c, c ≠ 8 → lp_X3_seekNewSmell_2 n f S c = σ c) ∧ FR (lp_X3_seekNewSmell_2 n f S) (lp_X4_fresh_33 τ p n a2 a3 f).1 (lp_X4_fresh_33 τ p n a2 a3 f).2 ∧ (0 ≤ a2.toInt ∨ (0 < n ∧ f.toInt < 8) → 0 ≤ (lp_X4_fresh_33 τ p n a2 a3 f).1.toInt) := by
  have z9 : (9 : Int32).toInt = 9 := by decide
  intro n
  induction n with
  | zero => intro f a2 a3 S hf hS hR; exact ⟨hS, hR, fun q => q.elim id (fun q => absurd q.1 (by omega))⟩
  | succ n ih =>
    intro f a2 a3 S hf hS hR
    rw [lp_X3_seekNewSmell_2, lp_X4_fresh_33]
    by_cases c : 9 ≤ f
    · have c' := qt_le c
      rw [if_pos c, if_pos c]
      exact ⟨hS, hR, fun q => q.elim id (fun q => absurd q.2 (by omega))⟩
    have c' := qt_nle c
    have f1 := inc_toInt (a := f) (by omega) (by omega)
    obtain ⟨k1, k2, k3⟩ := sk_12 (p := p) h hn (f := f) (by omega) 200 (f + 1) a2 a3 S (by omega) hS hR
    rw [if_neg c, if_neg c]
    generalize lp_X3_seekNewSmell_12 f 200 (f + 1) S = S' at k1 k2 ⊢
    generalize lp_X4_fresh_46 τ p f 200 a2 a3 (f + 1) = w at k2 k3 ⊢
    obtain ⟨b2, b3⟩ := w
    obtain ⟨i1, i2, i3⟩ := ih (f + 1) b2 b3 S' (by omega) k1 k2
    exact ⟨i1, i2, fun q => i3 (Or.inl (k3 (q.elim Or.inl (fun q => Or.inr ⟨by decide, by omega⟩))))⟩
theorem R_seek (h : R j σ τ) (hn : (τ 0 1).toInt ≠ 0) (h8 : σ 8 (ix 0) = -1) : (∀ c, c ≠ 8 → f_X3_seekNewSmell σ c = σ c) ∧ ∀ k : Int32, 0 ≤ k.toInt → k.toInt < 5 → f_X3_seekNewSmell σ 8 (ix k) = f_X4_fresh τ k := by
  have t : ∀ p : Int32, (∀ c, c ≠ 8 → f_X3_seekNewSmell σ c = σ c) ∧ FR (f_X3_seekNewSmell σ) (lp_X4_fresh_33 τ p 200 (-9) 0 0).1 (lp_X4_fresh_33 τ p 200 (-9) 0 0).2 ∧ (0 ≤ (-9 : Int32).toInt ∨ (0 < 200 ∧ (0 : Int32).toInt < 8) → 0 ≤ (lp_X4_fresh_33 τ p 200 (-9) 0 0).1.toInt) := fun p => sk_2 (p := p) h hn 200 0 (-9) 0 σ (by decide) (fun c _ => rfl) (Or.inl ⟨h8, rfl⟩)
  refine ⟨(t 0).1, fun k k0 k1 => ?_⟩
  have z0 : (0 : Int32).toInt = 0 := by decide
  have z1 : (1 : Int32).toInt = 1 := by decide
  have z2 : (2 : Int32).toInt = 2 := by decide
  have z3 : (3 : Int32).toInt = 3 := by decide
  have z10 : (10 : Int32).toInt = 10 := by decide
  have z100 : (100 : Int32).toInt = 100 := by decide
  have z1000 : (1000 : Int32).toInt = 1000 := by decide
  obtain ⟨_, k2, k3⟩ := t k
  have k4 := k3 (Or.inr ⟨by decide, by decide⟩)
  unfold f_X4_fresh
  rw [if_neg (in_p (L := 0) (H := 4) ⟨k0, by omega⟩ (by decide) (by decide)), if_neg (fun q => hn (by rw [q]; decide))]
  generalize lp_X4_fresh_33 τ k 200 (-9) 0 0 = w at k2 k4 ⊢
  generalize f_X3_seekNewSmell σ = S at k2 ⊢
  obtain ⟨b2, b3⟩ := w
  rcases k2 with ⟨q1, q2⟩ | ⟨q1, q2, f, s, u, v, hf, hs, hu, hv, q3, q4, q5, q6, q7⟩
  · dsimp only at k4 q2
    rw [q2] at k4
    exact absurd k4 (by decide)
  dsimp only at q1 q2 q3 ⊢
  have d1 := dv_toInt (a := b3) (b := 1000) (by omega) (by decide)
  have d2 := dv_toInt (a := b3) (b := 100) (by omega) (by decide)
  have d3 := dv_toInt (a := b3) (b := 10) (by omega) (by decide)
  rw [z1000] at d1
  rw [z100] at d2
  rw [z10] at d3
  have d4 := irem_toInt (a := b3 / 100) (b := 10) (by omega) (by decide)
  have d5 := irem_toInt (a := b3 / 10) (b := 10) (by omega) (by decide)
  have d6 := irem_toInt (a := b3) (b := 10) (by omega) (by decide)
  rw [z10] at d4 d5 d6
  by_cases c0 : k = 0
  · rw [if_pos c0, c0, q2]
  by_cases c1 : k = 1
  · rw [if_neg c0, if_pos c1, c1, q4]; exact qm_eq (by omega)
  by_cases c2 : k = 2
  · rw [if_neg c0, if_neg c1, if_pos c2, c2, q5]; exact qm_eq (by omega)
  by_cases c3 : k = 3
  · rw [if_neg c0, if_neg c1, if_neg c2, if_pos c3, c3, q6]; exact qm_eq (by omega)
  have c4 : k = 4 := qm_eq (by
    have z4 : (4 : Int32).toInt = 4 := by decide
    have n0 : k.toInt ≠ 0 := fun q => c0 (qm_eq (by omega))
    have n1 : k.toInt ≠ 1 := fun q => c1 (qm_eq (by omega))
    have n2 : k.toInt ≠ 2 := fun q => c2 (qm_eq (by omega))
    have n3 : k.toInt ≠ 3 := fun q => c3 (qm_eq (by omega))
    omega)
  rw [if_neg c0, if_neg c1, if_neg c2, if_neg c3, c4, q7]
  exact qm_eq (by omega)
theorem R_8 (h : R j σ τ) {S : St} (hS : ∀ c, c ≠ 8 → S c = σ c) (h8 : S 8 0 = -1 ∨ ∀ k : Int32, 0 ≤ k.toInt → k.toInt < 5 → S 8 (ix k) = f_X4_fresh τ k) : R j S τ := by
  obtain ⟨a1, a2, a3, a4, a5, a6, a7, a8, a9, a10⟩ := h
  refine ⟨?_, a2, ?_, a4, a5, fun x hx => ?_, fun m hm hn => ?_, fun p hp => ?_, fun k hk => ?_, fun _ => h8⟩
  · exact okC_cell a1 ⟨by rw [hS 0 (by decide)], by rw [hS 0 (by decide)], by rw [hS 0 (by decide)]⟩ (hS 4 (by decide)) (fun q hq => by rw [hS _ (by omega)]) (fun p hp => by rw [hS _ (by omega)]; exact ⟨rfl, rfl⟩)
  · rw [hS 0 (by decide)]; exact a3
  · have r := a6 x hx
    unfold Rsign at r ⊢
    rw [hS _ (by omega), hS _ (by omega)]
    exact r
  · rw [hS 4 (by decide)]; exact a7 m hm hn
  · exact Rpap_congr (a8 p hp) (hS _ (by omega)) rfl rfl ⟨rfl, rfl, rfl, rfl, rfl, rfl⟩
  · exact Rsh_congr (a9 k hk) (hS _ (by omega)) (hS _ (by omega)) rfl rfl (fun i _ => rfl)
theorem q_fresh (h : R j σ τ) (hj : j < 512) (a0 : Int32) : (f_X3_fresh σ a0).1 = (f_X4_fresh τ a0) ∧ R (j + 1) (f_X3_fresh σ a0).2 τ := by
  have z0 : (0 : Int32).toInt = 0 := by decide
  have z5 : (5 : Int32).toInt = 5 := by decide
  have o0 : ix (0 : Int32) = 0 := by decide
  unfold f_X3_fresh
  by_cases g : 0 ≤ a0.toInt ∧ a0.toInt ≤ 4
  case neg =>
    have e : f_X4_fresh τ a0 = -2 := by
      unfold f_X4_fresh
      rw [if_pos (in_n g (by decide) (by decide))]
    rw [e]
    by_cases c : a0 < 0
    · rw [if_pos c]; exact ⟨rfl, R_up h⟩
    · have c' := qt_nlt c
      rw [if_neg c, if_neg (show ¬ a0 < 5 from qm_nlt (by omega))]; exact ⟨rfl, R_up h⟩
  rw [if_neg (show ¬ a0 < 0 from qm_nlt (by omega)), if_pos (show a0 < 5 from qm_lt (by omega))]
  by_cases n0 : τ 0 1 = 0
  · have e : f_X4_fresh τ a0 = -3 := by
      unfold f_X4_fresh
      rw [if_neg (in_p g (by decide) (by decide)), if_pos n0]
    rw [e, if_pos (h.2.2.1.1.trans n0)]
    exact ⟨rfl, R_up h⟩
  rw [if_neg (fun q => n0 (h.2.2.1.1.symm.trans q))]
  have hn : (τ 0 1).toInt ≠ 0 := fun q => n0 (qm_eq (by omega))
  by_cases s8 : σ 8 (ix 0) = -1
  · obtain ⟨k1, k2⟩ := R_seek h hn s8
    rw [if_pos s8]
    generalize f_X3_seekNewSmell σ = S at k1 k2 ⊢
    exact ⟨k2 a0 g.1 (by omega), R_up (R_8 h k1 (Or.inr k2))⟩
  · rw [if_neg s8]
    rcases h.2.2.2.2.2.2.2.2.2 hn with q | q
    · exact absurd (by rw [o0]; exact q) s8
    · exact ⟨q a0 g.1 (by omega), R_up h⟩
end SEEK
