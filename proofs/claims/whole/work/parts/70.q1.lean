/-! the two sides' guards say the same; which changes keep the relation -/
theorem isSign_z {σ : St} {x : Int32} : f_X3_isSign σ x = 0 ↔ ¬ (0 ≤ x.toInt ∧ x.toInt < (σ 0 4).toInt) :=
  ⟨fun h q => by unfold f_X3_isSign at h; rw [if_neg (qm_nlt (x := x) (y := 0) q.1), if_neg (qm_nle (x := σ 0 4) (y := x) q.2)] at h; exact absurd h (by decide), fun q => Decidable.byContradiction (fun h => q (bf_isSign_n h))⟩
theorem isPaper_z {σ : St} {x : Int32} : f_X3_isPaper σ x = 0 ↔ ¬ (0 ≤ x.toInt ∧ x.toInt < (σ 0 5).toInt) :=
  ⟨fun h q => by unfold f_X3_isPaper at h; rw [if_neg (qm_nlt (x := x) (y := 0) q.1), if_neg (qm_nle (x := σ 0 5) (y := x) q.2)] at h; exact absurd h (by decide), fun q => Decidable.byContradiction (fun h => q (bf_isPaper_n h))⟩
theorem isSmell_z {x : Int32} : f_X3_isSmell x = 0 ↔ ¬ (0 ≤ x.toInt ∧ x.toInt < 9) :=
  ⟨fun h q => by unfold f_X3_isSmell at h; rw [if_neg (qm_nlt (x := x) (y := 0) q.1), if_neg (qm_nle (x := 9) (y := x) q.2)] at h; exact absurd h (by decide), fun q => Decidable.byContradiction (fun h => q (bf_isSmell_n h))⟩
theorem isSheet_z {x : Int32} : f_X3_isSheet x = 0 ↔ ¬ (0 ≤ x.toInt ∧ x.toInt < 4) :=
  ⟨fun h q => by unfold f_X3_isSheet at h; rw [if_neg (qm_nlt (x := x) (y := 0) q.1), if_neg (qm_nle (x := 4) (y := x) q.2)] at h; exact absurd h (by decide), fun q => Decidable.byContradiction (fun h => q (bf_isSheet_n h))⟩
theorem isLane_z {x : Int32} : f_X3_isLane x = 0 ↔ ¬ (0 ≤ x.toInt ∧ x.toInt < 3) := by
  constructor
  · intro h q
    unfold f_X3_isLane at h; rw [if_neg (qm_nlt (x := x) (y := 0) q.1), if_neg (qm_nle (x := 3) (y := x) q.2)] at h; exact absurd h (by decide)
  · intro q
    unfold f_X3_isLane
    by_cases h1 : x < 0
    · rw [if_pos h1]
    · rw [if_neg h1]
      by_cases h2 : 3 ≤ x
      · rw [if_pos h2]
      · exact absurd ⟨qt_nlt h1, qt_nle h2⟩ q
theorem areTwoSigns_z {σ : St} {x y : Int32} : f_X3_areTwoSigns σ x y = 0 ↔ ¬ ((0 ≤ x.toInt ∧ x.toInt < (σ 0 4).toInt) ∧ (0 ≤ y.toInt ∧ y.toInt < (σ 0 4).toInt) ∧ x ≠ y) := by
  refine ⟨fun h q => ?_, fun q => Decidable.byContradiction (fun h => q (bf_areTwoSigns_n h))⟩
  unfold f_X3_areTwoSigns at h
  rw [if_neg (fun z => isSign_z.mp z q.1), if_neg (fun z => isSign_z.mp z q.2.1), if_neg q.2.2] at h
  exact absurd h (by decide)
section REL
variable {j : Nat} {σ τ : St}
theorem R_sign (h : R j σ τ) {x : Int32} : f_X3_isSign σ x = 0 ↔ ¬ f_X4_noSign τ x = 0 := by rw [isSign_z, noSign_z, h.2.2.1.1]
theorem R_paper (h : R j σ τ) {x : Int32} : f_X3_isPaper σ x = 0 ↔ ¬ f_X4_noPaper τ x = 0 := by rw [isPaper_z, noPaper_z, h.2.2.1.2.1]
theorem R_two (h : R j σ τ) {x y : Int32} : f_X3_areTwoSigns σ x y = 0 ↔ f_X4_areTwo τ x y = 0 := by
  rw [areTwoSigns_z, h.2.2.1.1, ← areTwo_n]
  exact Classical.not_not
theorem s_smell {x : Int32} : f_X3_isSmell x = 0 ↔ ¬ f_X4_noSmell x = 0 := by rw [isSmell_z, noSmell_z]
theorem s_sheet {x : Int32} : f_X3_isSheet x = 0 ↔ ¬ f_X4_noSheet x = 0 := by rw [isSheet_z, noSheet_z]
theorem s_lane {x : Int32} : f_X3_isLane x = 0 ↔ f_X4_in x.toInt64 0 2 = 0 := by
  rw [isLane_z, in_i (L := 0) (H := 2) (by decide) (by decide)]
  omega
theorem rng_p {α : Type} {p lo hi : Int32} {A B : α} {L H : Int} (h : L ≤ p.toInt ∧ p.toInt ≤ H) (hl : lo.toInt = L) (hh : hi.toInt = H) : (if p < lo then A else if p ≤ hi then B else A) = B := by
  rw [if_neg (qm_nlt (by omega)), if_pos (qm_le (by omega))]
theorem rng_n {α : Type} {p lo hi : Int32} {A B : α} {L H : Int} (h : ¬ (L ≤ p.toInt ∧ p.toInt ≤ H)) (hl : lo.toInt = L) (hh : hi.toInt = H) : (if p < lo then A else if p ≤ hi then B else A) = A := by
  by_cases h1 : p < lo
  · rw [if_pos h1]
  · have := qt_nlt h1
    rw [if_neg h1, if_neg (qm_nle (by omega))]
theorem in_p {x : Int32} {l u : Int64} {L H : Int} (h : L ≤ x.toInt ∧ x.toInt ≤ H) (hl : l.toInt = L) (hh : u.toInt = H) : ¬ f_X4_in x.toInt64 l u = 0 := fun q => (in_i hl hh).mp q h
theorem in_n {x : Int32} {l u : Int64} {L H : Int} (h : ¬ (L ≤ x.toInt ∧ x.toInt ≤ H)) (hl : l.toInt = L) (hh : u.toInt = H) : f_X4_in x.toInt64 l u = 0 := (in_i hl hh).mpr h
/-! fresh's answer hangs on the count of SIGNS and their strengths alone -/
theorem fc_22 {σ τ : St} (h2 : σ 2 = τ 2) {a1 a2 a3 a4 a5 a6 : Int32} : ∀ (n : Nat) (a7 a8 : Int32), lp_X4_leastFar_22 σ a1 a2 a3 a4 a5 a6 n a7 a8 = lp_X4_leastFar_22 τ a1 a2 a3 a4 a5 a6 n a7 a8 := by
  intro n
  induction n with
  | zero => intro a7 a8; rfl
  | succ n ih =>
    intro a7 a8
    have e : f_X4_strong σ a6 a8 = f_X4_strong τ a6 a8 := by unfold f_X4_strong; rw [h2]
    rw [lp_X4_leastFar_22, lp_X4_leastFar_22, ih, e]
theorem fc_7 {σ τ : St} (h1 : σ 0 1 = τ 0 1) (h2 : σ 2 = τ 2) {a1 a2 a3 a4 : Int32} : ∀ (n : Nat) (a5 a6 : Int32), lp_X4_leastFar_7 σ a1 a2 a3 a4 n a5 a6 = lp_X4_leastFar_7 τ a1 a2 a3 a4 n a5 a6 := by
  intro n
  induction n with
  | zero => intro a5 a6; rfl
  | succ n ih =>
    intro a5 a6
    rw [lp_X4_leastFar_7, lp_X4_leastFar_7, ih, ih, fc_22 h2, h1]
theorem fc_leastFar {σ τ : St} (h1 : σ 0 1 = τ 0 1) (h2 : σ 2 = τ 2) {a1 a2 a3 a4 : Int32} : f_X4_leastFar σ a1 a2 a3 a4 = f_X4_leastFar τ a1 a2 a3 a4 := fc_7 h1 h2 _ _ _
theorem fc_56 {σ τ : St} (h1 : σ 0 1 = τ 0 1) (h2 : σ 2 = τ 2) {a1 a4 a5 : Int32} : ∀ (n : Nat) (a2 a3 a6 : Int32), lp_X4_fresh_56 σ a1 a4 a5 n a2 a3 a6 = lp_X4_fresh_56 τ a1 a4 a5 n a2 a3 a6 := by
  intro n
  induction n with
  | zero => intro a2 a3 a6; rfl
  | succ n ih =>
    intro a2 a3 a6
    rw [lp_X4_fresh_56, lp_X4_fresh_56, ih, ih, fc_leastFar h1 h2]
theorem fc_46 {σ τ : St} (h1 : σ 0 1 = τ 0 1) (h2 : σ 2 = τ 2) {a1 a4 : Int32} : ∀ (n : Nat) (a2 a3 a5 : Int32), lp_X4_fresh_46 σ a1 a4 n a2 a3 a5 = lp_X4_fresh_46 τ a1 a4 n a2 a3 a5 := by
  intro n
  induction n with
  | zero => intro a2 a3 a5; rfl
  | succ n ih =>
    intro a2 a3 a5
    rw [lp_X4_fresh_46, lp_X4_fresh_46, fc_56 h1 h2]
    generalize lp_X4_fresh_56 τ a1 a4 a5 200 a2 a3 0 = z
    cases z
    dsimp only
    rw [ih]
theorem fc_33 {σ τ : St} (h1 : σ 0 1 = τ 0 1) (h2 : σ 2 = τ 2) {a1 : Int32} : ∀ (n : Nat) (a2 a3 a4 : Int32), lp_X4_fresh_33 σ a1 n a2 a3 a4 = lp_X4_fresh_33 τ a1 n a2 a3 a4 := by
  intro n
  induction n with
  | zero => intro a2 a3 a4; rfl
  | succ n ih =>
    intro a2 a3 a4
    rw [lp_X4_fresh_33, lp_X4_fresh_33, fc_46 h1 h2]
    generalize lp_X4_fresh_46 τ a1 a4 200 a2 a3 (a4 + 1) = z
    cases z
    dsimp only
    rw [ih]
theorem fresh_congr {σ τ : St} (h1 : σ 0 1 = τ 0 1) (h2 : σ 2 = τ 2) {k : Int32} : f_X4_fresh σ k = f_X4_fresh τ k := by
  unfold f_X4_fresh
  rw [fc_33 h1 h2, h1]
/-! the changes -/
theorem R_mk {σ' τ' : St} {j' : Nat} (h : R j σ τ) (hC : OkC σ') (hM : OkM τ') (sc : σ' 0 4 = τ' 0 1 ∧ σ' 0 5 = τ' 0 11 ∧ σ' 0 6 = τ' 0 2 ∧ σ' 0 7 = τ' 0 3 ∧ σ' 0 8 = τ' 0 24 ∧ σ' 0 9 = τ' 0 0) (n1 : τ' 0 1 = τ 0 1) (hb : 0 ≤ (τ' 0 3).toInt ∧ (τ' 0 3).toInt ≤ 999) (g : ∀ x, x < 8 → σ' (17 + x) = σ (17 + x) ∧ σ' (25 + x) = σ (25 + x)) (t1 : τ' 1 = τ 1) (t2 : τ' 2 = τ 2) (g8 : σ' 8 = σ 8) (hh : ∀ m, m < 9 → (τ 0 1).toInt ≠ 0 → σ' 4 m = τ' 3 m) (pp : ∀ p : Nat, (p : Int) < (τ' 0 11).toInt → Rpap j' σ' τ' p) (ss : ∀ k, k < 4 → Rsh σ' τ' k) : R j' σ' τ' := by
  obtain ⟨_, hM0, _, a4, _, a6, _, _, _, a10⟩ := h
  refine ⟨hC, hM, sc, by rw [n1]; exact a4, hb, fun x hx => ?_, by rw [n1]; exact hh, pp, ss, fun hn => ?_⟩
  · rw [n1] at hx
    have hx8 : x < 8 := by have := hM0.1; omega
    have := a6 x hx
    unfold Rsign at this ⊢
    rw [(g x hx8).1, (g x hx8).2, t1, t2]
    exact this
  · rw [n1] at hn
    rw [g8]
    rcases a10 hn with q | q
    · exact Or.inl q
    · exact Or.inr fun k k0 k1 => by rw [fresh_congr n1 t2]; exact q k k0 k1
theorem Rpap_up {j' : Nat} {p : Nat} (hj : j ≤ j') (h : Rpap j σ τ p) : Rpap j' σ τ p := by
  obtain ⟨p1, p2, p3, p4, p5, p6, p7⟩ := h
  exact ⟨p1, p2, p3, p4, p5, p6, p7.1, by omega⟩
theorem Rpap_congr {σ' τ' : St} {p : Nat} (h : Rpap j σ τ p) (e : σ' (33 + p) = σ (33 + p)) (n1 : τ' 0 1 = τ 0 1) (n2 : τ' 0 2 = τ 0 2) (t : τ' 6 p = τ 6 p ∧ τ' 7 p = τ 7 p ∧ τ' 8 p = τ 8 p ∧ τ' 9 p = τ 9 p ∧ τ' 10 p = τ 10 p ∧ τ' 11 p = τ 11 p) : Rpap j σ' τ' p := by
  unfold Rpap at h ⊢
  rw [e, n1, n2, t.1, t.2.1, t.2.2.1, t.2.2.2.1, t.2.2.2.2.1, t.2.2.2.2.2]
  exact h
theorem Rsh_congr {σ' τ' : St} {k : Nat} (h : Rsh σ τ k) (e9 : σ' (9 + k) = σ (9 + k)) (e13 : σ' (13 + k) = σ (13 + k)) (t14 : τ' 14 k = τ 14 k) (t15 : τ' 15 k = τ 15 k) (t16 : ∀ i : Nat, (i : Int) < (τ 14 k).toInt → τ' 16 (90 * k + i) = τ 16 (90 * k + i)) : Rsh σ' τ' k := by
  unfold Rsh at h ⊢
  rw [e9, e13, t14, t15]
  rcases h with q | ⟨q1, q2, q3, q4, q5, q6⟩
  · exact Or.inl q
  · exact Or.inr ⟨q1, q2, q3, q4, q5, fun i hi => by rw [q6 i hi, t16 i hi]⟩
/-- changes of scratch rows, and of the latest FAULT, the same on both sides -/
theorem R_fs {σ' τ' : St} (h : R j σ τ) (hσ0 : ∀ k, k ≠ 9 → σ' 0 k = σ 0 k) (hτ0 : ∀ k, k ≠ 0 → k ≠ 7 → k ≠ 8 → τ' 0 k = τ 0 k) (hf : σ' 0 9 = τ' 0 0) (hσ : ∀ c, c ≠ 0 → c ≠ 5 → c ≠ 6 → c ≠ 7 → σ' c = σ c) (hτ : ∀ c, c ≠ 0 → c ≠ 4 → c ≠ 5 → c ≠ 12 → c ≠ 13 → c ≠ 17 → τ' c = τ c) : R j σ' τ' := by
  have h' := h
  obtain ⟨a1, a2, a3, a4, a5, a6, a7, a8, a9, a10⟩ := h'
  refine R_mk h ?_ ?_ ?_ (hτ0 1 (by omega) (by omega) (by omega)) ?_ (fun x hx => ⟨hσ _ (by omega) (by omega) (by omega) (by omega), hσ _ (by omega) (by omega) (by omega) (by omega)⟩) (hτ 1 (by omega) (by omega) (by omega) (by omega) (by omega) (by omega)) (hτ 2 (by omega) (by omega) (by omega) (by omega) (by omega) (by omega)) (hσ 8 (by omega) (by omega) (by omega) (by omega)) (fun m hm hn => ?_) (fun p hp => ?_) (fun k hk => ?_)
  · exact okC_cell a1 ⟨hσ0 4 (by omega), hσ0 5 (by omega), hσ0 6 (by omega)⟩ (hσ 4 (by omega) (by omega) (by omega) (by omega)) (fun q hq => by rw [hσ _ (by omega) (by omega) (by omega) (by omega)]) (fun p hp => by rw [hσ _ (by omega) (by omega) (by omega) (by omega)]; exact ⟨rfl, rfl⟩)
  · exact okM_cell a2 ⟨hτ0 1 (by omega) (by omega) (by omega), hτ0 11 (by omega) (by omega) (by omega), hτ0 2 (by omega) (by omega) (by omega)⟩ (hτ 3 (by omega) (by omega) (by omega) (by omega) (by omega) (by omega)) (hτ 14 (by omega) (by omega) (by omega) (by omega) (by omega) (by omega)) (hτ 6 (by omega) (by omega) (by omega) (by omega) (by omega) (by omega)) (hτ 7 (by omega) (by omega) (by omega) (by omega) (by omega) (by omega)) (hτ 8 (by omega) (by omega) (by omega) (by omega) (by omega) (by omega))
  · rw [hσ0 4 (by omega), hσ0 5 (by omega), hσ0 6 (by omega), hσ0 7 (by omega), hσ0 8 (by omega), hτ0 1 (by omega) (by omega) (by omega), hτ0 11 (by omega) (by omega) (by omega), hτ0 2 (by omega) (by omega) (by omega), hτ0 3 (by omega) (by omega) (by omega), hτ0 24 (by omega) (by omega) (by omega)]
    exact ⟨a3.1, a3.2.1, a3.2.2.1, a3.2.2.2.1, a3.2.2.2.2.1, hf⟩
  · rw [hτ0 3 (by omega) (by omega) (by omega)]; exact a5
  · rw [hσ 4 (by omega) (by omega) (by omega) (by omega), hτ 3 (by omega) (by omega) (by omega) (by omega) (by omega) (by omega)]
    exact a7 m hm hn
  · rw [hτ0 11 (by omega) (by omega) (by omega)] at hp
    refine Rpap_congr (a8 p hp) (hσ _ (by omega) (by omega) (by omega) (by omega)) (hτ0 1 (by omega) (by omega) (by omega)) (hτ0 2 (by omega) (by omega) (by omega)) ?_
    rw [hτ 6 (by omega) (by omega) (by omega) (by omega) (by omega) (by omega), hτ 7 (by omega) (by omega) (by omega) (by omega) (by omega) (by omega), hτ 8 (by omega) (by omega) (by omega) (by omega) (by omega) (by omega), hτ 9 (by omega) (by omega) (by omega) (by omega) (by omega) (by omega), hτ 10 (by omega) (by omega) (by omega) (by omega) (by omega) (by omega), hτ 11 (by omega) (by omega) (by omega) (by omega) (by omega) (by omega)]
    exact ⟨rfl, rfl, rfl, rfl, rfl, rfl⟩
  · refine Rsh_congr (a9 k hk) (hσ _ (by omega) (by omega) (by omega) (by omega)) (hσ _ (by omega) (by omega) (by omega) (by omega)) ?_ ?_ (fun i _ => ?_)
    · rw [hτ 14 (by omega) (by omega) (by omega) (by omega) (by omega) (by omega)]
    · rw [hτ 15 (by omega) (by omega) (by omega) (by omega) (by omega) (by omega)]
    · rw [hτ 16 (by omega) (by omega) (by omega) (by omega) (by omega) (by omega)]
theorem R_fault (h : R j σ τ) (v : Int32) : R j (u2 σ 0 9 v) (u2 τ 0 0 v) :=
  R_fs h (fun k hk => u2_nk hk) (fun k hk _ _ => u2_nk hk) (by rw [u2_self, u2_self]) (fun c h0 _ _ _ => u2_nc h0) (fun c h0 _ _ _ _ _ => u2_nc h0)
/-- changes of the class's scratch rows alone -/
theorem R_sc {σ' : St} (h : R j σ τ) (hσ : ∀ c, c ≠ 5 → c ≠ 6 → c ≠ 7 → σ' c = σ c) : R j σ' τ :=
  R_fs h (fun k _ => by rw [hσ 0 (by omega) (by omega) (by omega)]) (fun k _ _ _ => rfl) (by rw [hσ 0 (by omega) (by omega) (by omega)]; exact h.2.2.1.2.2.2.2.2) (fun c _ h5 h6 h7 => hσ c h5 h6 h7) (fun c _ _ _ _ _ _ => rfl)
/-- the same change of the trace -/
theorem R_trace (h : R j σ τ) (v : Int32) : R j (u2 σ 0 8 v) (u2 τ 0 24 v) := by
  have h' := h
  obtain ⟨a1, a2, a3, a4, a5, a6, a7, a8, a9, a10⟩ := h'
  refine R_mk h (okC_obj (by omega) a1) (okM_obj (by omega) a2) ?_ (u2_nk (by omega)) (by rw [u2_nk (by omega)]; exact a5) (fun x hx => ⟨u2_nc (by omega), u2_nc (by omega)⟩) (u2_nc (by omega)) (u2_nc (by omega)) (u2_nc (by omega)) (fun m hm hn => ?_) (fun p hp => ?_) (fun k hk => ?_)
  · rw [u2_self, u2_self, u2_nk (by omega), u2_nk (by omega), u2_nk (by omega), u2_nk (by omega), u2_nk (by omega), u2_nk (by omega), u2_nk (by omega), u2_nk (by omega), u2_nk (by omega), u2_nk (by omega)]
    exact ⟨a3.1, a3.2.1, a3.2.2.1, a3.2.2.2.1, rfl, a3.2.2.2.2.2⟩
  · rw [u2_nc (by omega), u2_nc (by omega)]; exact a7 m hm hn
  · rw [u2_nk (by omega)] at hp
    exact Rpap_congr (a8 p hp) (u2_nc (by omega)) (u2_nk (by omega)) (u2_nk (by omega)) ⟨by rw [u2_nc (by omega)], by rw [u2_nc (by omega)], by rw [u2_nc (by omega)], by rw [u2_nc (by omega)], by rw [u2_nc (by omega)], by rw [u2_nc (by omega)]⟩
  · exact Rsh_congr (a9 k hk) (u2_nc (by omega)) (u2_nc (by omega)) (by rw [u2_nc (by omega)]) (by rw [u2_nc (by omega)]) (fun i _ => by rw [u2_nc (by omega)])
theorem R_half (h : R j σ τ) {k : Nat} {v : Int32} (hv : 1 ≤ v.toInt ∧ v.toInt ≤ 9) : R j (u2 σ 4 k v) (u2 τ 3 k v) := by
  have h' := h
  obtain ⟨a1, a2, a3, a4, a5, a6, a7, a8, a9, a10⟩ := h'
  refine R_mk h ?_ ?_ ?_ (u2_o (by omega) _) (by rw [u2_o (by omega)]; exact a5) (fun x hx => ⟨u2_nc (by omega), u2_nc (by omega)⟩) (u2_nc (by omega)) (u2_nc (by omega)) (u2_nc (by omega)) (fun m hm hn => ?_) (fun p hp => ?_) (fun k hk => ?_)
  · obtain ⟨b1, b2, b3, b4, b5, b6⟩ := a1
    refine ⟨by rw [u2_o (by omega)]; exact b1, by rw [u2_o (by omega)]; exact b2, fun m hm hn => ?_, fun q hq => by rw [u2_nc (by omega)]; exact b4 q hq, fun p hp => by rw [u2_nc (by omega)]; exact b5 p hp, by rw [u2_o (by omega)]; exact b6⟩
    by_cases e : m = k
    · rw [e, u2_self]; exact hv
    · rw [u2_o (by omega)] at hn; rw [u2_nk e]; exact b3 m hm hn
  · obtain ⟨b1, b2, b3, b4, b5, b6, b7, b8⟩ := a2
    refine ⟨by rw [u2_o (by omega)]; exact b1, by rw [u2_o (by omega)]; exact b2, fun m hm hn => ?_, by rw [u2_nc (by omega)]; exact b4, by rw [u2_nc (by omega), u2_nc (by omega)]; exact b5, by rw [u2_o (by omega)]; exact b6, by rw [u2_nc (by omega)]; exact b7, by rw [u2_o (by omega), u2_o (by omega)]; exact b8⟩
    by_cases e : m = k
    · rw [e, u2_self]; exact hv
    · rw [u2_o (by omega)] at hn; rw [u2_nk e]; exact b3 m hm hn
  · rw [u2_o (by omega), u2_o (by omega), u2_o (by omega), u2_o (by omega), u2_o (by omega), u2_o (by omega), u2_o (by omega), u2_o (by omega), u2_o (by omega), u2_o (by omega), u2_o (by omega), u2_o (by omega)]
    exact a3
  · by_cases e : m = k
    · rw [e, u2_self, u2_self]
    · rw [u2_nk e, u2_nk e]; exact a7 m hm hn
  · rw [u2_o (by omega)] at hp
    exact Rpap_congr (a8 p hp) (u2_nc (by omega)) (u2_o (by omega) _) (u2_o (by omega) _) ⟨by rw [u2_nc (by omega)], by rw [u2_nc (by omega)], by rw [u2_nc (by omega)], by rw [u2_nc (by omega)], by rw [u2_nc (by omega)], by rw [u2_nc (by omega)]⟩
  · exact Rsh_congr (a9 k hk) (u2_nc (by omega)) (u2_nc (by omega)) (by rw [u2_nc (by omega)]) (by rw [u2_nc (by omega)]) (fun i _ => by rw [u2_nc (by omega)])
theorem R_bound (h : R j σ τ) {v : Int32} (hv : 0 ≤ v.toInt ∧ v.toInt ≤ 999) : R j (u2 σ 0 7 v) (u2 τ 0 3 v) := by
  have h' := h
  obtain ⟨a1, a2, a3, a4, a5, a6, a7, a8, a9, a10⟩ := h'
  refine R_mk h (okC_obj (by omega) a1) (okM_obj (by omega) a2) ?_ (u2_nk (by omega)) (by rw [u2_self]; exact hv) (fun x hx => ⟨u2_nc (by omega), u2_nc (by omega)⟩) (u2_nc (by omega)) (u2_nc (by omega)) (u2_nc (by omega)) (fun m hm hn => ?_) (fun p hp => ?_) (fun k hk => ?_)
  · rw [u2_self, u2_self, u2_nk (by omega), u2_nk (by omega), u2_nk (by omega), u2_nk (by omega), u2_nk (by omega), u2_nk (by omega), u2_nk (by omega), u2_nk (by omega), u2_nk (by omega), u2_nk (by omega)]
    exact ⟨a3.1, a3.2.1, a3.2.2.1, rfl, a3.2.2.2.2.1, a3.2.2.2.2.2⟩
  · rw [u2_nc (by omega), u2_nc (by omega)]; exact a7 m hm hn
  · rw [u2_nk (by omega)] at hp
    exact Rpap_congr (a8 p hp) (u2_nc (by omega)) (u2_nk (by omega)) (u2_nk (by omega)) ⟨by rw [u2_nc (by omega)], by rw [u2_nc (by omega)], by rw [u2_nc (by omega)], by rw [u2_nc (by omega)], by rw [u2_nc (by omega)], by rw [u2_nc (by omega)]⟩
  · exact Rsh_congr (a9 k hk) (u2_nc (by omega)) (u2_nc (by omega)) (by rw [u2_nc (by omega)]) (by rw [u2_nc (by omega)]) (fun i _ => by rw [u2_nc (by omega)])
theorem R_year (h : R j σ τ) {v : Int32} (hv : (τ 0 2).toInt ≤ v.toInt ∧ v.toInt ≤ 99) : R j (u2 σ 0 6 v) (u2 τ 0 2 v) := by
  have h' := h
  obtain ⟨a1, a2, a3, a4, a5, a6, a7, a8, a9, a10⟩ := h'
  refine R_mk h ?_ ?_ ?_ (u2_nk (by omega)) (by rw [u2_nk (by omega)]; exact a5) (fun x hx => ⟨u2_nc (by omega), u2_nc (by omega)⟩) (u2_nc (by omega)) (u2_nc (by omega)) (u2_nc (by omega)) (fun m hm hn => ?_) (fun p hp => ?_) (fun k hk => ?_)
  · obtain ⟨b1, b2, b3, b4, b5, b6⟩ := a1
    refine ⟨by rw [u2_nk (by omega)]; exact b1, by rw [u2_nk (by omega)]; exact b2, fun m hm hn => by rw [u2_nk (by omega)] at hn; rw [u2_nc (by omega)]; exact b3 m hm hn, fun q hq => by rw [u2_nc (by omega)]; exact b4 q hq, fun p hp => by rw [u2_nc (by omega)]; exact b5 p hp, ?_⟩
    rw [u2_self]
    rw [a3.2.2.1] at b6
    omega
  · obtain ⟨b1, b2, b3, b4, b5, b6, b7, b8⟩ := a2
    refine ⟨by rw [u2_nk (by omega)]; exact b1, by rw [u2_nk (by omega)]; exact b2, fun m hm hn => by rw [u2_nk (by omega)] at hn; rw [u2_nc (by omega)]; exact b3 m hm hn, by rw [u2_nc (by omega)]; exact b4, by rw [u2_nc (by omega), u2_nc (by omega)]; exact b5, ?_, by rw [u2_nc (by omega)]; exact b7, by rw [u2_nk (by omega), u2_nk (by omega)]; exact b8⟩
    rw [u2_self]
    omega
  · rw [u2_self, u2_self, u2_nk (by omega), u2_nk (by omega), u2_nk (by omega), u2_nk (by omega), u2_nk (by omega), u2_nk (by omega), u2_nk (by omega), u2_nk (by omega), u2_nk (by omega), u2_nk (by omega)]
    exact ⟨a3.1, a3.2.1, rfl, a3.2.2.2.1, a3.2.2.2.2.1, a3.2.2.2.2.2⟩
  · rw [u2_nc (by omega), u2_nc (by omega)]; exact a7 m hm hn
  · rw [u2_nk (by omega)] at hp
    obtain ⟨p1, p2, p3, p4, p5, p6⟩ := a8 p hp
    unfold Rpap
    rw [u2_nk (show (1 : Nat) ≠ 2 by omega), u2_self, u2_nc (show 33 + p ≠ 0 by omega), u2_nc (show (6 : Nat) ≠ 0 by omega), u2_nc (show (7 : Nat) ≠ 0 by omega), u2_nc (show (8 : Nat) ≠ 0 by omega), u2_nc (show (9 : Nat) ≠ 0 by omega), u2_nc (show (10 : Nat) ≠ 0 by omega), u2_nc (show (11 : Nat) ≠ 0 by omega)]
    exact ⟨p1, p2, p3, p4, ⟨p5.1, by omega⟩, p6⟩
  · exact Rsh_congr (a9 k hk) (u2_nc (by omega)) (u2_nc (by omega)) (by rw [u2_nc (by omega)]) (by rw [u2_nc (by omega)]) (fun i _ => by rw [u2_nc (by omega)])
theorem q_trace (h : R j σ τ) (hj : j < 512) : (f_X3_trace σ) = (f_X4_trace τ) ∧ R (j + 1) σ τ := ⟨h.2.2.1.2.2.2.2.1, R_up h⟩
theorem q_fault (h : R j σ τ) (hj : j < 512) : (f_X3_fault σ) = (f_X4_fault τ) ∧ R (j + 1) σ τ := ⟨h.2.2.1.2.2.2.2.2, R_up h⟩
theorem q_half (h : R j σ τ) (hj : j < 512) (a0 a1 : Int32) : (f_X3_half σ a0 a1).1 = (f_X4_half τ a0 a1).1 ∧ R (j + 1) (f_X3_half σ a0 a1).2 (f_X4_half τ a0 a1).2 := by
  unfold f_X3_half f_X4_half
  by_cases g : f_X4_noSmell a0 = 0
  case neg => rw [if_pos (s_smell.mpr g), if_neg g]; exact ⟨rfl, R_up h⟩
  rw [if_neg (fun q => s_smell.mp q g), if_pos g]
  by_cases w : 1 ≤ a1.toInt ∧ a1.toInt ≤ 9
  case neg => rw [rng_n w (by decide) (by decide), if_pos (in_n w (by decide) (by decide))]; exact ⟨rfl, R_up h⟩
  rw [rng_p w (by decide) (by decide), if_neg (in_p w (by decide) (by decide)), h.2.2.1.1]
  by_cases n : τ 0 1 = 0
  · rw [if_pos n, if_pos n]; exact ⟨rfl, R_up h⟩
  · rw [if_neg n, if_neg n]
    refine ⟨?_, R_up (R_half h w)⟩
    have v := noSmell_z.mp g
    have e := ix_toInt v.1
    exact h.2.2.2.2.2.2.1 (ix a0) (by omega) (qt_ne n)
theorem q_bound (h : R j σ τ) (hj : j < 512) (a0 : Int32) : (f_X3_bound σ a0).1 = (f_X4_bound τ a0).1 ∧ R (j + 1) (f_X3_bound σ a0).2 (f_X4_bound τ a0).2 := by
  unfold f_X3_bound f_X4_bound
  by_cases w : 0 ≤ a0.toInt ∧ a0.toInt ≤ 999
  case neg => rw [rng_n w (by decide) (by decide), if_pos (in_n w (by decide) (by decide))]; exact ⟨rfl, R_up h⟩
  rw [rng_p w (by decide) (by decide), if_neg (in_p w (by decide) (by decide)), h.2.2.1.1]
  by_cases n : τ 0 1 = 0
  · rw [if_pos n, if_pos n]; exact ⟨rfl, R_up h⟩
  · rw [if_neg n, if_neg n]
    exact ⟨h.2.2.1.2.2.2.1, R_up (R_bound h w)⟩
theorem q_year (h : R j σ τ) (hj : j < 512) (a0 : Int32) : (f_X3_year σ a0).1 = (f_X4_year τ a0).1 ∧ R (j + 1) (f_X3_year σ a0).2 (f_X4_year τ a0).2 := by
  unfold f_X3_year f_X4_year
  rw [h.2.2.1.2.2.1]
  by_cases w : (τ 0 2).toInt ≤ a0.toInt ∧ a0.toInt ≤ 99
  case neg => rw [rng_n w rfl (by decide), if_pos (in_n w (Int32.toInt_toInt64 _) (by decide))]; exact ⟨rfl, R_up h⟩
  rw [rng_p w rfl (by decide), if_neg (in_p w (Int32.toInt_toInt64 _) (by decide)), h.2.2.1.1]
  by_cases n : τ 0 1 = 0
  · rw [if_pos n, if_pos n]; exact ⟨rfl, R_up h⟩
  · rw [if_neg n, if_neg n]
    exact ⟨rfl, R_up (R_year h w)⟩
theorem q_many (h : R j σ τ) (hj : j < 512) (a0 : Int32) : (f_X3_many σ a0) = (f_X4_many τ a0) ∧ R (j + 1) σ τ := by
  refine ⟨?_, R_up h⟩
  unfold f_X3_many f_X4_many
  rw [h.2.2.1.1, h.2.2.1.2.1, h.2.2.1.2.2.1, h.2.2.1.2.2.2.1]
end REL
