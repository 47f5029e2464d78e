/-! what the answers of the class's own questions say; that the numbers stay in their rows -/
theorem bf_isSign_n {σ : St} {x : Int32} (h : ¬ f_X3_isSign σ x = 0) : 0 ≤ x.toInt ∧ x.toInt < (σ 0 4).toInt := by
  unfold f_X3_isSign at h
  by_cases h1 : x < 0
  · rw [if_pos h1] at h; exact absurd rfl h
  · rw [if_neg h1] at h
    by_cases h2 : σ 0 4 ≤ x
    · rw [if_pos h2] at h; exact absurd rfl h
    · exact ⟨qt_nlt h1, qt_nle h2⟩
theorem bf_isSmell_n {x : Int32} (h : ¬ f_X3_isSmell x = 0) : 0 ≤ x.toInt ∧ x.toInt < 9 := by
  unfold f_X3_isSmell at h
  by_cases h1 : x < 0
  · rw [if_pos h1] at h; exact absurd rfl h
  · rw [if_neg h1] at h
    by_cases h2 : 9 ≤ x
    · rw [if_pos h2] at h; exact absurd rfl h
    · exact ⟨qt_nlt h1, qt_nle h2⟩
theorem bf_isSheet_n {x : Int32} (h : ¬ f_X3_isSheet x = 0) : 0 ≤ x.toInt ∧ x.toInt < 4 := by
  unfold f_X3_isSheet at h
  by_cases h1 : x < 0
  · rw [if_pos h1] at h; exact absurd rfl h
  · rw [if_neg h1] at h
    by_cases h2 : 4 ≤ x
    · rw [if_pos h2] at h; exact absurd rfl h
    · exact ⟨qt_nlt h1, qt_nle h2⟩
theorem bf_areTwoSigns_n {σ : St} {x y : Int32} (h : ¬ f_X3_areTwoSigns σ x y = 0) : (0 ≤ x.toInt ∧ x.toInt < (σ 0 4).toInt) ∧ (0 ≤ y.toInt ∧ y.toInt < (σ 0 4).toInt) ∧ x ≠ y := by
  unfold f_X3_areTwoSigns at h
  by_cases h1 : f_X3_isSign σ x = 0
  · rw [if_pos h1] at h; exact absurd rfl h
  · rw [if_neg h1] at h
    by_cases h2 : f_X3_isSign σ y = 0
    · rw [if_pos h2] at h; exact absurd rfl h
    · rw [if_neg h2] at h
      by_cases h3 : x = y
      · rw [if_pos h3] at h; exact absurd rfl h
      · exact ⟨bf_isSign_n h1, bf_isSign_n h2, h3⟩
/-- the stoppers of a set lie in their sheet -/
def HST (σ : St) (q : Nat) (a s : Int32) : Prop := ∀ k : Int32, 0 ≤ k.toInt → k.toInt < 10 → ¬ ((s >>> (k &&& 31)) &&& 1) = 0 → vp_in (a + 2 * k) 90 ∧ vp_in (a + 2 * k + 1) 90 ∧ vp_in (σ (13 + q) (ix (a + 2 * k))) 9
theorem hst_congr {σ τ : St} {q : Nat} {a s : Int32} (e : τ (13 + q) = σ (13 + q)) (h : HST σ q a s) : HST τ q a s := fun k h0 h1 h2 => by
  rw [e]
  exact h k h0 h1 h2
theorem bo_X3_areAlike {σ : St} {a b : Nat} : f_X3_areAlike σ a b = 0 ∨ f_X3_areAlike σ a b = 1 := by
  unfold f_X3_areAlike
  split
  · exact Or.inl rfl
  · exact Or.inr rfl
/-! the promises about the answers, proved -/
theorem ite_ind {α : Sort _} {c : Prop} [Decidable c] {a b : α} {P : α → Prop} (ha : c → P a) (hb : ¬ c → P b) : P (if c then a else b) := by
  by_cases h : c
  · rw [if_pos h]; exact ha h
  · rw [if_neg h]; exact hb h
theorem lb (x : Int32) : -2147483648 ≤ x.toInt ∧ x.toInt < 2147483648 := ⟨Int32.le_toInt x, Int32.toInt_lt x⟩
theorem la_toInt {a b : Int64} (h1 : -9223372036854775808 ≤ a.toInt + b.toInt) (h2 : a.toInt + b.toInt < 9223372036854775808) : (a + b).toInt = a.toInt + b.toInt := by
  rw [Int64.toInt_add]
  exact Int.bmod_eq_of_le (by omega) (by omega)
theorem ls_toInt {a b : Int64} (h1 : -9223372036854775808 ≤ a.toInt - b.toInt) (h2 : a.toInt - b.toInt < 9223372036854775808) : (a - b).toInt = a.toInt - b.toInt := by
  rw [Int64.toInt_sub]
  exact Int.bmod_eq_of_le (by omega) (by omega)
theorem lx_toInt {a b : Int64} (h1 : -9223372036854775808 ≤ a.toInt * b.toInt) (h2 : a.toInt * b.toInt < 9223372036854775808) : (a * b).toInt = a.toInt * b.toInt := by
  rw [Int64.toInt_mul]
  exact Int.bmod_eq_of_le (by omega) (by omega)
theorem lg_lt {x y : Int64} (h : lg_cmp x y < 0) : x.toInt < y.toInt := Int64.lt_iff_toInt_lt.mp ((lg_cmp_lt x y).mp h)
theorem lg_nlt {x y : Int64} (h : ¬ lg_cmp x y < 0) : y.toInt ≤ x.toInt := Int.not_lt.mp (fun q => h ((lg_cmp_lt x y).mpr (Int64.lt_iff_toInt_lt.mpr q)))
theorem bf_lacks_z {σ : St} {r : Nat} {i : Int32} {n : Int64} (h : f_X1_lacks σ r i n = 0) : 0 ≤ i.toInt ∧ (n.toInt < 4294967296 → -4294967296 ≤ n.toInt → i.toInt + n.toInt ≤ (σ (9 + r) 2).toInt) := by
  unfold f_X1_lacks at h
  by_cases h1 : i < 0
  · rw [if_pos h1] at h; exact absurd h (by decide)
  · rw [if_neg h1] at h
    by_cases h2 : lg_cmp (i.toInt64 + n) (σ (9 + r) 2).toInt64 ≤ 0
    · refine ⟨qt_nlt h1, fun h3 h4 => ?_⟩
      have h5 := Int64.le_iff_toInt_le.mp ((lg_cmp_le _ _).mp h2)
      have h6 := lb i
      rw [la_toInt (by rw [Int32.toInt_toInt64]; omega) (by rw [Int32.toInt_toInt64]; omega), Int32.toInt_toInt64, Int32.toInt_toInt64] at h5
      exact h5
    · rw [if_neg h2] at h; exact absurd h (by decide)
theorem sp_z {σ : St} {k lane i : Int32} {n : Int64} (h : (f_X3_spanRefusal σ k lane i n).1 = 0) : (0 ≤ k.toInt ∧ k.toInt < 4) ∧ (0 ≤ i.toInt ∧ 0 ≤ n.toInt ∧ (n.toInt < 4294967296 → i.toInt + n.toInt ≤ (σ (9 + ix k) 2).toInt)) := by
  unfold f_X3_spanRefusal at h
  by_cases h1 : f_X3_isSheet k = 0
  · rw [if_pos h1] at h; exact absurd h (by show ¬ (-1 : Int32) = 0; decide)
  rw [if_neg h1] at h
  by_cases h2 : f_X3_isLane lane = 0
  · rw [if_pos h2] at h; exact absurd h (by show ¬ (-2 : Int32) = 0; decide)
  rw [if_neg h2] at h
  have key : (if σ (9 + ix k) 0 = 0 then ((f_X3_faulted σ 1).1, (f_X3_faulted σ 1).2) else if 0 ≤ lg_cmp n 0 then (if f_X1_lacks σ (ix k) i n = 0 then ((0 : Int32), u2 σ 0 9 0) else ((f_X3_faulted σ 3).1, (f_X3_faulted σ 3).2)) else ((f_X3_faulted σ 4).1, (f_X3_faulted σ 4).2)).1 = 0 → 0 ≤ i.toInt ∧ 0 ≤ n.toInt ∧ (n.toInt < 4294967296 → i.toInt + n.toInt ≤ (σ (9 + ix k) 2).toInt) := by
    intro h
    by_cases h3 : σ (9 + ix k) 0 = 0
    · rw [if_pos h3] at h; exact absurd h (by show ¬ (-10 - 1 : Int32) = 0; decide)
    rw [if_neg h3] at h
    by_cases h4 : 0 ≤ lg_cmp n 0
    · rw [if_pos h4] at h
      by_cases h5 : f_X1_lacks σ (ix k) i n = 0
      · have h6 : (0 : Int64).toInt ≤ n.toInt := Int64.le_iff_toInt_le.mp ((lg_cmp_ge n 0).mp h4)
        have h7 : (0 : Int64).toInt = 0 := by decide
        have h8 := bf_lacks_z h5
        exact ⟨h8.1, by omega, fun q => h8.2 q (by omega)⟩
      · rw [if_neg h5] at h; exact absurd h (by show ¬ (-10 - 3 : Int32) = 0; decide)
    · rw [if_neg h4] at h; exact absurd h (by show ¬ (-10 - 4 : Int32) = 0; decide)
  refine ⟨bf_isSheet_n h1, ?_⟩
  by_cases h3 : σ (9 + ix k) 0 = 0
  · rw [if_pos h3] at h; exact key h
  rw [if_neg h3] at h
  by_cases h4 : σ (9 + ix k) 1 = lane
  · rw [if_pos h4] at h; exact key h
  · rw [if_neg h4] at h; exact absurd h (by show ¬ (-10 - 2 : Int32) = 0; decide)
theorem fr_X3_spanRefusal {σ : St} {k lane i : Int32} {n : Int64} : ∃ v, (f_X3_spanRefusal σ k lane i n).2 = u2 σ 0 9 v := by
  unfold f_X3_spanRefusal
  repeat' split
  all_goals exact ⟨_, rfl⟩
theorem ok_tryStrengths_11 {a b d : Int32} : ∀ (n : Nat) (x : Int32) (σ : St), OkC σ → OkC (lp_X3_tryStrengths_11 a b d n x σ) := by
  intro n
  induction n with
  | zero => intro x σ h; exact h
  | succ n ih =>
    intro x σ h
    rw [lp_X3_tryStrengths_11]
    refine ite_ind (fun _ => h) (fun _ => ite_ind (fun _ => ih _ _ h) (fun _ => ih _ _ ?_))
    have s8 : scrC 8 := by unfold scrC; omega
    exact okC_scr s8 (okC_scr s8 (okC_scr s8 (okC_scr s8 (okC_scr s8 h))))
theorem ok_tryStrengths_2 {a b : Int32} : ∀ (n : Nat) (x : Int32) (σ : St), OkC σ → OkC (lp_X3_tryStrengths_2 a b n x σ) := by
  intro n
  induction n with
  | zero => intro x σ h; exact h
  | succ n ih =>
    intro x σ h
    rw [lp_X3_tryStrengths_2]
    exact ite_ind (fun _ => h) (fun _ => ih _ _ (ok_tryStrengths_11 _ _ _ h))
theorem ok_X3_tryStrengths {σ : St} {a b : Int32} (h : OkC σ) : OkC (f_X3_tryStrengths σ a b) := ok_tryStrengths_2 _ _ _ h
theorem fr_countHours_26 {a1 a3 a4 a5 : Int32} {q c : Nat} (hc : c ≠ 7) : ∀ (n : Nat) (x : Int32) (σ : St), lp_X3_countHours_26 a1 q a3 a4 a5 n x σ c = σ c := by
  intro n
  induction n with
  | zero => intro x σ; rfl
  | succ n ih =>
    intro x σ
    rw [lp_X3_countHours_26]
    by_cases h : 10 ≤ x
    · rw [if_pos h]
    · rw [if_neg h]
      refine ite_ind (P := fun z : St => z c = σ c) (fun _ => ih _ _) (fun _ => ?_)
      rw [ih, u2_nc hc]
theorem fr_countHours_6 {a1 a3 : Int32} {q c : Nat} (hc : c ≠ 7) : ∀ (n : Nat) (t x : Int32) (σ : St), (lp_X3_countHours_6 a1 q a3 n t x σ).2 c = σ c := by
  intro n
  induction n with
  | zero => intro t x σ; rfl
  | succ n ih =>
    intro t x σ
    rw [lp_X3_countHours_6]
    by_cases h : σ 0 4 ≤ x
    · rw [if_pos h]
    · rw [if_neg h, ih, fr_countHours_26 hc, u2_nc hc]
theorem countHours_eq {σ : St} {a : Int32} {q : Nat} {b : Int32} : f_X3_countHours σ a q b = lp_X3_countHours_6 a q b 200 0 0 σ := by
  unfold f_X3_countHours
  generalize lp_X3_countHours_6 a q b 200 0 0 σ = z
  cases z
  rfl
theorem fr_X3_countHours {σ : St} {a : Int32} {q c : Nat} {b : Int32} (hc : c ≠ 7) : (f_X3_countHours σ a q b).2 c = σ c := by
  rw [countHours_eq]
  exact fr_countHours_6 hc _ _ _ _
theorem ok_X3_countHours {σ : St} {a : Int32} {q : Nat} {b : Int32} (h : OkC σ) : OkC (f_X3_countHours σ a q b).2 := by
  refine okC_cell h ⟨?_, ?_, ?_⟩ ?_ (fun k hk => ?_) (fun k hk => ⟨?_, ?_⟩)
  all_goals rw [fr_X3_countHours (by omega)]
theorem le_countHours_26 {a1 a3 a4 a5 : Int32} {q : Nat} : ∀ (n : Nat) (x : Int32) (σ : St), 0 ≤ x.toInt → x.toInt ≤ 10 → 0 ≤ (σ 7 (ix a5)).toInt → (σ 7 (ix a5)).toInt ≤ x.toInt → 0 ≤ (lp_X3_countHours_26 a1 q a3 a4 a5 n x σ 7 (ix a5)).toInt ∧ (lp_X3_countHours_26 a1 q a3 a4 a5 n x σ 7 (ix a5)).toInt ≤ 10 := by
  intro n
  induction n with
  | zero => intro x σ h0 h1 h2 h3; exact ⟨h2, by show (σ 7 (ix a5)).toInt ≤ 10; omega⟩
  | succ n ih =>
    intro x σ h0 h1 h2 h3
    rw [lp_X3_countHours_26]
    by_cases h : 10 ≤ x
    · rw [if_pos h]; exact ⟨h2, by omega⟩
    · have h4 := qt_nle h
      have h5 : (10 : Int32).toInt = 10 := by decide
      have h6 := inc_toInt (a := x) (by omega) (by omega)
      rw [if_neg h]
      refine ite_ind (P := fun z : St => 0 ≤ (z 7 (ix a5)).toInt ∧ (z 7 (ix a5)).toInt ≤ 10) (fun _ => ih _ _ (by omega) (by omega) h2 (by omega)) (fun _ => ih _ _ (by omega) (by omega) ?_ ?_)
      all_goals rw [u2_self, inc_toInt (by omega) (by omega)]; omega
theorem le_countHours_6 {a1 a3 : Int32} {q : Nat} : ∀ (n : Nat) (t x : Int32) (σ : St), (σ 0 4).toInt ≤ 8 → 0 ≤ x.toInt → x.toInt ≤ 8 → 0 ≤ t.toInt → t.toInt ≤ 10 * x.toInt → 0 ≤ (lp_X3_countHours_6 a1 q a3 n t x σ).1.toInt ∧ (lp_X3_countHours_6 a1 q a3 n t x σ).1.toInt ≤ 100 := by
  intro n
  induction n with
  | zero => intro t x σ hs h0 h1 h2 h3; exact ⟨h2, by show t.toInt ≤ 100; omega⟩
  | succ n ih =>
    intro t x σ hs h0 h1 h2 h3
    rw [lp_X3_countHours_6]
    by_cases h : σ 0 4 ≤ x
    · rw [if_pos h]; exact ⟨h2, by show t.toInt ≤ 100; omega⟩
    · have h4 := qt_nle h
      have h6 := inc_toInt (a := x) (by omega) (by omega)
      have z0 : (0 : Int32).toInt = 0 := by decide
      rw [if_neg h]
      have h7 := le_countHours_26 (a1 := a1) (a3 := a3) (a4 := t) (a5 := x) (q := q) 200 0 (u2 σ 7 (ix x) 0) (by decide) (by decide) (by rw [u2_self]; decide) (by rw [u2_self]; decide)
      have h8 := a_toInt (a := t) (b := lp_X3_countHours_26 a1 q a3 t x 200 0 (u2 σ 7 (ix x) 0) 7 (ix x)) (by omega) (by omega)
      refine ih _ _ _ ?_ (by omega) (by omega) (by omega) (by omega)
      rw [fr_countHours_26 (by omega), u2_nc (by omega)]
      exact hs
theorem ch_le {σ : St} {a : Int32} {q : Nat} {b : Int32} (h : OkC σ) : 0 ≤ (f_X3_countHours σ a q b).1.toInt ∧ (f_X3_countHours σ a q b).1.toInt ≤ 100 := by
  rw [countHours_eq]
  exact le_countHours_6 _ _ _ _ h.1.2 (by decide) (by decide) (by decide) (by decide)
theorem fr_isTakenFor_3 {x y : Int32} {q : Nat} {a s : Int32} {c : Nat} (hc : c ≠ 6) : ∀ (n : Nat) (k : Int32) (σ : St), lp_X3_isTakenFor_3 x y q a s n k σ c = σ c := by
  intro n
  induction n with
  | zero => intro k σ; rfl
  | succ n ih =>
    intro k σ
    rw [lp_X3_isTakenFor_3]
    by_cases h : 9 ≤ k
    · rw [if_pos h]
    · rw [if_neg h, ih, u2_nc hc]
theorem fr_isTakenFor_38 {y : Int32} {q : Nat} {a s : Int32} {c : Nat} (hc : c ≠ 6) : ∀ (n : Nat) (k : Int32) (σ : St), lp_X3_isTakenFor_38 y q a s n k σ c = σ c := by
  intro n
  induction n with
  | zero => intro k σ; rfl
  | succ n ih =>
    intro k σ
    rw [lp_X3_isTakenFor_38]
    by_cases h : 10 ≤ k
    · rw [if_pos h]
    · rw [if_neg h]
      refine ite_ind (P := fun z : St => z c = σ c) (fun _ => ih _ _) (fun _ => ?_)
      rw [ih, u2_nc hc]
theorem fr_X3_isTakenFor {σ : St} {x y : Int32} {q : Nat} {a s : Int32} {c : Nat} (hc : c ≠ 6) : (f_X3_isTakenFor σ x y q a s).2 c = σ c := by
  show lp_X3_isTakenFor_38 y q a s 200 0 _ c = σ c
  rw [fr_isTakenFor_38 hc, fr_isTakenFor_3 hc]
theorem ok_X3_isTakenFor {σ : St} {x y : Int32} {q : Nat} {a s : Int32} (h : OkC σ) : OkC (f_X3_isTakenFor σ x y q a s).2 := by
  refine okC_cell h ⟨?_, ?_, ?_⟩ ?_ (fun k hk => ?_) (fun k hk => ⟨?_, ?_⟩)
  all_goals rw [fr_X3_isTakenFor (by omega)]
theorem nI_ix {x : Int32} (h : 0 ≤ x.toInt) : x = nI (ix x) := by
  obtain ⟨j, hj, rfl⟩ := nI_of (qm_nlt h)
  show nI j = nI (nI j).toNatClampNeg
  rw [nI_clamp hj]
theorem bit_lt : ∀ n : Nat, n < 11 → ∀ k : Nat, k < 10 → n ≤ k → ∀ s : Nat, s < 2 ^ n → ((nI s) >>> (nI k &&& 31)) &&& 1 = 0 := by decide +kernel
theorem sh_le {p : Int32} (h0 : 0 ≤ p.toInt) (h1 : p.toInt ≤ 10) : 1 ≤ ((1 : Int32) <<< (p &&& 31)).toInt ∧ ((1 : Int32) <<< (p &&& 31)).toInt ≤ 1024 := by
  have h2 := ix_toInt h0
  rw [nI_ix h0]
  generalize ix p = k at h2
  have h3 : k < 11 := by omega
  revert h3
  have T : ∀ k : Nat, k < 11 → 1 ≤ ((1 : Int32) <<< (nI k &&& 31)).toInt ∧ ((1 : Int32) <<< (nI k &&& 31)).toInt ≤ 1024 := by decide +kernel
  exact T k
theorem sh_eq {p : Int32} (h0 : 0 ≤ p.toInt) (h1 : p.toInt ≤ 10) : ((1 : Int32) <<< (p &&& 31)).toInt = 2 ^ ix p := by
  have h2 := ix_toInt h0
  have T : ∀ k : Nat, k < 11 → ((1 : Int32) <<< (nI k &&& 31)).toInt = 2 ^ k := by decide +kernel
  have h3 := T (ix p) (by omega)
  rw [← nI_ix h0] at h3
  exact h3
theorem l2_toInt (x : Int32) : (2 * x.toInt64).toInt = 2 * x.toInt := by
  have h1 := lb x
  have h2 : (2 : Int64).toInt = 2 := by decide
  rw [lx_toInt (by rw [Int32.toInt_toInt64, h2]; omega) (by rw [Int32.toInt_toInt64, h2]; omega), Int32.toInt_toInt64, h2]
theorem as_2 {σ : St} {q : Nat} {a b : Int32} : ∀ (n : Nat) (x : Int32), 0 ≤ x.toInt → (match lp_X3_areStoppers_2 σ q a b n x with | Sum.inl r => r = 0 | Sum.inr _ => b.toInt - x.toInt < n → ∀ k : Int32, x.toInt ≤ k.toInt → k.toInt < b.toInt → (¬ f_X3_isSmell (σ (13 + q) (ix (a + 2 * k))) = 0) ∧ ¬ σ (13 + q) (ix (a + 2 * k + 1)) < 1 ∧ σ (13 + q) (ix (a + 2 * k + 1)) ≤ 9) := by
  intro n
  induction n with
  | zero => intro x h0; intro h1 k h2 h3; omega
  | succ n ih =>
    intro x h0
    rw [lp_X3_areStoppers_2]
    by_cases h1 : b ≤ x
    · rw [if_pos h1]
      intro h2 k h3 h4
      have := qt_le h1
      omega
    rw [if_neg h1]
    by_cases h2 : f_X3_isSmell (σ (13 + q) (ix (a + 2 * x))) = 0
    · rw [if_pos h2]
    rw [if_neg h2]
    by_cases h3 : σ (13 + q) (ix (a + 2 * x + 1)) < 1
    · rw [if_pos h3]
    rw [if_neg h3]
    by_cases h4 : σ (13 + q) (ix (a + 2 * x + 1)) ≤ 9
    · rw [if_pos h4]
      have h5 := qt_nle h1
      have h6 := lb b
      have h7 := inc_toInt (a := x) h0 (by omega)
      have h := ih (x + 1) (by omega)
      generalize lp_X3_areStoppers_2 σ q a b n (x + 1) = z at h ⊢
      cases z with
      | inl r => exact h
      | inr _ =>
        intro h8 k h9 h10
        by_cases e : k.toInt = x.toInt
        · have e := qm_eq e
          subst e
          exact ⟨h2, h3, h4⟩
        · exact h (by omega) k (by omega) h10
    · rw [if_neg h4]
theorem as_all {σ : St} {q : Nat} {a n : Int32} (h1 : 0 ≤ n.toInt ∧ n.toInt ≤ 10) (h : ¬ f_X3_areStoppers σ q a n = 0) : ∀ k : Int32, 0 ≤ k.toInt → k.toInt < n.toInt → (¬ f_X3_isSmell (σ (13 + q) (ix (a + 2 * k))) = 0) ∧ ¬ σ (13 + q) (ix (a + 2 * k + 1)) < 1 ∧ σ (13 + q) (ix (a + 2 * k + 1)) ≤ 9 := by
  unfold f_X3_areStoppers at h
  have z0 : (0 : Int32).toInt = 0 := by decide
  have h2 := as_2 (σ := σ) (q := q) (a := a) (b := n) 200 0 (by decide)
  generalize lp_X3_areStoppers_2 σ q a n 200 0 = z at h h2
  cases z with
  | inl r => exact absurd h2 h
  | inr _ => exact fun k h3 h4 => h2 (by omega) k (by omega) h4
theorem as_n {σ : St} {q : Nat} {a n : Int32} (h0 : 0 ≤ a.toInt) (h1 : 0 ≤ n.toInt ∧ n.toInt ≤ 10) (h2 : a.toInt + 2 * n.toInt ≤ 90) (h : ¬ f_X3_areStoppers σ q a n = 0) : ∀ s : Int32, 0 ≤ s.toInt → ¬ (1 : Int32) <<< (n &&& 31) ≤ s → HST σ q a s := by
  intro s hs0 hs1 k hk0 hk1 hb
  have hs2 := qt_nle hs1
  rw [sh_eq h1.1 h1.2] at hs2
  have ek := ix_toInt hk0
  have en := ix_toInt h1.1
  have es := ix_toInt hs0
  have hk : k.toInt < n.toInt := by
    refine Int.not_le.mp (fun q => hb ?_)
    rw [nI_ix hs0, nI_ix hk0]
    refine bit_lt (ix n) (by omega) (ix k) (by omega) (by omega) (ix s) ?_
    have e2 : ((2 ^ ix n : Nat) : Int) = 2 ^ ix n := by norm_cast
    omega
  have h3 := as_all h1 h k hk0 hk
  have e2 := km_toInt (a := k) (k := 2) (z := 2) (by decide) (by omega) (by omega)
  have e3 := a_toInt (a := a) (b := 2 * k) (by omega) (by omega)
  have e4 := inc_toInt (a := a + 2 * k) (by omega) (by omega)
  have h4 := bf_isSmell_n h3.1
  exact ⟨vpi (by omega) (by omega), vpi (by omega) (by omega), vpi (by omega) (by omega)⟩
theorem tf_2 {σ : St} {q : Nat} {a b : Int32} : ∀ (n : Nat) (x : Int32), 0 ≤ x.toInt → (match lp_X3_textFault_2 σ q a b n x with | Sum.inl r => 0 ≤ r.toInt | Sum.inr _ => True) := by
  intro n
  induction n with
  | zero => intro x h0; trivial
  | succ n ih =>
    intro x h0
    rw [lp_X3_textFault_2]
    by_cases h1 : b ≤ x
    · rw [if_pos h1]; trivial
    rw [if_neg h1]
    have h5 := qt_nle h1
    have h6 := lb b
    have h7 := inc_toInt (a := x) h0 (by omega)
    refine ite_ind (P := fun z : Int32 ⊕ Unit => match z with | Sum.inl r => 0 ≤ r.toInt | Sum.inr _ => True) (fun _ => h0) (fun _ => ih _ (by omega))
theorem dv_toInt {a b : Int32} (ha : 0 ≤ a.toInt) (hb : 0 < b.toInt) : (a / b).toInt = a.toInt / b.toInt := by
  rw [Int32.toInt_div_of_ne_left _ _ (fun q => by rw [q] at ha; exact absurd ha (by decide)), Int.tdiv_eq_ediv_of_nonneg ha]
theorem tf_neg {σ : St} {q : Nat} {a n : Int32} (h0 : 0 ≤ n.toInt) (h1 : n.toInt ≤ 90) (h : (f_X3_textFault σ q a n).toInt < 0) : (0 ≤ (n / 11 + 1).toInt ∧ (n / 11 + 1).toInt ≤ 8) ∧ 11 * (n / 11 + 1).toInt ≤ n.toInt + 1 := by
  unfold f_X3_textFault at h
  have h2 := tf_2 (σ := σ) (q := q) (a := a) (b := n) 200 0 (by decide)
  generalize lp_X3_textFault_2 σ q a n 200 0 = z at h h2
  have z11 : (11 : Int32).toInt = 11 := by decide
  have z10 : (10 : Int32).toInt = 10 := by decide
  have e1 := dv_toInt (a := n) (b := 11) h0 (by decide)
  rw [z11] at e1
  have e2 := inc_toInt (a := n / 11) (by omega) (by omega)
  have e3 := mk_toInt (a := n / 11) (k := 11) (z := 11) (by decide) (by omega) (by omega)
  have e4 := s_toInt (a := n) (b := n / 11 * 11) (by omega) (by omega)
  cases z with
  | inl r => exact absurd h2 (by show ¬ 0 ≤ r.toInt; exact Int.not_le.mpr h)
  | inr _ =>
    dsimp only at h
    by_cases h3 : n - n / 11 * 11 = 10
    · have h4 := qt_eq h3
      omega
    · rw [if_neg h3, if_pos rfl] at h
      omega
theorem ok_X3_spanRefusal {σ : St} {k lane i : Int32} {n : Int64} (h : OkC σ) : OkC (f_X3_spanRefusal σ k lane i n).2 := by
  obtain ⟨v, hv⟩ := fr_X3_spanRefusal (σ := σ) (k := k) (lane := lane) (i := i) (n := n)
  rw [hv]
  exact okC_obj (by omega) h
