/-! what the answers of the class's own questions say; that the numbers stay in their rows -/
theorem bf_isSign_n {σ : St} {x : Int32} (h : ¬ f_X3_isSign σ x = 0) : 0 ≤ x.toInt ∧ x.toInt < (σ 0 4).toInt := by
  unfold f_X3_isSign at h
  by_cases h1 : x < 0
  · rw [if_pos h1] at h; exact absurd rfl h
  · rw [if_neg h1] at h
    by_cases h2 : σ 0 4 ≤ x
    · rw [if_pos h2] at h; exact absurd rfl h
    · exact ⟨qt_nlt h1, qt_nle h2⟩
theorem bf_isPaper_n {σ : St} {x : Int32} (h : ¬ f_X3_isPaper σ x = 0) : 0 ≤ x.toInt ∧ x.toInt < (σ 0 5).toInt := by
  unfold f_X3_isPaper at h
  by_cases h1 : x < 0
  · rw [if_pos h1] at h; exact absurd rfl h
  · rw [if_neg h1] at h
    by_cases h2 : σ 0 5 ≤ x
    · rw [if_pos h2] at h; exact absurd rfl h
    · exact ⟨qt_nlt h1, qt_nle h2⟩
theorem bf_isSmell_n {x : Int32} (h : ¬ f_X3_isSmell x = 0) : 0 ≤ x.toInt ∧ x.toInt < 9 := by
  unfold f_X3_isSmell at h
  by_cases h1 : x < 0
  · rw [if_pos h1] at h; exact absurd rfl h
  · rw [if_neg h1] at h
    by_cases h2 : 9 ≤ x
    · rw [if_pos h2] at h; exact absurd rfl h
    · exact ⟨qt_nlt h1, qt_nle h2⟩
theorem bf_isSheet_n {x : Int32} (h : ¬ f_X3_isSheet x = 0) : 0 ≤ x.toInt ∧ x.toInt < 4 := by
  unfold f_X3_isSheet at h
  by_cases h1 : x < 0
  · rw [if_pos h1] at h; exact absurd rfl h
  · rw [if_neg h1] at h
    by_cases h2 : 4 ≤ x
    · rw [if_pos h2] at h; exact absurd rfl h
    · exact ⟨qt_nlt h1, qt_nle h2⟩
theorem bf_areTwoSigns_n {σ : St} {x y : Int32} (h : ¬ f_X3_areTwoSigns σ x y = 0) : (0 ≤ x.toInt ∧ x.toInt < (σ 0 4).toInt) ∧ (0 ≤ y.toInt ∧ y.toInt < (σ 0 4).toInt) ∧ x ≠ y := by
  unfold f_X3_areTwoSigns at h
  by_cases h1 : f_X3_isSign σ x = 0
  · rw [if_pos h1] at h; exact absurd rfl h
  · rw [if_neg h1] at h
    by_cases h2 : f_X3_isSign σ y = 0
    · rw [if_pos h2] at h; exact absurd rfl h
    · rw [if_neg h2] at h
      by_cases h3 : x = y
      · rw [if_pos h3] at h; exact absurd rfl h
      · exact ⟨bf_isSign_n h1, bf_isSign_n h2, h3⟩
theorem lg_lt {x y : Int64} (h : lg_cmp x y < 0) : x.toInt < y.toInt := sorry
theorem lg_nlt {x y : Int64} (h : ¬ lg_cmp x y < 0) : y.toInt ≤ x.toInt := sorry
theorem bf_lacks_z {σ : St} {r : Nat} {i : Int32} {n : Int64} (h : f_X1_lacks σ r i n = 0) : 0 ≤ i.toInt ∧ (n.toInt < 4294967296 → -4294967296 ≤ n.toInt → i.toInt + n.toInt ≤ (σ (9 + r) 2).toInt) := sorry
theorem sp_z {σ : St} {k lane i : Int32} {n : Int64} (h : (f_X3_spanRefusal σ k lane i n).1 = 0) : (0 ≤ k.toInt ∧ k.toInt < 4) ∧ (0 ≤ i.toInt ∧ 0 ≤ n.toInt ∧ (n.toInt < 4294967296 → i.toInt + n.toInt ≤ (σ (9 + ix k) 2).toInt)) := sorry
theorem fr_X3_spanRefusal {σ : St} {k lane i : Int32} {n : Int64} : ∃ v, (f_X3_spanRefusal σ k lane i n).2 = u2 σ 0 9 v := sorry
theorem ok_X3_spanRefusal {σ : St} {k lane i : Int32} {n : Int64} (h : OkC σ) : OkC (f_X3_spanRefusal σ k lane i n).2 := by
  obtain ⟨v, hv⟩ := fr_X3_spanRefusal (σ := σ) (k := k) (lane := lane) (i := i) (n := n)
  rw [hv]
  exact okC_obj (by omega) h
theorem fr_X3_smellPaper {σ : St} {p : Nat} {y : Int32} {c : Nat} (hc : c ≠ 5) : f_X3_smellPaper σ p y c = σ c := sorry
theorem ok_X3_smellPaper {σ : St} {p : Nat} {y : Int32} (h : OkC σ) : OkC (f_X3_smellPaper σ p y) := sorry
theorem ok_X3_isProved {σ : St} {p : Nat} {y : Int32} (h : OkC σ) : OkC (f_X3_isProved σ p y).2 := sorry
theorem ok_X3_tryStrengths {σ : St} {a b : Int32} (h : OkC σ) : OkC (f_X3_tryStrengths σ a b) := sorry
theorem ok_X3_countHours {σ : St} {a : Int32} {q : Nat} {b : Int32} (h : OkC σ) : OkC (f_X3_countHours σ a q b).2 := sorry
theorem ch_le {σ : St} {a : Int32} {q : Nat} {b : Int32} (h : OkC σ) : 0 ≤ (f_X3_countHours σ a q b).1.toInt ∧ (f_X3_countHours σ a q b).1.toInt ≤ 100 := sorry
theorem cd_nz (a b : Int32) : ¬ f_X3_commonDivisor a b = 0 := sorry
theorem fr_X3_isTakenFor {σ : St} {x y : Int32} {q : Nat} {a s : Int32} {c : Nat} (hc : c ≠ 6) : (f_X3_isTakenFor σ x y q a s).2 c = σ c := sorry
theorem ok_X3_isTakenFor {σ : St} {x y : Int32} {q : Nat} {a s : Int32} (h : OkC σ) : OkC (f_X3_isTakenFor σ x y q a s).2 := sorry
/-- the stoppers of a set lie in their sheet -/
def HST (σ : St) (q : Nat) (a s : Int32) : Prop := ∀ k : Int32, 0 ≤ k.toInt → k.toInt < 10 → ¬ ((s >>> (k &&& 31)) &&& 1) = 0 → vp_in (a + 2 * k) 90 ∧ vp_in (a + 2 * k + 1) 90 ∧ vp_in (σ (13 + q) (ix (a + 2 * k))) 9
theorem hst_congr {σ τ : St} {q : Nat} {a s : Int32} (e : τ (13 + q) = σ (13 + q)) (h : HST σ q a s) : HST τ q a s := fun k h0 h1 h2 => by
  rw [e]
  exact h k h0 h1 h2
theorem as_n {σ : St} {q : Nat} {a n : Int32} (h0 : 0 ≤ a.toInt) (h1 : 0 ≤ n.toInt ∧ n.toInt ≤ 10) (h2 : a.toInt + 2 * n.toInt ≤ 90) (h : ¬ f_X3_areStoppers σ q a n = 0) : ∀ s : Int32, 0 ≤ s.toInt → ¬ (1 : Int32) <<< (n &&& 31) ≤ s → HST σ q a s := sorry
theorem sh_le {p : Int32} (h0 : 0 ≤ p.toInt) (h1 : p.toInt ≤ 10) : 1 ≤ ((1 : Int32) <<< (p &&& 31)).toInt ∧ ((1 : Int32) <<< (p &&& 31)).toInt ≤ 1024 := sorry
theorem l2_toInt (x : Int32) : (2 * x.toInt64).toInt = 2 * x.toInt := sorry
theorem tf_neg {σ : St} {q : Nat} {a n : Int32} (h0 : 0 ≤ n.toInt) (h1 : n.toInt ≤ 90) (h : (f_X3_textFault σ q a n).toInt < 0) : (0 ≤ (n / 11 + 1).toInt ∧ (n / 11 + 1).toInt ≤ 8) ∧ 11 * (n / 11 + 1).toInt ≤ n.toInt + 1 := sorry
theorem bo_X3_areAlike {σ : St} {a b : Nat} : f_X3_areAlike σ a b = 0 ∨ f_X3_areAlike σ a b = 1 := by
  unfold f_X3_areAlike
  split
  · exact Or.inl rfl
  · exact Or.inr rfl
