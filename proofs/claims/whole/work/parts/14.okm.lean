/-! the same of the check -/
theorem nzl_of {b : Int64} (h : 0 < b.toInt) : ¬ b = 0 := fun q => by rw [q] at h; exact absurd h (by decide)
def HSM (σ : St) (f n : Int32) : Prop := ∀ k : Int32, 0 ≤ k.toInt → k.toInt < n.toInt → vp_in (f + 2 * k) 360 ∧ vp_in (f + 2 * k + 1) 360 ∧ vp_in (σ 16 (ix (f + 2 * k))) 9
theorem hsm_0 {σ : St} {f : Int32} : HSM σ f 0 := by
  intro k h0 h1
  have h2 : (0 : Int32).toInt = 0 := by decide
  exact absurd h1 (by omega)
theorem hsm_step {σ : St} {f v : Int32} (h : HSM σ f v) (hv : (v + 1).toInt = v.toInt + 1) (a : vp_in (f + 2 * v) 360) (b : vp_in (f + 2 * v + 1) 360) (c : vp_in (σ 16 (ix (f + 2 * v))) 9) : HSM σ f (v + 1) := fun k h0 h1 => by
  by_cases hk : k.toInt < v.toInt
  · exact h k h0 hk
  · have e : k = v := qm_eq (by omega)
    subst e
    exact ⟨a, b, c⟩
theorem hsm_congr {σ τ : St} {f n : Int32} (e : τ 16 = σ 16) (h : HSM σ f n) : HSM τ f n := fun k h0 h1 => by
  rw [e]
  exact h k h0 h1
/-! the same of the check's answers -/
theorem bf_in_n {v l h : Int64} (q : ¬ f_X4_in v l h = 0) : l.toInt ≤ v.toInt ∧ v.toInt ≤ h.toInt := by
  unfold f_X4_in at q
  by_cases h1 : lg_cmp v l < 0
  · rw [if_pos h1] at q; exact absurd rfl q
  · rw [if_neg h1] at q
    by_cases h2 : 0 < lg_cmp v h
    · rw [if_pos h2] at q; exact absurd rfl q
    · exact ⟨lg_nlt h1, Int.not_lt.mp (fun z => h2 ((lg_cmp_gt v h).mpr (Int64.lt_iff_toInt_lt.mpr z)))⟩
theorem bo_X4_in {v l h : Int64} : f_X4_in v l h = 0 ∨ f_X4_in v l h = 1 := by
  unfold f_X4_in
  exact ite_ind (P := fun z : Int32 => z = 0 ∨ z = 1) (fun _ => Or.inl rfl) (fun _ => ite_ind (P := fun z : Int32 => z = 0 ∨ z = 1) (fun _ => Or.inl rfl) (fun _ => Or.inr rfl))
/-- what in says, both ways -/
theorem in_z {v l h : Int64} : f_X4_in v l h = 0 ↔ ¬ (l.toInt ≤ v.toInt ∧ v.toInt ≤ h.toInt) := by
  constructor
  · intro q z
    unfold f_X4_in at q
    rw [if_neg (fun c => by have := lg_lt c; omega), if_neg (fun c => by have := Int64.lt_iff_toInt_lt.mp ((lg_cmp_gt v h).mp c); omega)] at q
    exact absurd q (by decide)
  · intro q
    by_cases z : f_X4_in v l h = 0
    · exact z
    · exact absurd (bf_in_n z) q
theorem in_i {x : Int32} {l h : Int64} {L H : Int} (hl : l.toInt = L) (hh : h.toInt = H) : f_X4_in x.toInt64 l h = 0 ↔ ¬ (L ≤ x.toInt ∧ x.toInt ≤ H) := by
  rw [in_z, Int32.toInt_toInt64, hl, hh]
theorem m1_toInt (x : Int32) : (x.toInt64 - 1).toInt = x.toInt - 1 := by
  have h1 := lb x
  have h2 : (1 : Int64).toInt = 1 := by decide
  rw [ls_toInt (by rw [Int32.toInt_toInt64, h2]; omega) (by rw [Int32.toInt_toInt64, h2]; omega), Int32.toInt_toInt64, h2]
theorem in3_or {p : Int32} : f_X4_in p.toInt64 0 3 = 0 ∨ (0 ≤ p.toInt ∧ p.toInt ≤ 3) := by
  by_cases h : f_X4_in p.toInt64 0 3 = 0
  · exact Or.inl h
  · refine Or.inr ?_
    rw [in_i (L := 0) (H := 3) (by decide) (by decide)] at h
    exact Classical.not_not.mp h
theorem not10 {P : Prop} [Decidable P] : (if P then (1 : Int32) else 0) = 0 ↔ ¬ P := by
  by_cases h : P
  · rw [if_pos h]; exact ⟨fun q => absurd q (by decide), fun q => absurd h q⟩
  · rw [if_neg h]; exact ⟨fun _ => h, fun _ => rfl⟩
theorem noSign_z {σ : St} {x : Int32} : f_X4_noSign σ x = 0 ↔ (0 ≤ x.toInt ∧ x.toInt < (σ 0 1).toInt) := by
  unfold f_X4_noSign
  rw [not10, in_i (L := 0) (by decide) (m1_toInt _), Classical.not_not]
  omega
theorem noPaper_z {σ : St} {x : Int32} : f_X4_noPaper σ x = 0 ↔ (0 ≤ x.toInt ∧ x.toInt < (σ 0 11).toInt) := by
  unfold f_X4_noPaper
  rw [not10, in_i (L := 0) (by decide) (m1_toInt _), Classical.not_not]
  omega
theorem noSmell_z {x : Int32} : f_X4_noSmell x = 0 ↔ (0 ≤ x.toInt ∧ x.toInt < 9) := by
  unfold f_X4_noSmell
  rw [not10, in_i (L := 0) (H := 8) (by decide) (by decide), Classical.not_not]
  omega
theorem noSheet_z {x : Int32} : f_X4_noSheet x = 0 ↔ (0 ≤ x.toInt ∧ x.toInt < 4) := by
  unfold f_X4_noSheet
  rw [not10, in_i (L := 0) (H := 3) (by decide) (by decide), Classical.not_not]
  omega
theorem bf_noSign_z {σ : St} {x : Int32} (h : f_X4_noSign σ x = 0) : 0 ≤ x.toInt ∧ x.toInt < (σ 0 1).toInt := noSign_z.mp h
theorem bf_noPaper_z {σ : St} {x : Int32} (h : f_X4_noPaper σ x = 0) : 0 ≤ x.toInt ∧ x.toInt < (σ 0 11).toInt := noPaper_z.mp h
theorem bf_noSmell_z {x : Int32} (h : f_X4_noSmell x = 0) : 0 ≤ x.toInt ∧ x.toInt < 9 := noSmell_z.mp h
theorem bf_noSheet_z {x : Int32} (h : f_X4_noSheet x = 0) : 0 ≤ x.toInt ∧ x.toInt < 4 := noSheet_z.mp h
theorem areTwo_n {σ : St} {x y : Int32} : ¬ f_X4_areTwo σ x y = 0 ↔ ((0 ≤ x.toInt ∧ x.toInt < (σ 0 1).toInt) ∧ (0 ≤ y.toInt ∧ y.toInt < (σ 0 1).toInt) ∧ x ≠ y) := by
  unfold f_X4_areTwo
  by_cases h1 : f_X4_noSign σ x = 0
  · rw [if_pos h1]
    by_cases h2 : f_X4_noSign σ y = 0
    · rw [if_pos h2]
      by_cases h3 : x = y
      · rw [if_pos h3]; exact ⟨fun q => absurd rfl q, fun q => absurd h3 q.2.2⟩
      · rw [if_neg h3]; exact ⟨fun _ => ⟨noSign_z.mp h1, noSign_z.mp h2, h3⟩, fun _ => by decide⟩
    · rw [if_neg h2]; exact ⟨fun q => absurd rfl q, fun q => absurd (noSign_z.mpr q.2.1) h2⟩
  · rw [if_neg h1]; exact ⟨fun q => absurd rfl q, fun q => absurd (noSign_z.mpr q.1) h1⟩
theorem bf_areTwo_n {σ : St} {x y : Int32} (h : ¬ f_X4_areTwo σ x y = 0) : (0 ≤ x.toInt ∧ x.toInt < (σ 0 1).toInt) ∧ (0 ≤ y.toInt ∧ y.toInt < (σ 0 1).toInt) ∧ x ≠ y := areTwo_n.mp h
theorem bf_isBeyond_z {i a : Int32} {n : Int64} (h : f_X4_isBeyond i n a = 0) : 0 ≤ i.toInt ∧ 0 ≤ n.toInt ∧ (n.toInt < 4294967296 → i.toInt + n.toInt ≤ a.toInt) := by
  unfold f_X4_isBeyond at h
  by_cases h1 : i < 0
  · rw [if_pos h1] at h; exact absurd h (by decide)
  rw [if_neg h1] at h
  by_cases h3 : lg_cmp n 0 < 0
  · rw [if_pos h3] at h; exact absurd h (by decide)
  rw [if_neg h3] at h
  by_cases h2 : lg_cmp (i.toInt64 + n) a.toInt64 ≤ 0
  · have h7 : (0 : Int64).toInt = 0 := by decide
    have h8 := lg_nlt h3
    refine ⟨qt_nlt h1, by omega, fun h4 => ?_⟩
    have h5 := Int64.le_iff_toInt_le.mp ((lg_cmp_le _ _).mp h2)
    have h6 := lb i
    rw [la_toInt (by rw [Int32.toInt_toInt64]; omega) (by rw [Int32.toInt_toInt64]; omega), Int32.toInt_toInt64, Int32.toInt_toInt64] at h5
    exact h5
  · rw [if_neg h2] at h; exact absurd h (by decide)
theorem br_z {σ : St} {k lane i : Int32} {n : Int64} (h : 0 ≤ (f_X4_barred σ k lane i n).1) : (0 ≤ k.toInt ∧ k.toInt < 4) ∧ (0 ≤ i.toInt ∧ 0 ≤ n.toInt ∧ (n.toInt < 4294967296 → i.toInt + n.toInt ≤ (σ 14 (ix k)).toInt)) := by
  unfold f_X4_barred at h
  by_cases h1 : f_X4_noSheet k = 0
  case neg => rw [if_neg h1] at h; exact absurd h (by show ¬ (0 : Int32) ≤ -1; decide)
  rw [if_pos h1] at h
  by_cases h2 : f_X4_in lane.toInt64 0 2 = 0
  · rw [if_pos h2] at h; exact absurd h (by show ¬ (0 : Int32) ≤ -2; decide)
  rw [if_neg h2] at h
  have key : (0 : Int32) ≤ (if 0 ≤ σ 14 (ix k) then (if 0 ≤ lg_cmp n 0 then (if f_X4_isBeyond i n (σ 14 (ix k)) = 0 then ((0 : Int32), σ) else ((f_X4_failed σ 3).1, (f_X4_failed σ 3).2)) else ((f_X4_failed σ 4).1, (f_X4_failed σ 4).2)) else ((f_X4_failed σ 1).1, (f_X4_failed σ 1).2)).1 → 0 ≤ i.toInt ∧ 0 ≤ n.toInt ∧ (n.toInt < 4294967296 → i.toInt + n.toInt ≤ (σ 14 (ix k)).toInt) := by
    intro h
    by_cases h3 : 0 ≤ σ 14 (ix k)
    case neg => rw [if_neg h3] at h; exact absurd h (by show ¬ (0 : Int32) ≤ -10 - 1; decide)
    rw [if_pos h3] at h
    by_cases h4 : 0 ≤ lg_cmp n 0
    case neg => rw [if_neg h4] at h; exact absurd h (by show ¬ (0 : Int32) ≤ -10 - 4; decide)
    rw [if_pos h4] at h
    by_cases h5 : f_X4_isBeyond i n (σ 14 (ix k)) = 0
    · exact bf_isBeyond_z h5
    · rw [if_neg h5] at h; exact absurd h (by show ¬ (0 : Int32) ≤ -10 - 3; decide)
  refine ⟨noSheet_z.mp h1, ?_⟩
  by_cases h3 : σ 14 (ix k) < 0
  · rw [if_pos h3] at h; exact key h
  rw [if_neg h3] at h
  by_cases h4 : σ 15 (ix k) = lane
  · rw [if_pos h4] at h; exact key h
  · rw [if_neg h4] at h; exact absurd h (by show ¬ (0 : Int32) ≤ -10 - 2; decide)
theorem st_X4_barred {σ : St} {k lane i : Int32} {n : Int64} : (f_X4_barred σ k lane i n).2 = σ ∨ ∃ v, (f_X4_barred σ k lane i n).2 = u2 σ 0 0 v := by
  unfold f_X4_barred
  repeat' split
  all_goals first | exact Or.inl rfl | exact Or.inr ⟨_, rfl⟩
theorem fo_X4_barred {σ : St} {k lane i : Int32} {n : Int64} {j : Nat} (hj : j ≠ 0) : (f_X4_barred σ k lane i n).2 0 j = σ 0 j := by
  rcases st_X4_barred (σ := σ) (k := k) (lane := lane) (i := i) (n := n) with h | ⟨v, h⟩
  · rw [h]
  · rw [h, u2_nk hj]
theorem ok_X4_barred {σ : St} {k lane i : Int32} {n : Int64} (h : OkM σ) : OkM (f_X4_barred σ k lane i n).2 := by
  rcases st_X4_barred (σ := σ) (k := k) (lane := lane) (i := i) (n := n) with q | ⟨v, q⟩
  · rw [q]; exact h
  · rw [q]; exact okM_obj (by decide) h
theorem nc_z {σ : St} {k i : Int32} (h : f_X4_noCell σ k i ≤ 0) : 0 ≤ i.toInt ∧ i.toInt < (σ 14 (ix k)).toInt := by
  unfold f_X4_noCell at h
  by_cases h1 : 0 ≤ σ 14 (ix k)
  case neg => rw [if_neg h1] at h; exact absurd h (by decide)
  rw [if_pos h1] at h
  by_cases h2 : f_X4_in i.toInt64 0 ((σ 14 (ix k)).toInt64 - 1) = 0
  · rw [if_pos h2] at h; exact absurd h (by decide)
  · rw [in_i (L := 0) (by decide) (m1_toInt _)] at h2
    have := Classical.not_not.mp h2
    omega
theorem lgc_ne {x y : Int64} (h : ¬ lg_cmp x y = 0) : x.toInt ≠ y.toInt := fun q => h ((lg_cmp_eq x y).mpr (Int64.toInt_inj.mp q))
theorem lgc_eq {x y : Int64} (h : lg_cmp x y = 0) : x.toInt = y.toInt := congrArg Int64.toInt ((lg_cmp_eq x y).mp h)
theorem ldv_toInt {a b : Int64} (ha : 0 ≤ a.toInt) (hb : 0 < b.toInt) : (a / b).toInt = a.toInt / b.toInt := by
  rw [Int64.toInt_div_of_ne_left _ _ (fun q => by rw [q] at ha; exact absurd ha (by decide)), Int.tdiv_eq_ediv_of_nonneg ha]
theorem ediv_b {a b : Int} (ha : 0 ≤ a) (hb : 0 < b) : 0 ≤ a / b * b ∧ a / b * b ≤ a ∧ a - a / b * b < b ∧ 0 ≤ a / b ∧ a / b ≤ a := by
  have h1 := Int.ediv_mul_le a (Int.ne_of_gt hb)
  have h2 := Int.lt_ediv_add_one_mul_self a hb
  have h3 := Int.ediv_nonneg ha (Int.le_of_lt hb)
  have h4 : (a / b + 1) * b = a / b * b + b := by rw [Int.add_mul, Int.one_mul]
  have h5 := Int.mul_nonneg h3 (Int.le_of_lt hb)
  have h6 := Int.ediv_le_self b ha
  exact ⟨h5, h1, by omega, h3, h6⟩
theorem lrem_toInt {a b : Int64} (h0 : 0 ≤ a.toInt) (h1 : 0 < b.toInt) : (a - a / b * b).toInt = a.toInt % b.toInt := by
  have h2 := ldv_toInt h0 h1
  have h3 := ediv_b h0 h1
  have h4 : a.toInt < 9223372036854775808 := Int64.toInt_lt a
  have h5 := lx_toInt (a := a / b) (b := b) (by rw [h2]; omega) (by rw [h2]; omega)
  rw [ls_toInt (by rw [h5, h2]; omega) (by rw [h5, h2]; omega), h5, h2]
  have h6 := Int.emod_def a.toInt b.toInt
  rw [Int.mul_comm] at h6
  omega
theorem lrem_in {a b : Int64} (h0 : 0 ≤ a.toInt ∧ a.toInt ≤ 100) (h1 : 0 < b.toInt ∧ b.toInt ≤ 100) : 0 ≤ (a - a / b * b).toInt ∧ (a - a / b * b).toInt < b.toInt := by
  rw [lrem_toInt h0.1 h1.1]
  exact ⟨Int.emod_nonneg _ (by omega), Int.emod_lt_of_pos _ h1.1⟩
theorem irem_toInt {a b : Int32} (h0 : 0 ≤ a.toInt) (h1 : 0 < b.toInt) : (a - a / b * b).toInt = a.toInt % b.toInt := by
  have h2 := dv_toInt h0 h1
  have h3 := ediv_b h0 h1
  have h4 := lb a
  have h5 := x_toInt (a := a / b) (b := b) (by rw [h2]; omega) (by rw [h2]; omega)
  rw [s_toInt (by rw [h5, h2]; omega) (by rw [h5, h2]; omega), h5, h2]
  have h6 := Int.emod_def a.toInt b.toInt
  rw [Int.mul_comm] at h6
  omega
theorem dv_ge {a b : Int32} (h : -1000 ≤ a.toInt) (hb : 1 ≤ b.toInt) : -1000 ≤ (a / b).toInt := by
  rw [Int32.toInt_div_of_ne_left _ _ (fun q => by rw [q] at h; exact absurd h (by decide))]
  rcases Int.le_total 0 a.toInt with q | q
  · have := Int.tdiv_nonneg q (by omega : 0 ≤ b.toInt)
    omega
  · have h1 := Int.tdiv_le_self b.toInt (by omega : 0 ≤ -a.toInt)
    rw [Int.neg_tdiv] at h1
    omega
theorem gr_in {a b : Int32} (ha : 0 ≤ a.toInt ∧ a.toInt < (8 : Nat)) (hb : 0 ≤ b.toInt ∧ b.toInt < (8 : Nat)) : 0 ≤ (f_X4_greater a b).toInt ∧ (f_X4_greater a b).toInt < 8 := by
  unfold f_X4_greater
  exact ite_ind (P := fun z : Int32 => 0 ≤ z.toInt ∧ z.toInt < 8) (fun _ => ⟨hb.1, by omega⟩) (fun _ => ⟨ha.1, by omega⟩)
theorem shr1 {a : Int32} (h : 0 < a.toInt) : (a >>> ((1 : Int32) &&& 31)).toInt = a.toInt / 2 := by
  rw [Jvm.Kit.i32_shr a ((1 : Int32) &&& 31) (k := 1) (by decide)]
  rfl
theorem bo_X4_isTaken {σ : St} {y : Int32} : f_X4_isTaken σ y = 0 ∨ f_X4_isTaken σ y = 1 := by
  unfold f_X4_isTaken
  exact ite_ind (P := fun z : Int32 => z = 0 ∨ z = 1) (fun _ => Or.inl rfl) (fun _ => Or.inr rfl)
theorem fr_forges_3 {x y f m s : Int32} {c : Nat} (hc : c ≠ 12) : ∀ (n : Nat) (k : Int32) (σ : St), lp_X4_forges_3 x y f m s n k σ c = σ c := by
  intro n
  induction n with
  | zero => intro k σ; rfl
  | succ n ih =>
    intro k σ
    rw [lp_X4_forges_3]
    by_cases h : 9 ≤ k
    · rw [if_pos h]
    · rw [if_neg h, ih, u2_nc hc]
theorem fr_forges_33 {y f m s : Int32} {c : Nat} (hc : c ≠ 12) : ∀ (n : Nat) (k : Int32) (σ : St), lp_X4_forges_33 y f m s n k σ c = σ c := by
  intro n
  induction n with
  | zero => intro k σ; rfl
  | succ n ih =>
    intro k σ
    rw [lp_X4_forges_33]
    by_cases h : m ≤ k
    · rw [if_pos h]
    · rw [if_neg h, ih, u2_nc hc]
theorem fr_X4_forges {σ : St} {x y f n s : Int32} {c : Nat} (hc : c ≠ 12) : (f_X4_forges σ x y f n s).2 c = σ c := by
  show lp_X4_forges_33 y f n s 200 0 _ c = σ c
  rw [fr_forges_33 hc, fr_forges_3 hc]
theorem ok_X4_forges {σ : St} {x y f n s : Int32} (h : OkM σ) : OkM (f_X4_forges σ x y f n s).2 := by
  refine okM_cell h ⟨?_, ?_, ?_⟩ ?_ ?_ ?_ ?_ ?_
  all_goals rw [fr_X4_forges (by omega)]
theorem hw_le {h w : Int32} (a : 0 ≤ h.toInt ∧ h.toInt ≤ 9) (b : 0 ≤ w.toInt ∧ w.toInt ≤ 3) : 0 ≤ (h + h * w).toInt ∧ (h + h * w).toInt ≤ 99 := by
  have e : 0 ≤ h.toInt * w.toInt ∧ h.toInt * w.toInt ≤ 27 := by
    rcases (show w.toInt = 0 ∨ w.toInt = 1 ∨ w.toInt = 2 ∨ w.toInt = 3 by omega) with q | q | q | q <;> rw [q] <;> omega
  have e1 := x_toInt (a := h) (b := w) (by omega) (by omega)
  have e2 := a_toInt (a := h) (b := h * w) (by omega) (by omega)
  omega
theorem fr_laysHours_83 {a b d e : Int32} {c : Nat} (hc : c ≠ 13) : ∀ (n : Nat) (k : Int32) (σ : St), lp_X4_laysHours_83 a b d e n k σ c = σ c := by
  intro n
  induction n with
  | zero => intro k σ; rfl
  | succ n ih =>
    intro k σ
    rw [lp_X4_laysHours_83]
    by_cases h : 10 ≤ k
    · rw [if_pos h]
    · rw [if_neg h, ih, u2_nc hc]
theorem fr_laysHours_59 {a b d : Int32} {c : Nat} (hc : c ≠ 13) : ∀ (n : Nat) (k : Int32) (σ : St), lp_X4_laysHours_59 a b d n k σ c = σ c := by
  intro n
  induction n with
  | zero => intro k σ; rfl
  | succ n ih =>
    intro k σ
    rw [lp_X4_laysHours_59]
    refine ite_ind (P := fun z : St => z c = σ c) (fun _ => rfl) (fun _ => ite_ind (P := fun z : St => z c = σ c) (fun _ => rfl) (fun _ => ?_))
    rw [ih, fr_laysHours_83 hc, u2_nc hc]
theorem fr_X4_laysHours {σ : St} {w f : Int32} {c : Nat} (hc : c ≠ 13) : (f_X4_laysHours σ w f).2 c = σ c := fr_laysHours_59 hc _ _ _
theorem ok_X4_laysHours {σ : St} {w f : Int32} (h : OkM σ) : OkM (f_X4_laysHours σ w f).2 := by
  refine okM_cell h ⟨?_, ?_, ?_⟩ ?_ ?_ ?_ ?_ ?_
  all_goals rw [fr_X4_laysHours (by omega)]
theorem le_laysHours_83 {a b d x : Int32} : ∀ (n : Nat) (k : Int32) (σ : St), 0 ≤ k.toInt → k.toInt ≤ 10 → 0 ≤ (σ 13 (ix x)).toInt → (σ 13 (ix x)).toInt ≤ k.toInt → 0 ≤ (lp_X4_laysHours_83 a b d x n k σ 13 (ix x)).toInt ∧ (lp_X4_laysHours_83 a b d x n k σ 13 (ix x)).toInt ≤ 10 := by
  intro n
  induction n with
  | zero => intro k σ h0 h1 h2 h3; exact ⟨h2, by show (σ 13 (ix x)).toInt ≤ 10; omega⟩
  | succ n ih =>
    intro k σ h0 h1 h2 h3
    rw [lp_X4_laysHours_83]
    by_cases h : 10 ≤ k
    · rw [if_pos h]; exact ⟨h2, by omega⟩
    · have h4 := qt_nle h
      have h5 : (10 : Int32).toInt = 10 := by decide
      have h6 := inc_toInt (a := k) (by omega) (by omega)
      rw [if_neg h]
      have h7 : 0 ≤ (if f_X4_mayBe σ x k a b = 0 then (0 : Int32) else 1).toInt ∧ (if f_X4_mayBe σ x k a b = 0 then (0 : Int32) else 1).toInt ≤ 1 := ite_ind (P := fun z : Int32 => 0 ≤ z.toInt ∧ z.toInt ≤ 1) (fun _ => by decide) (fun _ => by decide)
      refine ih _ _ (by omega) (by omega) ?_ ?_
      all_goals rw [u2_self, a_toInt (by omega) (by omega)]; omega
theorem nk_laysHours_83 {a b d x : Int32} {j : Nat} (hj : j ≠ ix x) : ∀ (n : Nat) (k : Int32) (σ : St), lp_X4_laysHours_83 a b d x n k σ 13 j = σ 13 j := by
  intro n
  induction n with
  | zero => intro k σ; rfl
  | succ n ih =>
    intro k σ
    rw [lp_X4_laysHours_83]
    by_cases h : 10 ≤ k
    · rw [if_pos h]
    · rw [if_neg h, ih, u2_nk hj]
theorem le_laysHours_59 {a b d : Int32} (hd : ¬ d = 0) : ∀ (n : Nat) (k : Int32) (σ : St), (σ 0 1).toInt ≤ 8 → 0 ≤ k.toInt → k.toInt ≤ 8 → 8 - k.toInt < n → (∀ y : Nat, (y : Int) < k.toInt → 0 ≤ (σ 13 y).toInt ∧ (σ 13 y).toInt ≤ 10) → ∀ y : Nat, (y : Int) < (σ 0 1).toInt → 0 ≤ (lp_X4_laysHours_59 a b d n k σ 13 y).toInt ∧ (lp_X4_laysHours_59 a b d n k σ 13 y).toInt ≤ 10 := by
  intro n
  induction n with
  | zero => intro k σ h0 h1 h2 h3; omega
  | succ n ih =>
    intro k σ h0 h1 h2 h3 h4 y hy
    rw [lp_X4_laysHours_59]
    by_cases h : σ 0 1 ≤ k
    · rw [if_pos h]
      have := qt_le h
      exact h4 y (by omega)
    · rw [if_neg h, if_neg hd]
      have h5 := qt_nle h
      have h6 := inc_toInt (a := k) (by omega) (by omega)
      have e : lp_X4_laysHours_83 a b d k 200 0 (u2 σ 13 (ix k) 0) 0 1 = σ 0 1 := by rw [fr_laysHours_83 (by omega), u2_nc (by omega)]
      refine ih _ _ (by rw [e]; exact h0) (by omega) (by omega) (by omega) (fun z hz => ?_) y (by rw [e]; exact hy)
      by_cases hzk : z = ix k
      · subst hzk
        exact le_laysHours_83 200 0 _ (by decide) (by decide) (by rw [u2_self]; decide) (by rw [u2_self]; decide)
      · rw [nk_laysHours_83 hzk, u2_nk hzk]
        have := ix_toInt h1
        exact h4 z (by omega)
theorem lh_le {σ : St} {w f : Int32} (h0 : OkM (f_X4_laysHours σ w f).2) (h : ¬ (f_X4_laysHours σ w f).1 = 0) : ∀ y : Nat, (y : Int) < ((f_X4_laysHours σ w f).2 0 1).toInt → 0 ≤ ((f_X4_laysHours σ w f).2 13 y).toInt ∧ ((f_X4_laysHours σ w f).2 13 y).toInt ≤ 10 := by
  have e : (f_X4_laysHours σ w f).2 0 1 = σ 0 1 := by rw [fr_X4_laysHours (by omega)]
  rw [e]
  have z0 : (0 : Int32).toInt = 0 := by decide
  refine le_laysHours_59 h 200 0 σ (by rw [← e]; exact h0.1.2) (by decide) (by decide) (by rw [z0]; omega) (fun y hy => ?_)
  omega
theorem ok_X4_readsSign_79 {a b d : Int32} : ∀ (n : Nat) (k : Int32) (σ : St), OkM σ → (match lp_X4_readsSign_79 a b d n k σ with | Sum.inl r => OkM r.2 | Sum.inr S => OkM S) := by
  intro n
  induction n with
  | zero => intro k σ h; exact h
  | succ n ih =>
    intro k σ h
    rw [lp_X4_readsSign_79]
    refine ite_ind (P := fun z : (Int32 × St) ⊕ St => match z with | Sum.inl r => OkM r.2 | Sum.inr S => OkM S) (fun _ => h) (fun _ => ?_)
    refine ite_ind (P := fun z : (Int32 × St) ⊕ St => match z with | Sum.inl r => OkM r.2 | Sum.inr S => OkM S) (fun _ => h) (fun _ => ih _ _ ?_)
    exact okM_obj (by decide) (okM_scr (by unfold scrM; omega) h)
/-- a letter's stretch of readsSign: the digits, then the count -/
def rsTail (N : Nat) (p1 p2 L : Int32) (S : St) : Int32 × St :=
  (match (lp_X4_readsSign_79 p1 p2 L N 0 S) with | Sum.inl r => r | Sum.inr S_79e => (1, (u2 (u2 S_79e 4 (ix (S_79e 0 8)) (if L = 112 then 0 else (if L = 102 then 1 else 2))) 0 8 (((u2 S_79e 4 (ix (S_79e 0 8)) (if L = 112 then 0 else (if L = 102 then 1 else 2))) 0 8) + 1))))
/-- the letter at readAt, then the rest -/
def rsLetter (N : Nat) (p1 p2 : Int32) (S : St) : Int32 × St :=
  if f_X4_codeAt S p1 p2 = 112 ∨ f_X4_codeAt S p1 p2 = 102 ∨ f_X4_codeAt S p1 p2 = 115 then rsTail N p1 p2 (f_X4_codeAt S p1 p2) (u2 S 0 7 ((S 0 7) + 1)) else (0, S)
theorem or3 {α : Type} {a b c : Prop} [Decidable a] [Decidable b] [Decidable c] {x y : α} : (if a then x else if b then x else if c then x else y) = if a ∨ b ∨ c then x else y := by
  by_cases h1 : a
  · rw [if_pos h1, if_pos (Or.inl h1)]
  · by_cases h2 : b
    · rw [if_neg h1, if_pos h2, if_pos (Or.inr (Or.inl h2))]
    · by_cases h3 : c
      · rw [if_neg h1, if_neg h2, if_pos h3, if_pos (Or.inr (Or.inr h3))]
      · rw [if_neg h1, if_neg h2, if_neg h3, if_neg (by simp [h1, h2, h3])]
theorem rsLetter_eq {N : Nat} {p1 p2 : Int32} {S : St} : rsLetter N p1 p2 S = if f_X4_codeAt S p1 p2 = 112 then rsTail N p1 p2 (f_X4_codeAt S p1 p2) (u2 S 0 7 ((S 0 7) + 1)) else if f_X4_codeAt S p1 p2 = 102 then rsTail N p1 p2 (f_X4_codeAt S p1 p2) (u2 S 0 7 ((S 0 7) + 1)) else if f_X4_codeAt S p1 p2 = 115 then rsTail N p1 p2 (f_X4_codeAt S p1 p2) (u2 S 0 7 ((S 0 7) + 1)) else (0, S) := by
  unfold rsLetter
  exact or3.symm
theorem readsSign_eq {σ : St} {p1 p2 : Int32} : f_X4_readsSign σ p1 p2 = if σ 0 8 ≤ 0 then rsLetter 200 p1 p2 σ else if σ 0 8 = 8 then (0, σ) else if f_X4_codeAt σ p1 p2 = 59 then rsLetter 200 p1 p2 (u2 σ 0 7 ((σ 0 7) + 1)) else (0, σ) := by
  rw [rsLetter_eq, rsLetter_eq]
  unfold f_X4_readsSign rsTail
  generalize (200 : Nat) = N
  rfl
theorem ok_rsTail {N : Nat} {p1 p2 L : Int32} {S : St} (h : OkM S) : OkM (rsTail N p1 p2 L S).2 := by
  unfold rsTail
  have h1 := ok_X4_readsSign_79 (a := p1) (b := p2) (d := L) N 0 S h
  generalize lp_X4_readsSign_79 p1 p2 L N 0 S = z at h1 ⊢
  cases z with
  | inl r => exact h1
  | inr S => exact okM_obj (by decide) (okM_scr (by unfold scrM; omega) h1)
theorem ok_rsLetter {N : Nat} {p1 p2 : Int32} {S : St} (h : OkM S) : OkM (rsLetter N p1 p2 S).2 := by
  unfold rsLetter
  exact ite_ind (P := fun z : Int32 × St => OkM z.2) (fun _ => ok_rsTail (okM_obj (by decide) h)) (fun _ => h)
theorem ok_X4_readsSign {σ : St} {f n : Int32} (h : OkM σ) : OkM (f_X4_readsSign σ f n).2 := by
  rw [readsSign_eq]
  refine ite_ind (P := fun z : Int32 × St => OkM z.2) (fun _ => ok_rsLetter h) (fun _ => ?_)
  refine ite_ind (P := fun z : Int32 × St => OkM z.2) (fun _ => h) (fun _ => ?_)
  exact ite_ind (P := fun z : Int32 × St => OkM z.2) (fun _ => ok_rsLetter (okM_obj (by decide) h)) (fun _ => h)
theorem ok_readsRegister_12 {f m : Int32} : ∀ (n : Nat) (x : Int32) (σ : St), OkM σ → OkM (lp_X4_readsRegister_12 f m n x σ).2 := by
  intro n
  induction n with
  | zero => intro x σ h; exact h
  | succ n ih =>
    intro x σ h
    rw [lp_X4_readsRegister_12]
    refine ite_ind (P := fun z : Int32 × St => OkM z.2) (fun _ => h) (fun _ => ?_)
    refine ite_ind (P := fun z : Int32 × St => OkM z.2) (fun _ => ih _ _ (ok_X4_readsSign h)) (fun _ => ?_)
    exact ite_ind (P := fun z : Int32 × St => OkM z.2) (fun _ => h) (fun _ => ih _ _ (ok_X4_readsSign h))
theorem readsRegister_eq {σ : St} {f n : Int32} : f_X4_readsRegister σ f n = lp_X4_readsRegister_12 f n 200 1 (u2 (u2 σ 0 7 0) 0 8 0) := by
  unfold f_X4_readsRegister
  generalize lp_X4_readsRegister_12 f n 200 1 (u2 (u2 σ 0 7 0) 0 8 0) = z
  cases z
  rfl
theorem ok_X4_readsRegister {σ : St} {f n : Int32} (h : OkM σ) : OkM (f_X4_readsRegister σ f n).2 := by
  rw [readsRegister_eq]
  exact ok_readsRegister_12 _ _ _ (okM_obj (by decide) (okM_obj (by decide) h))
theorem rs_79 {a b d : Int32} : ∀ (n : Nat) (k : Int32) (σ : St), 0 ≤ k.toInt → k.toInt ≤ 9 → 0 ≤ (σ 0 7).toInt → (σ 0 7).toInt + (9 - k.toInt) ≤ 1000 → (match lp_X4_readsSign_79 a b d n k σ with | Sum.inl r => r.1 = 0 | Sum.inr S => S 0 8 = σ 0 8 ∧ 0 ≤ (S 0 7).toInt ∧ (S 0 7).toInt ≤ (σ 0 7).toInt + (9 - k.toInt)) := by
  intro n
  induction n with
  | zero => intro k σ h0 h1 h2 h3; exact ⟨rfl, h2, by show (σ 0 7).toInt ≤ _; omega⟩
  | succ n ih =>
    intro k σ h0 h1 h2 h3
    rw [lp_X4_readsSign_79]
    by_cases h4 : 9 ≤ k
    · rw [if_pos h4]; exact ⟨rfl, h2, by omega⟩
    rw [if_neg h4]
    have h5 := qt_nle h4
    have z9 : (9 : Int32).toInt = 9 := by decide
    by_cases h6 : f_X4_in (f_X4_codeAt σ a b - 48).toInt64 0 9 = 0
    · rw [if_pos h6]
    rw [if_neg h6]
    have h7 := inc_toInt (a := k) (by omega) (by omega)
    have h8 := inc_toInt (a := σ 0 7) (by omega) (by omega)
    have e7 : (u2 σ 5 (ix (9 * σ 0 8 + k)) (f_X4_codeAt σ a b - 48)) 0 7 = σ 0 7 := u2_o (by decide) 7
    have h := ih (k + 1) (u2 (u2 σ 5 (ix (9 * σ 0 8 + k)) (f_X4_codeAt σ a b - 48)) 0 7 ((u2 σ 5 (ix (9 * σ 0 8 + k)) (f_X4_codeAt σ a b - 48)) 0 7 + 1)) (by omega) (by omega) (by rw [u2_self, e7]; omega) (by rw [u2_self, e7]; omega)
    generalize lp_X4_readsSign_79 a b d n (k + 1) _ = z at h ⊢
    cases z with
    | inl r => exact h
    | inr S =>
      rw [u2_nk (by decide), u2_o (by decide), u2_self, e7] at h
      exact ⟨h.1, h.2.1, by omega⟩
theorem rs_letter {N : Nat} {p1 p2 : Int32} {S : St} (h0 : 0 ≤ (S 0 7).toInt) (h1 : (S 0 7).toInt ≤ 900) : (rsLetter N p1 p2 S).1 = 0 ∨ ((rsLetter N p1 p2 S).1 = 1 ∧ (rsLetter N p1 p2 S).2 0 8 = S 0 8 + 1 ∧ 0 ≤ ((rsLetter N p1 p2 S).2 0 7).toInt ∧ ((rsLetter N p1 p2 S).2 0 7).toInt ≤ (S 0 7).toInt + 10) := by
  have T : ∀ L : Int32, (rsTail N p1 p2 L (u2 S 0 7 (S 0 7 + 1))).1 = 0 ∨ ((rsTail N p1 p2 L (u2 S 0 7 (S 0 7 + 1))).1 = 1 ∧ (rsTail N p1 p2 L (u2 S 0 7 (S 0 7 + 1))).2 0 8 = S 0 8 + 1 ∧ 0 ≤ ((rsTail N p1 p2 L (u2 S 0 7 (S 0 7 + 1))).2 0 7).toInt ∧ ((rsTail N p1 p2 L (u2 S 0 7 (S 0 7 + 1))).2 0 7).toInt ≤ (S 0 7).toInt + 10) := by
    intro L
    have h2 := inc_toInt (a := S 0 7) h0 (by omega)
    have z0 : (0 : Int32).toInt = 0 := by decide
    have h := rs_79 (a := p1) (b := p2) (d := L) N 0 (u2 S 0 7 (S 0 7 + 1)) (by decide) (by decide) (by rw [u2_self]; omega) (by rw [u2_self]; omega)
    unfold rsTail
    generalize lp_X4_readsSign_79 p1 p2 L N 0 (u2 S 0 7 (S 0 7 + 1)) = z at h ⊢
    cases z with
    | inl r => exact Or.inl h
    | inr Z =>
      rw [u2_nk (by decide), u2_self] at h
      refine Or.inr ⟨rfl, ?_, ?_, ?_⟩
      · dsimp only
        rw [u2_self, u2_o (by decide), h.1]
      · dsimp only
        rw [u2_nk (by decide), u2_o (by decide)]
        exact h.2.1
      · dsimp only at h ⊢
        rw [u2_nk (by decide), u2_o (by decide)]
        omega
  unfold rsLetter
  exact ite_ind (P := fun z : Int32 × St => z.1 = 0 ∨ (z.1 = 1 ∧ z.2 0 8 = S 0 8 + 1 ∧ 0 ≤ (z.2 0 7).toInt ∧ (z.2 0 7).toInt ≤ (S 0 7).toInt + 10)) (fun _ => T _) (fun _ => Or.inl rfl)
theorem rs_or {σ : St} {f n : Int32} (hq : (0 ≤ (σ 0 8).toInt ∧ (σ 0 8).toInt ≤ 8) ∧ (0 ≤ (σ 0 7).toInt ∧ (σ 0 7).toInt ≤ 11 * (σ 0 8).toInt)) : ((f_X4_readsSign σ f n).1 = 0 ∨ ((0 ≤ ((f_X4_readsSign σ f n).2 0 8).toInt ∧ ((f_X4_readsSign σ f n).2 0 8).toInt ≤ 8) ∧ (0 ≤ ((f_X4_readsSign σ f n).2 0 7).toInt ∧ ((f_X4_readsSign σ f n).2 0 7).toInt ≤ 11 * ((f_X4_readsSign σ f n).2 0 8).toInt))) ∧ (¬ (f_X4_readsSign σ f n).1 = 0 → ((f_X4_readsSign σ f n).2 0 8).toInt = (σ 0 8).toInt + 1) ∧ ((f_X4_readsSign σ f n).1 = 0 ∨ (f_X4_readsSign σ f n).1 = 1) := by
  have P0 : ∀ S : St, (((0 : Int32), S).1 = 0 ∨ ((0 ≤ (((0 : Int32), S).2 0 8).toInt ∧ (((0 : Int32), S).2 0 8).toInt ≤ 8) ∧ (0 ≤ (((0 : Int32), S).2 0 7).toInt ∧ (((0 : Int32), S).2 0 7).toInt ≤ 11 * (((0 : Int32), S).2 0 8).toInt))) ∧ (¬ ((0 : Int32), S).1 = 0 → (((0 : Int32), S).2 0 8).toInt = (σ 0 8).toInt + 1) ∧ (((0 : Int32), S).1 = 0 ∨ ((0 : Int32), S).1 = 1) := fun S => ⟨Or.inl rfl, fun h => absurd rfl h, Or.inl rfl⟩
  have PL : ∀ (S : St), S 0 8 = σ 0 8 → (σ 0 8).toInt ≤ 7 → 0 ≤ (S 0 7).toInt → (S 0 7).toInt ≤ 11 * (σ 0 8).toInt + 1 → ((rsLetter 200 f n S).1 = 0 ∨ ((0 ≤ ((rsLetter 200 f n S).2 0 8).toInt ∧ ((rsLetter 200 f n S).2 0 8).toInt ≤ 8) ∧ (0 ≤ ((rsLetter 200 f n S).2 0 7).toInt ∧ ((rsLetter 200 f n S).2 0 7).toInt ≤ 11 * ((rsLetter 200 f n S).2 0 8).toInt))) ∧ (¬ (rsLetter 200 f n S).1 = 0 → ((rsLetter 200 f n S).2 0 8).toInt = (σ 0 8).toInt + 1) ∧ ((rsLetter 200 f n S).1 = 0 ∨ (rsLetter 200 f n S).1 = 1) := by
    intro S e h0 h1 h2
    have h3 := inc_toInt (a := σ 0 8) hq.1.1 (by omega)
    rcases rs_letter (p1 := f) (p2 := n) (S := S) h1 (by omega) with h | ⟨h, h4, h5, h6⟩
    · exact ⟨Or.inl h, fun q => absurd h q, Or.inl h⟩
    · rw [e] at h4
      rw [h4, h3]
      exact ⟨Or.inr ⟨⟨by omega, by omega⟩, h5, by omega⟩, fun _ => rfl, Or.inr h⟩
  rw [readsSign_eq]
  generalize (200 : Nat) = N at PL ⊢
  by_cases h1 : σ 0 8 ≤ 0
  · rw [if_pos h1]
    have h2 := qt_le h1
    have z0 : (0 : Int32).toInt = 0 := by decide
    exact PL σ rfl (by omega) hq.2.1 (by omega)
  rw [if_neg h1]
  by_cases h2 : σ 0 8 = 8
  · rw [if_pos h2]; exact P0 σ
  rw [if_neg h2]
  have h3 := qt_ne h2
  have z8 : (8 : Int32).toInt = 8 := by decide
  by_cases h4 : f_X4_codeAt σ f n = 59
  · rw [if_pos h4]
    have h5 := inc_toInt (a := σ 0 7) hq.2.1 (by omega)
    exact PL _ (u2_nk (by decide)) (by omega) (by rw [u2_self]; omega) (by rw [u2_self]; omega)
  · rw [if_neg h4]; exact P0 σ
theorem rr_12 {f m : Int32} : ∀ (n : Nat) (x : Int32) (σ : St), (x = 0 ∨ ((0 ≤ (σ 0 8).toInt ∧ (σ 0 8).toInt ≤ 8) ∧ (0 ≤ (σ 0 7).toInt ∧ (σ 0 7).toInt ≤ 11 * (σ 0 8).toInt))) → ¬ (lp_X4_readsRegister_12 f m n x σ).1 = 0 → 0 ≤ ((lp_X4_readsRegister_12 f m n x σ).2 0 8).toInt ∧ ((lp_X4_readsRegister_12 f m n x σ).2 0 8).toInt ≤ 8 := by
  intro n
  induction n with
  | zero => intro x σ h h1; exact (h.resolve_left h1).1
  | succ n ih =>
    intro x σ h
    rw [lp_X4_readsRegister_12]
    by_cases h1 : x = 0
    · rw [if_pos h1]; exact fun q => absurd h1 q
    rw [if_neg h1]
    have hq := h.resolve_left h1
    have h2 := rs_or (f := f) (n := m) hq
    refine ite_ind (P := fun z : Int32 × St => ¬ z.1 = 0 → 0 ≤ (z.2 0 8).toInt ∧ (z.2 0 8).toInt ≤ 8) (fun _ => ih _ _ h2.1) (fun _ => ?_)
    exact ite_ind (P := fun z : Int32 × St => ¬ z.1 = 0 → 0 ≤ (z.2 0 8).toInt ∧ (z.2 0 8).toInt ≤ 8) (fun _ _ => hq.1) (fun _ => ih _ _ h2.1)
theorem rr_le {σ : St} {f n : Int32} (h : ¬ (f_X4_readsRegister σ f n).1 = 0) : 0 ≤ ((f_X4_readsRegister σ f n).2 0 8).toInt ∧ ((f_X4_readsRegister σ f n).2 0 8).toInt ≤ 8 := by
  rw [readsRegister_eq] at h ⊢
  refine rr_12 200 1 _ (Or.inr ?_) h
  rw [u2_self, u2_nk (by decide), u2_self]
  decide

