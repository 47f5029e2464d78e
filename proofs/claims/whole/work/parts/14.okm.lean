/-! the same of the check -/
theorem bf_in_n {v l h : Int64} (q : ¬ f_X4_in v l h = 0) : l.toInt ≤ v.toInt ∧ v.toInt ≤ h.toInt := sorry
theorem bo_X4_in {v l h : Int64} : f_X4_in v l h = 0 ∨ f_X4_in v l h = 1 := sorry
theorem in3_or {p : Int32} : f_X4_in p.toInt64 0 3 = 0 ∨ (0 ≤ p.toInt ∧ p.toInt ≤ 3) := sorry
theorem bf_noSign_z {σ : St} {x : Int32} (h : f_X4_noSign σ x = 0) : 0 ≤ x.toInt ∧ x.toInt < (σ 0 1).toInt := sorry
theorem bf_noPaper_z {σ : St} {x : Int32} (h : f_X4_noPaper σ x = 0) : 0 ≤ x.toInt ∧ x.toInt < (σ 0 11).toInt := sorry
theorem bf_noSmell_z {x : Int32} (h : f_X4_noSmell x = 0) : 0 ≤ x.toInt ∧ x.toInt < 9 := sorry
theorem bf_noSheet_z {x : Int32} (h : f_X4_noSheet x = 0) : 0 ≤ x.toInt ∧ x.toInt < 4 := sorry
theorem bf_areTwo_n {σ : St} {x y : Int32} (h : ¬ f_X4_areTwo σ x y = 0) : (0 ≤ x.toInt ∧ x.toInt < (σ 0 1).toInt) ∧ (0 ≤ y.toInt ∧ y.toInt < (σ 0 1).toInt) ∧ x ≠ y := sorry
theorem bf_isBeyond_z {i a : Int32} {n : Int64} (h : f_X4_isBeyond i n a = 0) : 0 ≤ i.toInt ∧ 0 ≤ n.toInt ∧ (n.toInt < 4294967296 → i.toInt + n.toInt ≤ a.toInt) := sorry
theorem br_z {σ : St} {k lane i : Int32} {n : Int64} (h : 0 ≤ (f_X4_barred σ k lane i n).1) : (0 ≤ k.toInt ∧ k.toInt < 4) ∧ (0 ≤ i.toInt ∧ 0 ≤ n.toInt ∧ (n.toInt < 4294967296 → i.toInt + n.toInt ≤ (σ 14 (ix k)).toInt)) := sorry
theorem fo_X4_barred {σ : St} {k lane i : Int32} {n : Int64} {j : Nat} (hj : j ≠ 0) : (f_X4_barred σ k lane i n).2 0 j = σ 0 j := sorry
theorem ok_X4_barred {σ : St} {k lane i : Int32} {n : Int64} (h : OkM σ) : OkM (f_X4_barred σ k lane i n).2 := sorry
theorem nc_z {σ : St} {k i : Int32} (h : f_X4_noCell σ k i ≤ 0) : 0 ≤ i.toInt ∧ i.toInt < (σ 14 (ix k)).toInt := sorry
theorem lgc_ne {x y : Int64} (h : ¬ lg_cmp x y = 0) : x.toInt ≠ y.toInt := sorry
theorem lgc_eq {x y : Int64} (h : lg_cmp x y = 0) : x.toInt = y.toInt := sorry
theorem nzl_of {b : Int64} (h : 0 < b.toInt) : ¬ b = 0 := fun q => by rw [q] at h; exact absurd h (by decide)
theorem lrem_in {a b : Int64} (h0 : 0 ≤ a.toInt ∧ a.toInt ≤ 100) (h1 : 0 < b.toInt ∧ b.toInt ≤ 100) : 0 ≤ (a - a / b * b).toInt ∧ (a - a / b * b).toInt < b.toInt := sorry
theorem dv_ge {a b : Int32} (h : -1000 ≤ a.toInt) (hb : 1 ≤ b.toInt) : -1000 ≤ (a / b).toInt := sorry
theorem gr_in {a b : Int32} (ha : 0 ≤ a.toInt ∧ a.toInt < (8 : Nat)) (hb : 0 ≤ b.toInt ∧ b.toInt < (8 : Nat)) : 0 ≤ (f_X4_greater a b).toInt ∧ (f_X4_greater a b).toInt < 8 := sorry
theorem shr1 {a : Int32} (h : 0 < a.toInt) : (a >>> ((1 : Int32) &&& 31)).toInt = a.toInt / 2 := sorry
def HSM (σ : St) (f n : Int32) : Prop := ∀ k : Int32, 0 ≤ k.toInt → k.toInt < n.toInt → vp_in (f + 2 * k) 360 ∧ vp_in (f + 2 * k + 1) 360 ∧ vp_in (σ 16 (ix (f + 2 * k))) 9
theorem hsm_0 {σ : St} {f : Int32} : HSM σ f 0 := by
  intro k h0 h1
  have h2 : (0 : Int32).toInt = 0 := by decide
  exact absurd h1 (by omega)
theorem hsm_step {σ : St} {f v : Int32} (h : HSM σ f v) (hv : (v + 1).toInt = v.toInt + 1) (a : vp_in (f + 2 * v) 360) (b : vp_in (f + 2 * v + 1) 360) (c : vp_in (σ 16 (ix (f + 2 * v))) 9) : HSM σ f (v + 1) := fun k h0 h1 => by
  by_cases hk : k.toInt < v.toInt
  · exact h k h0 hk
  · have e : k = v := qm_eq (by omega)
    subst e
    exact ⟨a, b, c⟩
theorem hsm_congr {σ τ : St} {f n : Int32} (e : τ 16 = σ 16) (h : HSM σ f n) : HSM τ f n := fun k h0 h1 => by
  rw [e]
  exact h k h0 h1
theorem bo_X4_isTaken {σ : St} {y : Int32} : f_X4_isTaken σ y = 0 ∨ f_X4_isTaken σ y = 1 := sorry
theorem fr_X4_forges {σ : St} {x y f n s : Int32} {c : Nat} (hc : c ≠ 12) : (f_X4_forges σ x y f n s).2 c = σ c := sorry
theorem ok_X4_forges {σ : St} {x y f n s : Int32} (h : OkM σ) : OkM (f_X4_forges σ x y f n s).2 := sorry
theorem hw_le {h w : Int32} (a : 0 ≤ h.toInt ∧ h.toInt ≤ 9) (b : 0 ≤ w.toInt ∧ w.toInt ≤ 3) : 0 ≤ (h + h * w).toInt ∧ (h + h * w).toInt ≤ 99 := sorry
theorem fr_X4_laysHours {σ : St} {w f : Int32} {c : Nat} (hc : c ≠ 13) : (f_X4_laysHours σ w f).2 c = σ c := sorry
theorem ok_X4_laysHours {σ : St} {w f : Int32} (h : OkM σ) : OkM (f_X4_laysHours σ w f).2 := sorry
theorem lh_le {σ : St} {w f : Int32} (h : ¬ (f_X4_laysHours σ w f).1 = 0) : ∀ y : Nat, (y : Int) < ((f_X4_laysHours σ w f).2 0 1).toInt → 0 ≤ ((f_X4_laysHours σ w f).2 13 y).toInt ∧ ((f_X4_laysHours σ w f).2 13 y).toInt ≤ 10 := sorry
theorem rs_or {σ : St} {f n : Int32} (hq : (0 ≤ (σ 0 8).toInt ∧ (σ 0 8).toInt ≤ 8) ∧ (0 ≤ (σ 0 7).toInt ∧ (σ 0 7).toInt ≤ 11 * (σ 0 8).toInt)) : ((f_X4_readsSign σ f n).1 = 0 ∨ ((0 ≤ ((f_X4_readsSign σ f n).2 0 8).toInt ∧ ((f_X4_readsSign σ f n).2 0 8).toInt ≤ 8) ∧ (0 ≤ ((f_X4_readsSign σ f n).2 0 7).toInt ∧ ((f_X4_readsSign σ f n).2 0 7).toInt ≤ 11 * ((f_X4_readsSign σ f n).2 0 8).toInt))) ∧ (¬ (f_X4_readsSign σ f n).1 = 0 → ((f_X4_readsSign σ f n).2 0 8).toInt = (σ 0 8).toInt + 1) ∧ ((f_X4_readsSign σ f n).1 = 0 ∨ (f_X4_readsSign σ f n).1 = 1) := sorry
theorem ok_X4_readsRegister {σ : St} {f n : Int32} (h : OkM σ) : OkM (f_X4_readsRegister σ f n).2 := sorry
theorem rr_le {σ : St} {f n : Int32} (h : ¬ (f_X4_readsRegister σ f n).1 = 0) : 0 ≤ ((f_X4_readsRegister σ f n).2 0 8).toInt ∧ ((f_X4_readsRegister σ f n).2 0 8).toInt ≤ 8 := sorry
