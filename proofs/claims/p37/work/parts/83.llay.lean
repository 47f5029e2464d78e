/-! lay: what the law's rows and the first SHEET hold while SIGNS are laid -/
section LAY
variable {σ τ : St}
theorem gs_tab : ∀ x : Nat, x < 8 → ∀ k : Nat, k < 10 → ((6 ≤ nI x ↔ 6 ≤ x) ∧ (6 ≤ x → ix (10 * (nI x - 6) + nI k) = 10 * (x - 6) + k) ∧ (x < 6 → ix (10 * nI x + nI k) = 10 * x + k)) := by decide +kernel
theorem get_set {x y k j : Nat} {v : Int32} (hx : x < 8) (hy : y < 8) (hk : k < 10) (hj : j < 10) : f_L_get (f_L_set τ (nI x) (nI k) v) (nI y) (nI j) = if y = x ∧ j = k then v else f_L_get τ (nI y) (nI j) := by
  obtain ⟨a1, a2, a3⟩ := gs_tab x hx k hk
  obtain ⟨b1, b2, b3⟩ := gs_tab y hy j hj
  unfold f_L_get f_L_set
  by_cases cx : 6 ≤ x
  · rw [if_pos (a1.mpr cx), a2 cx]
    by_cases cy : 6 ≤ y
    · rw [if_pos (b1.mpr cy), if_pos (b1.mpr cy), b2 cy]
      by_cases e : y = x ∧ j = k
      · rw [if_pos e, e.1, e.2, u2_self]
      · rw [if_neg e, u2_nk (by omega)]
    · rw [if_neg (fun q => cy (b1.mp q)), if_neg (fun q => cy (b1.mp q)), u2_nc (by omega), if_neg (by omega)]
  · rw [if_neg (fun q => cx (a1.mp q)), a3 (by omega)]
    by_cases cy : 6 ≤ y
    · rw [if_pos (b1.mpr cy), if_pos (b1.mpr cy), u2_nc (by omega), if_neg (by omega)]
    · rw [if_neg (fun q => cy (b1.mp q)), if_neg (fun q => cy (b1.mp q)), b3 (by omega)]
      by_cases e : y = x ∧ j = k
      · rw [if_pos e, e.1, e.2, u2_self]
      · rw [if_neg e, u2_nk (by omega)]
theorem set_0 {x k : Nat} {v : Int32} : f_L_set τ (nI x) (nI k) v 0 = τ 0 := by
  unfold f_L_set
  split
  · rw [u2_nc (by omega)]
  · rw [u2_nc (by omega)]
theorem nI1 {k : Nat} : 1 + nI k = nI (k + 1) := by rw [Int32.add_comm]; exact n1
theorem get_w {p : Nat} {v x k : Int32} : f_L_get (u2 τ 0 p v) x k = f_L_get τ x k := by unfold f_L_get; rw [u2_nc (by omega), u2_nc (by omega)]
def Iv (σ τ : St) (N x : Nat) : Prop := OkC σ ∧ s0 σ ∧ s1 σ ∧ τ 0 0 = nI N ∧ τ 0 2 = 40 ∧ (0 < x → ∀ j, j < 9 → τ 0 (3 + j) = 5) ∧ Tx (σ 13) τ x
def Pt (σ τ : St) (x k : Nat) : Prop := (0 < x → σ 13 (11 * x - 1) = 59) ∧ (σ 13 (11 * x) = 112 ∨ σ 13 (11 * x) = 102 ∨ σ 13 (11 * x) = 115) ∧ f_X3_kindOf (σ 13 (11 * x)) = f_L_get τ (nI x) 0 ∧ ∀ j, j < k → σ 13 (11 * x + 1 + j) = 48 + f_L_get τ (nI x) (1 + nI j) ∧ 0 ≤ (f_L_get τ (nI x) (1 + nI j)).toInt ∧ (f_L_get τ (nI x) (1 + nI j)).toInt ≤ 9
theorem Iv.put {N x p : Nat} {v : Int32} (h : Iv σ τ N x) (hp : 11 * x ≤ p + 1) : Iv (u2 (u2 σ 0 9 0) 13 p v) τ N x := by
  obtain ⟨a, b, c, d, e, f, g⟩ := h
  refine ⟨okC_scr (show scrC 13 by unfold scrC; omega) (okC_obj (by omega) a), ?_, ?_, d, e, f, fun y hy => ?_⟩
  · unfold s0
    rw [u2_nc (by omega), u2_nc (by omega)]
    exact b
  · unfold s1
    rw [u2_nc (by omega), u2_nc (by omega)]
    exact c
  · have q := g y hy
    rw [u2_nk (show 11 * y ≠ p by omega), u2_nc (show (13 : Nat) ≠ 0 by omega)]
    refine ⟨fun y0 => by rw [u2_nk (by omega), u2_nc (by omega)]; exact q.1 y0, q.2.1, q.2.2.1, fun k hk => ?_⟩
    rw [u2_nk (by omega), u2_nc (show (13 : Nat) ≠ 0 by omega)]
    exact q.2.2.2 k hk
theorem Iv.set {N x k : Nat} {v : Int32} (h : Iv σ τ N x) (hx : x < 8) (hk : k < 10) : Iv σ (f_L_set τ (nI x) (nI k) v) N x := by
  obtain ⟨a, b, c, d, e, f, g⟩ := h
  refine ⟨a, b, c, by rw [set_0]; exact d, by rw [set_0]; exact e, fun x0 j hj => by rw [set_0]; exact f x0 j hj, fun y hy => ?_⟩
  have q := g y hy
  have g0 : f_L_get (f_L_set τ (nI x) (nI k) v) (nI y) 0 = f_L_get τ (nI y) 0 := by
    have e := get_set (τ := τ) (x := x) (y := y) (k := k) (j := 0) (v := v) hx (by omega) hk (by omega)
    rw [if_neg (by omega)] at e
    exact e
  have gk : ∀ j, j < 9 → f_L_get (f_L_set τ (nI x) (nI k) v) (nI y) (1 + nI j) = f_L_get τ (nI y) (1 + nI j) := fun j hj => by
    rw [nI1, get_set hx (by omega) hk (by omega), if_neg (by omega)]
  rw [g0]
  refine ⟨q.1, q.2.1, q.2.2.1, fun j hj => ?_⟩
  rw [gk j hj]
  exact q.2.2.2 j hj
theorem Iv.w {N x j : Nat} (h : Iv σ τ N x) (hj : j < 9) : Iv σ (u2 τ 0 (3 + j) 5) N x := by
  obtain ⟨a, b, c, d, e, f, g⟩ := h
  refine ⟨a, b, c, by rw [u2_nk (by omega)]; exact d, by rw [u2_nk (by omega)]; exact e, fun x0 i hi => ?_, fun y hy => ?_⟩
  · by_cases q : i = j
    · rw [q, u2_self]
    · rw [u2_nk (by omega)]; exact f x0 i hi
  · have q := g y hy
    rw [get_w]
    refine ⟨q.1, q.2.1, q.2.2.1, fun i hi => ?_⟩
    rw [get_w]
    exact q.2.2.2 i hi
theorem Pt.w {x k j : Nat} (h : Pt σ τ x k) : Pt σ (u2 τ 0 (3 + j) 5) x k := by
  obtain ⟨a, b, c, d⟩ := h
  refine ⟨a, b, by rw [get_w]; exact c, fun i hi => ?_⟩
  rw [get_w]
  exact d i hi
/-- one strength more -/
theorem Pt.step {x k : Nat} {v : Int32} (h : Pt σ τ x k) (hx : x < 8) (hk : k < 9) (v0 : 0 ≤ v.toInt) (v9 : v.toInt ≤ 9) : Pt (u2 (u2 σ 0 9 0) 13 (11 * x + 1 + k) (48 + v)) (f_L_set τ (nI x) (1 + nI k) v) x (k + 1) := by
  obtain ⟨a, b, c, d⟩ := h
  have g0 : f_L_get (f_L_set τ (nI x) (1 + nI k) v) (nI x) 0 = f_L_get τ (nI x) 0 := by
    have e := get_set (τ := τ) (x := x) (y := x) (k := k + 1) (j := 0) (v := v) hx hx (by omega) (by omega)
    rw [if_neg (by omega)] at e
    rw [nI1]
    exact e
  refine ⟨fun x0 => by rw [u2_nk (by omega), u2_nc (by omega)]; exact a x0, ?_, ?_, fun j hj => ?_⟩
  · rw [u2_nk (by omega), u2_nc (by omega)]; exact b
  · rw [g0, u2_nk (by omega), u2_nc (by omega)]; exact c
  · rw [nI1, nI1, get_set hx hx (by omega) (by omega)]
    by_cases q : j = k
    · rw [if_pos ⟨rfl, by omega⟩, q, u2_self]
      exact ⟨rfl, v0, v9⟩
    · rw [if_neg (by omega), u2_nk (by omega), u2_nc (by omega), ← nI1]
      exact d j (by omega)
/-- the letter, behind it no strength yet -/
theorem Pt.letter {x : Nat} {v t : Int32} (hx : x < 8) (hs : 0 < x → σ 13 (11 * x - 1) = 59) (ht : (t = 112 ∨ t = 102 ∨ t = 115) ∧ f_X3_kindOf t = v) : Pt (u2 (u2 σ 0 9 0) 13 (11 * x) t) (f_L_set τ (nI x) 0 v) x 0 := by
  have g0 : f_L_get (f_L_set τ (nI x) 0 v) (nI x) 0 = v := by
    have e := get_set (τ := τ) (x := x) (y := x) (k := 0) (j := 0) (v := v) hx hx (by omega) (by omega)
    rw [if_pos ⟨rfl, rfl⟩] at e
    exact e
  refine ⟨fun x0 => by rw [u2_nk (by omega), u2_nc (by omega)]; exact hs x0, by rw [u2_self]; exact ht.1, by rw [u2_self, g0]; exact ht.2, fun j hj => absurd hj (Nat.not_lt_zero _)⟩
theorem Iv.next {N x : Nat} (h : Iv σ τ N x) (hw : ∀ j, j < 9 → τ 0 (3 + j) = 5) (hp : Pt σ τ x 9) : Iv σ τ N (x + 1) := by
  obtain ⟨a, b, c, d, e, f, g⟩ := h
  refine ⟨a, b, c, d, e, fun _ => hw, fun y hy => ?_⟩
  by_cases q : y = x
  · rw [q]; exact hp
  · exact g y (by omega)
end LAY
/-- how many codes stand before SIGN x -/
def mx (x : Nat) : Int32 := if x = 0 then 0 else nI (11 * x - 1)
theorem mx_s {x : Nat} : mx (x + 1) = nI (11 * x + 10) := by
  unfold mx
  rw [if_neg (by omega), show 11 * (x + 1) - 1 = 11 * x + 10 by omega]
theorem mx_p {x : Nat} (h : 0 < x) : mx x = nI (11 * x - 1) := by
  unfold mx
  rw [if_neg (by omega)]
/-! the two SHEETS, anew -/
theorem okC_sh {σ : St} {r : Nat} {a n : Int32} (hr : r < 4) (h : OkC σ) (n0 : 0 ≤ n.toInt) (n1 : n.toInt ≤ 90) : OkC (f_X1_renew σ r a n) := by
  obtain ⟨x1, x2, x3, x4, x5, x6⟩ := h
  unfold f_X1_renew
  generalize fillF 90 0 (u2 (u2 (u2 σ (9 + r) 0 1) (9 + r) 1 a) (9 + r) 2 n (13 + r)) = f
  have e : ∀ c, c ≠ 13 + r → c ≠ 9 + r → u1 (u2 (u2 (u2 σ (9 + r) 0 1) (9 + r) 1 a) (9 + r) 2 n) (13 + r) f c = σ c := fun c c1 c2 => by
    rw [u1_ne _ c1, u2_nc c2, u2_nc c2, u2_nc c2]
  refine ⟨by rw [e 0 (by omega) (by omega)]; exact x1, by rw [e 0 (by omega) (by omega)]; exact x2, fun j hj hz => by rw [e 0 (by omega) (by omega)] at hz; rw [e 4 (by omega) (by omega)]; exact x3 j hj hz, fun q hq => ?_, fun p hp => by rw [e (33 + p) (by omega) (by omega)]; exact x5 p hp, by rw [e 0 (by omega) (by omega)]; exact x6⟩
  by_cases c : q = r
  · rw [c, u1_ne _ (by omega), u2_self]
    exact ⟨n0, n1⟩
  · rw [e (9 + q) (by omega) (by omega)]
    exact x4 q hq
theorem q_sheet0 {σ : St} (ok : OkC σ) : ∃ σ1, f_X3_sheet σ 0 0 90 = (1, σ1) ∧ OkC σ1 ∧ s0 σ1 := by
  refine ⟨f_X1_renew (u2 σ 0 9 0) 0 0 90, ?_, okC_sh (by omega) (okC_obj (by omega) ok) (by decide) (by decide), ?_⟩
  · unfold f_X3_sheet
    rw [if_neg (show ¬ f_X3_isSheet 0 = 0 by decide), if_neg (show ¬ f_X3_isLane 0 = 0 by decide), if_pos (by decide), if_pos (by decide)]
    rfl
  · unfold f_X1_renew s0
    rw [u1_ne _ (by omega)]
    exact ⟨by rw [u2_nk (by omega), u2_nk (by omega), u2_self], by rw [u2_nk (by omega), u2_self], u2_self _ _ _ _⟩
theorem q_sheet1 {σ : St} (ok : OkC σ) (h : s0 σ) : ∃ σ1, f_X3_sheet σ 1 1 24 = (1, σ1) ∧ OkC σ1 ∧ s0 σ1 ∧ s1 σ1 := by
  refine ⟨f_X1_renew (u2 σ 0 9 0) 1 1 24, ?_, okC_sh (by omega) (okC_obj (by omega) ok) (by decide) (by decide), ?_, ?_⟩
  · unfold f_X3_sheet
    rw [if_neg (show ¬ f_X3_isSheet 1 = 0 by decide), if_neg (show ¬ f_X3_isLane 1 = 0 by decide), if_pos (by decide), if_pos (by decide)]
    rfl
  · unfold f_X1_renew s0
    rw [u1_ne _ (by omega), u2_nc (by omega), u2_nc (by omega), u2_nc (by omega), u2_nc (by omega)]
    exact h
  · unfold f_X1_renew s1
    rw [u1_ne _ (by omega)]
    exact ⟨by rw [u2_nk (by omega), u2_nk (by omega), u2_self], by rw [u2_nk (by omega), u2_self], u2_self _ _ _ _⟩
theorem ok_C0 : OkC σC0 := by
  refine ⟨by decide, by decide, fun j hj hm => absurd (show (σC0 0 4).toInt = 0 by decide) hm, fun q hq => ?_, fun p hp => ?_, by decide⟩
  · have e : σC0 (9 + q) 2 = 0 := rfl
    rw [e]
    decide
  · have e : σC0 (33 + p) = fun _ => 0 := rfl
    rw [e]
    exact ⟨vpi (by decide) (by decide), vpi (by decide) (by decide)⟩
theorem low10 {v : Int32} : 0 ≤ (f_L_low v 10).toInt ∧ (f_L_low v 10).toInt ≤ 9 := by
  have q := low_lt (v := v) (n := 10) (z := 10) (by decide) (by decide)
  omega
