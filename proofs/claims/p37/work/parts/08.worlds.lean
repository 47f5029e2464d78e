/-! the class's world: cell 0 the object; 1, 2, 3 its rows of SHEETS, SIGNS, PAPERS; 4 .. 8 its rows of ints; 9 .. 12 SHEETS, 13 .. 16 their cells; 17 .. 24 SIGNS, 25 .. 32 their strengths; 33 .. 40 PAPERS -/
def fsO (ad : Nat → Nat) (f : Nat → Int32) : List Value := [.ref (ad 1), .ref (ad 2), .ref (ad 3), .ref (ad 4), .int (f 4), .int (f 5), .int (f 6), .int (f 7), .int (f 8), .int (f 9), .ref (ad 5), .ref (ad 6), .ref (ad 7), .ref (ad 8)]
def fsSh (ad : Nat → Nat) (q : Nat) (f : Nat → Int32) : List Value := [.int (f 0), .int (f 1), .int (f 2), .ref (ad (13 + q))]
def fsSg (ad : Nat → Nat) (x : Nat) (f : Nat → Int32) : List Value := [.int (f 0), .int (f 1), .ref (ad (25 + x))]
def fsPa (f : Nat → Int32) : List Value := [.int (f 0), .int (f 1), .int (f 2), .int (f 3), .int (f 4), .int (f 5)]
def eRefs (ad : Nat → Nat) (cA : ClassId) (N b : Nat) : va_E := .inl (cA, N, .inr (.inr (.inr (.inr (fun j => some (ad (b + j)))))))
def eC (ad : Nat → Nat) (c : Nat) (f : Nat → Int32) : va_E :=
  if c = 0 then .inr (3, fsO ad f)
  else if c = 1 then eRefs ad (ad 101) 4 9
  else if c = 2 then eRefs ad (ad 102) 8 17
  else if c = 3 then eRefs ad (ad 103) 8 33
  else if c < 7 then .inl (ad 100, 9, .inl f)
  else if c = 7 then .inl (ad 100, 8, .inl f)
  else if c = 8 then .inl (ad 100, 5, .inl f)
  else if c < 13 then .inr (1, fsSh ad (c - 9) f)
  else if c < 17 then .inl (ad 100, 90, .inl f)
  else if c < 25 then .inr (2, fsSg ad (c - 17) f)
  else if c < 33 then .inl (ad 100, 9, .inl f)
  else .inr (0, fsPa f)
theorem eC_0 (ad : Nat → Nat) (f : Nat → Int32) : eC ad 0 f = .inr (3, fsO ad f) := rfl
theorem eC_1 (ad : Nat → Nat) (f : Nat → Int32) : eC ad 1 f = .inl (ad 101, 4, .inr (.inr (.inr (.inr (fun j => some (ad (9 + j))))))) := rfl
theorem eC_2 (ad : Nat → Nat) (f : Nat → Int32) : eC ad 2 f = .inl (ad 102, 8, .inr (.inr (.inr (.inr (fun j => some (ad (17 + j))))))) := rfl
theorem eC_3 (ad : Nat → Nat) (f : Nat → Int32) : eC ad 3 f = .inl (ad 103, 8, .inr (.inr (.inr (.inr (fun j => some (ad (33 + j))))))) := rfl
theorem eC_4 (ad : Nat → Nat) (f : Nat → Int32) : eC ad 4 f = .inl (ad 100, 9, .inl f) := rfl
theorem eC_5 (ad : Nat → Nat) (f : Nat → Int32) : eC ad 5 f = .inl (ad 100, 9, .inl f) := rfl
theorem eC_6 (ad : Nat → Nat) (f : Nat → Int32) : eC ad 6 f = .inl (ad 100, 9, .inl f) := rfl
theorem eC_7 (ad : Nat → Nat) (f : Nat → Int32) : eC ad 7 f = .inl (ad 100, 8, .inl f) := rfl
theorem eC_8 (ad : Nat → Nat) (f : Nat → Int32) : eC ad 8 f = .inl (ad 100, 5, .inl f) := rfl
theorem eC_sh (ad : Nat → Nat) {q : Nat} (h : q < 4) (f : Nat → Int32) : eC ad (9 + q) f = .inr (1, fsSh ad q f) := by
  unfold eC
  rw [if_neg (by omega), if_neg (by omega), if_neg (by omega), if_neg (by omega), if_neg (by omega), if_neg (by omega), if_neg (by omega), if_pos (by omega), Nat.add_sub_cancel_left]
theorem eC_sc (ad : Nat → Nat) {q : Nat} (h : q < 4) (f : Nat → Int32) : eC ad (13 + q) f = .inl (ad 100, 90, .inl f) := by
  unfold eC
  rw [if_neg (by omega), if_neg (by omega), if_neg (by omega), if_neg (by omega), if_neg (by omega), if_neg (by omega), if_neg (by omega), if_neg (by omega), if_pos (by omega)]
theorem eC_sg (ad : Nat → Nat) {x : Nat} (h : x < 8) (f : Nat → Int32) : eC ad (17 + x) f = .inr (2, fsSg ad x f) := by
  unfold eC
  rw [if_neg (by omega), if_neg (by omega), if_neg (by omega), if_neg (by omega), if_neg (by omega), if_neg (by omega), if_neg (by omega), if_neg (by omega), if_neg (by omega), if_pos (by omega), Nat.add_sub_cancel_left]
theorem eC_st (ad : Nat → Nat) {x : Nat} (h : x < 8) (f : Nat → Int32) : eC ad (25 + x) f = .inl (ad 100, 9, .inl f) := by
  unfold eC
  rw [if_neg (by omega), if_neg (by omega), if_neg (by omega), if_neg (by omega), if_neg (by omega), if_neg (by omega), if_neg (by omega), if_neg (by omega), if_neg (by omega), if_neg (by omega), if_pos (by omega)]
theorem eC_pa (ad : Nat → Nat) {p : Nat} (h : p < 8) (f : Nat → Int32) : eC ad (33 + p) f = .inr (0, fsPa f) := by
  unfold eC
  rw [if_neg (by omega), if_neg (by omega), if_neg (by omega), if_neg (by omega), if_neg (by omega), if_neg (by omega), if_neg (by omega), if_neg (by omega), if_neg (by omega), if_neg (by omega), if_neg (by omega)]
/-- a row of nine strengths: a SIGN's, or the one that calls work in -/
def st9 (c : Nat) : Prop := c = 6 ∨ ∃ x, x < 8 ∧ c = 25 + x
theorem eC_9 (ad : Nat → Nat) {c : Nat} (h : st9 c) (f : Nat → Int32) : eC ad c f = .inl (ad 100, 9, .inl f) := by
  rcases h with rfl | ⟨x, hx, rfl⟩
  · rfl
  · exact eC_st ad hx f
theorem st9_lt {c : Nat} (h : st9 c) : c < 41 := by
  rcases h with rfl | ⟨x, hx, rfl⟩ <;> omega
def tyC (ad : Nat → Nat) : List (ClassId × FieldType) := [(ad 100, .int), (ad 101, .object "NineSmells$Sheet"), (ad 102, .object "NineSmells$Sign"), (ad 103, .object "NineSmells$Paper")]
theorem sO (ad : Nat → Nat) (f : Nat → Int32) (v : Int32) : ∀ k, (4 ≤ k ∧ k < 10) → eC ad 0 (upd f k v) = .inr (3, (fsO ad f).set k (.int v)) := by
  intro k hk
  rcases (show k = 4 ∨ k = 5 ∨ k = 6 ∨ k = 7 ∨ k = 8 ∨ k = 9 by omega) with rfl | rfl | rfl | rfl | rfl | rfl <;> rfl
theorem sSh (ad : Nat → Nat) {q : Nat} (h : q < 4) (f : Nat → Int32) (v : Int32) : ∀ k, k < 3 → eC ad (9 + q) (upd f k v) = .inr (1, (fsSh ad q f).set k (.int v)) := by
  intro k hk
  rw [eC_sh ad h]
  rcases (show k = 0 ∨ k = 1 ∨ k = 2 by omega) with rfl | rfl | rfl <;> rfl
theorem sSg (ad : Nat → Nat) {x : Nat} (h : x < 8) (f : Nat → Int32) (v : Int32) : ∀ k, k < 2 → eC ad (17 + x) (upd f k v) = .inr (2, (fsSg ad x f).set k (.int v)) := by
  intro k hk
  rw [eC_sg ad h]
  rcases (show k = 0 ∨ k = 1 by omega) with rfl | rfl <;> rfl
theorem sPa (ad : Nat → Nat) {p : Nat} (h : p < 8) (f : Nat → Int32) (v : Int32) : ∀ k, k < 6 → eC ad (33 + p) (upd f k v) = .inr (0, (fsPa f).set k (.int v)) := by
  intro k hk
  rw [eC_pa ad h]
  rcases (show k = 0 ∨ k = 1 ∨ k = 2 ∨ k = 3 ∨ k = 4 ∨ k = 5 by omega) with rfl | rfl | rfl | rfl | rfl | rfl <;> rfl
/-! what holds of the numbers at every time: no index is out of its row -/
def OkC (σ : St) : Prop := (0 ≤ (σ 0 4).toInt ∧ (σ 0 4).toInt ≤ 8) ∧ (0 ≤ (σ 0 5).toInt ∧ (σ 0 5).toInt ≤ 8) ∧ (∀ j, j < 9 → (σ 0 4).toInt ≠ 0 → 1 ≤ (σ 4 j).toInt ∧ (σ 4 j).toInt ≤ 9) ∧ (∀ q, q < 4 → 0 ≤ (σ (9 + q) 2).toInt ∧ (σ (9 + q) 2).toInt ≤ 90) ∧ (∀ p, p < 8 → vp_in (σ (33 + p) 0) 8 ∧ vp_in (σ (33 + p) 1) 8) ∧ (0 ≤ (σ 0 6).toInt ∧ (σ 0 6).toInt ≤ 99)
def scrC (c : Nat) : Prop := (5 ≤ c ∧ c ≤ 8) ∨ (13 ≤ c ∧ c < 33)
theorem okC_cell {σ τ : St} (h : OkC σ) (h0 : τ 0 4 = σ 0 4 ∧ τ 0 5 = σ 0 5 ∧ τ 0 6 = σ 0 6) (h4 : τ 4 = σ 4) (hs : ∀ q, q < 4 → τ (9 + q) 2 = σ (9 + q) 2) (hp : ∀ p, p < 8 → τ (33 + p) 0 = σ (33 + p) 0 ∧ τ (33 + p) 1 = σ (33 + p) 1) : OkC τ := by
  obtain ⟨a, b, c, d, e, f⟩ := h
  refine ⟨by rw [h0.1]; exact a, by rw [h0.2.1]; exact b, by rw [h4, h0.1]; exact c, fun q hq => by rw [hs q hq]; exact d q hq, fun p hp' => by rw [(hp p hp').1, (hp p hp').2]; exact e p hp', by rw [h0.2.2]; exact f⟩
theorem okC_scr {σ : St} {c : Nat} {f : Nat → Int32} (hc : scrC c) (h : OkC σ) : OkC (u1 σ c f) := by
  unfold scrC at hc
  exact okC_cell h ⟨by rw [u1_ne f (by omega)], by rw [u1_ne f (by omega)], by rw [u1_ne f (by omega)]⟩ (u1_ne f (by omega)) (fun q hq => by rw [u1_ne f (by omega)]) (fun p hp => by rw [u1_ne f (by omega)]; exact ⟨rfl, rfl⟩)
theorem u2_self (σ : St) (c k : Nat) (v : Int32) : u2 σ c k v c k = v := by
  unfold u2
  rw [u1_same, upd, if_pos rfl]
theorem u2_nk {σ : St} {c k j : Nat} {v : Int32} (h : j ≠ k) : u2 σ c k v c j = σ c j := by
  unfold u2
  rw [u1_same, upd, if_neg h]
theorem u2_nc {σ : St} {c c' k : Nat} {v : Int32} (h : c' ≠ c) : u2 σ c k v c' = σ c' := u1_ne _ h
theorem u2_o {σ : St} {c k : Nat} {v : Int32} (h : c ≠ 0) (j : Nat) : u2 σ c k v 0 j = σ 0 j := by rw [u2_nc (fun q => h q.symm)]
theorem okC_obj {σ : St} {k : Nat} {v : Int32} (hk : 7 ≤ k) (h : OkC σ) : OkC (u2 σ 0 k v) :=
  okC_cell h ⟨u2_nk (by omega), u2_nk (by omega), u2_nk (by omega)⟩ (u2_nc (by omega)) (fun q hq => by rw [u2_nc (by omega)]) (fun p hp => by rw [u2_nc (by omega)]; exact ⟨rfl, rfl⟩)
theorem okC_pa {σ : St} {p k : Nat} {v : Int32} (hk : 2 ≤ k) (h : OkC σ) : OkC (u2 σ (33 + p) k v) := by
  refine okC_cell h ⟨u2_o (by omega) _, u2_o (by omega) _, u2_o (by omega) _⟩ (u2_nc (by omega)) (fun q hq => by rw [u2_nc (by omega)]) (fun p' hp => ?_)
  by_cases e : 33 + p' = 33 + p
  · rw [e]
    exact ⟨u2_nk (by omega), u2_nk (by omega)⟩
  · rw [u2_nc e]
    exact ⟨rfl, rfl⟩
/-! more of toInt -/
theorem inc_toInt {a : Int32} (h0 : 0 ≤ a.toInt) (h : a.toInt < 2147483647) : (a + 1).toInt = a.toInt + 1 := by
  have h4 : (1 : Int32).toInt = 1 := by decide
  rw [a_toInt (by omega) (by omega), h4]
theorem dec_toInt {a : Int32} (h0 : -2147483648 < a.toInt) (h : a.toInt < 2147483648) : (a + (-1)).toInt = a.toInt - 1 := by
  have h4 : (-1 : Int32).toInt = -1 := by decide
  rw [a_toInt (by omega) (by omega), h4]
  omega
theorem mk_toInt {a k : Int32} {z : Int} (hk : k.toInt = z) (h1 : -2147483648 ≤ a.toInt * z) (h2 : a.toInt * z < 2147483648) : (a * k).toInt = a.toInt * z := by
  rw [x_toInt (by rw [hk]; exact h1) (by rw [hk]; exact h2), hk]
theorem km_toInt {a k : Int32} {z : Int} (hk : k.toInt = z) (h1 : -2147483648 ≤ z * a.toInt) (h2 : z * a.toInt < 2147483648) : (k * a).toInt = z * a.toInt := by
  rw [x_toInt (by rw [hk]; exact h1) (by rw [hk]; exact h2), hk]
theorem dv_le {a b : Int32} {z : Int} (hz : 0 ≤ z) (h : a.toInt ≤ z) (hb : 1 ≤ b.toInt) (h0 : -2147483648 < a.toInt) : (a / b).toInt ≤ z := by
  rw [Int32.toInt_div_of_ne_left _ _ (fun q => by rw [q] at h0; exact absurd h0 (by decide))]
  have h1 : a.toInt.tdiv b.toInt ≤ z := by
    rcases Int.le_total 0 a.toInt with q | q
    · exact Int.le_trans (Int.tdiv_le_self b.toInt q) h
    · have h2 : 0 ≤ (-a.toInt).tdiv b.toInt := Int.tdiv_nonneg (by omega) (by omega)
      rw [Int.neg_tdiv] at h2
      omega
  exact h1
theorem nz_of {b : Int32} (h : 1 ≤ b.toInt) : ¬ b = 0 := fun q => by rw [q] at h; exact absurd h (by decide)
/-! the law's rows: 0 what is told by how many, 1 and 2 the SIGNS, 3 what stoppers or a door leave, 4 the hours of each SIGN -/
def lenL (c : Nat) : Nat := [16, 60, 20, 9, 8].getD c 0
def eL (ad : Nat → Nat) (c : Nat) (f : Nat → Int32) : va_E := .inl (ad 100, lenL c, .inl f)
def tyL (ad : Nat → Nat) : List (ClassId × FieldType) := [(ad 100, .int)]
