/-! when the class's numbers and the check's tell the same -/
def isum (f : Nat → Int32) : Nat → Int32
  | 0 => 0
  | n + 1 => isum f n + f n
def Rsign (σ τ : St) (x : Nat) : Prop := σ (17 + x) 0 = τ 1 x ∧ (0 ≤ (τ 1 x).toInt ∧ (τ 1 x).toInt ≤ 2) ∧ σ (17 + x) 1 = isum (fun m => τ 2 (9 * x + m)) 9 ∧ ∀ m, m < 9 → σ (25 + x) m = τ 2 (9 * x + m) ∧ 0 ≤ (τ 2 (9 * x + m)).toInt ∧ (τ 2 (9 * x + m)).toInt ≤ 9
def Rpap (j : Nat) (σ τ : St) (p : Nat) : Prop := (σ (33 + p) 0 = τ 6 p ∧ σ (33 + p) 1 = τ 7 p ∧ σ (33 + p) 2 = τ 8 p ∧ σ (33 + p) 3 = τ 9 p ∧ σ (33 + p) 4 = τ 10 p ∧ σ (33 + p) 5 = τ 11 p) ∧ (0 ≤ (τ 6 p).toInt ∧ (τ 6 p).toInt < (τ 0 1).toInt) ∧ (0 ≤ (τ 7 p).toInt ∧ (τ 7 p).toInt < (τ 0 1).toInt) ∧ τ 6 p ≠ τ 7 p ∧ (0 ≤ (τ 8 p).toInt ∧ (τ 8 p).toInt ≤ (τ 0 2).toInt) ∧ (0 ≤ (τ 9 p).toInt ∧ (τ 9 p).toInt ≤ 9) ∧ (0 ≤ (τ 11 p).toInt ∧ (τ 11 p).toInt ≤ 9 * j)
def Rsh (σ τ : St) (k : Nat) : Prop := (σ (9 + k) 0 = 0 ∧ τ 14 k = -1) ∨ (σ (9 + k) 0 = 1 ∧ σ (9 + k) 2 = τ 14 k ∧ (0 ≤ (τ 14 k).toInt ∧ (τ 14 k).toInt ≤ 90) ∧ σ (9 + k) 1 = τ 15 k ∧ (0 ≤ (τ 15 k).toInt ∧ (τ 15 k).toInt ≤ 2) ∧ ∀ i : Nat, (i : Int) < (τ 14 k).toInt → σ (13 + k) i = τ 16 (90 * k + i))
def R (j : Nat) (σ τ : St) : Prop := OkC σ ∧ OkM τ ∧ (σ 0 4 = τ 0 1 ∧ σ 0 5 = τ 0 11 ∧ σ 0 6 = τ 0 2 ∧ σ 0 7 = τ 0 3 ∧ σ 0 8 = τ 0 24 ∧ σ 0 9 = τ 0 0) ∧ ((τ 0 1).toInt = 0 ∨ 2 ≤ (τ 0 1).toInt) ∧ (0 ≤ (τ 0 3).toInt ∧ (τ 0 3).toInt ≤ 999) ∧ (∀ x : Nat, (x : Int) < (τ 0 1).toInt → Rsign σ τ x) ∧ (∀ m, m < 9 → (τ 0 1).toInt ≠ 0 → σ 4 m = τ 3 m) ∧ (∀ p : Nat, (p : Int) < (τ 0 11).toInt → Rpap j σ τ p) ∧ (∀ k, k < 4 → Rsh σ τ k) ∧ ((τ 0 1).toInt ≠ 0 → σ 8 0 = -1 ∨ ∀ k : Int32, 0 ≤ k.toInt → k.toInt < 5 → σ 8 (ix k) = f_X4_fresh τ k)
theorem R_up {j : Nat} {σ τ : St} (h : R j σ τ) : R (j + 1) σ τ := by
  obtain ⟨a, b, c, d, e, f, g, i, k, l⟩ := h
  refine ⟨a, b, c, d, e, f, g, fun p hp => ?_, k, l⟩
  obtain ⟨p1, p2, p3, p4, p5, p6, p7⟩ := i p hp
  exact ⟨p1, p2, p3, p4, p5, p6, p7.1, by omega⟩
theorem R_0 : R 0 σC0 σM0 := by
  have z0 : (0 : Int32).toInt = 0 := by decide
  have z1 : (-1 : Int32).toInt = -1 := by decide
  have e6 : ∀ p, σM0 6 p = 0 := fun p => rfl
  have e7 : ∀ p, σM0 7 p = 0 := fun p => rfl
  have e8 : ∀ p, σM0 8 p = 0 := fun p => rfl
  have e01 : (σM0 0 1).toInt = 0 := by decide
  have e011 : (σM0 0 11).toInt = 0 := by decide
  refine ⟨?_, ?_, ⟨rfl, rfl, rfl, rfl, rfl, rfl⟩, Or.inl e01, by decide, fun x hx => ?_, fun m _ hm => absurd e01 hm, fun p hp => ?_, fun k hk => ?_, fun hm => absurd e01 hm⟩
  · refine ⟨by decide, by decide, fun j hj hm => absurd (show (σC0 0 4).toInt = 0 by decide) hm, fun q hq => ?_, fun p hp => ?_, by decide⟩
    · have e : σC0 (9 + q) 2 = 0 := rfl
      rw [e]; decide
    · have e : σC0 (33 + p) = fun _ => 0 := rfl
      rw [e]
      exact ⟨vpi (by decide) (by decide), vpi (by decide) (by decide)⟩
  · refine ⟨by decide, by decide, fun j hj hm => absurd e01 hm, fun q hq => ?_, fun p hp => ⟨by rw [e6]; exact vpi (by decide) (by decide), by rw [e7]; exact vpi (by decide) (by decide)⟩, by decide, fun p hp => by rw [e8]; decide, Or.inl e011⟩
    rcases (show q = 0 ∨ q = 1 ∨ q = 2 ∨ q = 3 by omega) with rfl | rfl | rfl | rfl <;> decide
  · omega
  · omega
  · refine Or.inl ⟨?_, ?_⟩
    · show σC0 (9 + k) 0 = 0
      rfl
    · rcases (show k = 0 ∨ k = 1 ∨ k = 2 ∨ k = 3 by omega) with rfl | rfl | rfl | rfl <;> decide
