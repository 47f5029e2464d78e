/-! the text of a register: where it goes on, and where it ends -/
/-- the code at a place goes on with a TEXT -/
def okp (G : Nat → Int32) (p : Int32) : Prop := ¬ f_X3_goesOn (G (ix p)) p = 0
def Good (G : Nat → Int32) (n e : Int32) : Prop := (0 ≤ e.toInt ∧ e.toInt ≤ n.toInt) ∧ ∀ p : Int32, 0 ≤ p.toInt → p.toInt < e.toInt → okp G p
def Whole (n : Int32) : Prop := n.toInt % 11 = 10 ∧ 1 ≤ n.toInt / 11
def Fail (G : Nat → Int32) (n e : Int32) : Prop := Good G n e ∧ (e.toInt < n.toInt → ¬ okp G e) ∧ (e.toInt = n.toInt → ¬ Whole n)
theorem Good.step {G : Nat → Int32} {n e : Int32} (h : Good G n e) (l : e.toInt < n.toInt) (o : okp G e) : Good G n (e + 1) := by
  have b := lb n
  have h1 := h.1
  have e1 := inc_toInt (a := e) h1.1 (by omega)
  refine ⟨by omega, fun p p0 p1 => ?_⟩
  by_cases q : p.toInt = e.toInt
  · rw [qm_eq q]; exact o
  · exact h.2 p p0 (by omega)
theorem kindOf_n {x : Int32} : f_X3_kindOf x < 0 ↔ ¬ (x = 112 ∨ x = 102 ∨ x = 115) := by
  unfold f_X3_kindOf
  by_cases c1 : x = 102
  · rw [if_pos c1]
    exact ⟨fun q => absurd q (by decide), fun q => absurd (Or.inr (Or.inl c1)) q⟩
  by_cases c2 : x = 112
  · rw [if_neg c1, if_pos c2]
    exact ⟨fun q => absurd q (by decide), fun q => absurd (Or.inl c2) q⟩
  by_cases c3 : x = 115
  · rw [if_neg c1, if_neg c2, if_pos c3]
    exact ⟨fun q => absurd q (by decide), fun q => absurd (Or.inr (Or.inr c3)) q⟩
  rw [if_neg c1, if_neg c2, if_neg c3]
  exact ⟨fun _ q => q.elim c2 (fun q => q.elim c1 c3), fun _ => by decide⟩
theorem kindOf_y {x : Int32} (h : x = 112 ∨ x = 102 ∨ x = 115) : (if x = 112 then (0 : Int32) else (if x = 102 then 1 else 2)) = f_X3_kindOf x ∧ 0 ≤ (f_X3_kindOf x).toInt ∧ (f_X3_kindOf x).toInt ≤ 2 := by
  rcases h with rfl | rfl | rfl <;> decide
theorem col {p : Int32} (h0 : 0 ≤ p.toInt) : (p - p / 11 * 11).toInt = p.toInt % 11 ∧ (p / 11).toInt = p.toInt / 11 := by
  have z11 : (11 : Int32).toInt = 11 := by decide
  have e1 := irem_toInt (a := p) (b := 11) h0 (by decide)
  have e2 := dv_toInt (a := p) (b := 11) h0 (by decide)
  rw [z11] at e1 e2
  exact ⟨e1, e2⟩
theorem ok_0 {x p : Int32} (h0 : 0 ≤ p.toInt) (hm : p.toInt % 11 = 0) : ¬ f_X3_goesOn x p = 0 ↔ (x = 112 ∨ x = 102 ∨ x = 115) := by
  have c := (col h0).1
  have z0 : (0 : Int32).toInt = 0 := by decide
  unfold f_X3_goesOn
  rw [if_pos (show p - p / 11 * 11 = 0 from qm_eq (by omega))]
  by_cases k : f_X3_kindOf x < 0
  · rw [if_pos k]
    exact ⟨fun q => absurd rfl q, fun q => absurd q (kindOf_n.mp k)⟩
  · rw [if_neg k]
    exact ⟨fun _ => Classical.byContradiction (fun q => k (kindOf_n.mpr q)), fun _ => by decide⟩
theorem ok_10 {x p : Int32} (h0 : 0 ≤ p.toInt) (hm : p.toInt % 11 = 10) : ¬ f_X3_goesOn x p = 0 ↔ (x = 59 ∧ p.toInt / 11 + 1 < 8) := by
  obtain ⟨c, d⟩ := col h0
  have z0 : (0 : Int32).toInt = 0 := by decide
  have z10 : (10 : Int32).toInt = 10 := by decide
  have z8 : (8 : Int32).toInt = 8 := by decide
  have bp := lb p
  have d1 := inc_toInt (a := p / 11) (by omega) (by omega)
  unfold f_X3_goesOn
  rw [if_neg (show ¬ p - p / 11 * 11 = 0 from fun q => by have := qt_eq q; omega), if_pos (show p - p / 11 * 11 = 10 from qm_eq (by omega))]
  by_cases k : x = 59
  · rw [if_pos k]
    by_cases w : 8 ≤ p / 11 + 1
    · have w' := qt_le w
      rw [if_pos w]
      exact ⟨fun q => absurd rfl q, fun q => absurd q.2 (by omega)⟩
    · have w' := qt_nle w
      rw [if_neg w]
      exact ⟨fun _ => ⟨k, by omega⟩, fun _ => by decide⟩
  · rw [if_neg k]
    exact ⟨fun q => absurd rfl q, fun q => absurd q.1 k⟩
theorem ok_d {x p : Int32} (h0 : 0 ≤ p.toInt) (hm : p.toInt % 11 ≠ 0) (hm2 : p.toInt % 11 ≠ 10) : ¬ f_X3_goesOn x p = 0 ↔ (48 ≤ x.toInt ∧ x.toInt ≤ 57) := by
  have c := (col h0).1
  have z0 : (0 : Int32).toInt = 0 := by decide
  have z10 : (10 : Int32).toInt = 10 := by decide
  have z48 : (48 : Int32).toInt = 48 := by decide
  have z57 : (57 : Int32).toInt = 57 := by decide
  unfold f_X3_goesOn
  rw [if_neg (show ¬ p - p / 11 * 11 = 0 from fun q => by have := qt_eq q; omega), if_neg (show ¬ p - p / 11 * 11 = 10 from fun q => by have := qt_eq q; omega)]
  by_cases k : x < 48
  · have k' := qt_lt k
    rw [if_pos k]
    exact ⟨fun q => absurd rfl q, fun q => absurd q.1 (by omega)⟩
  have k' := qt_nlt k
  by_cases w : 57 < x
  · have w' := qt_lt w
    rw [if_neg k, if_pos w]
    exact ⟨fun q => absurd rfl q, fun q => absurd q.2 (by omega)⟩
  · have w' := qt_nlt w
    rw [if_neg k, if_neg w]
    exact ⟨fun _ => ⟨by omega, by omega⟩, fun _ => by decide⟩
theorem dig_iff {x : Int32} : (0 ≤ (x - 48).toInt ∧ (x - 48).toInt ≤ 9) ↔ (48 ≤ x.toInt ∧ x.toInt ≤ 57) := by
  have z48 : (48 : Int32).toInt = 48 := by decide
  constructor
  · intro h
    have e := a_toInt (a := x - 48) (b := 48) (by omega) (by omega)
    rw [Int32.sub_add_cancel] at e
    omega
  · intro h
    have e := s_toInt (a := x) (b := 48) (by omega) (by omega)
    omega
/-! the class's walk over the text -/
section WALKC
variable {σ : St} {q : Nat} {a n : Int32} {G : Nat → Int32}
theorem tf_A (hc : ∀ p : Int32, 0 ≤ p.toInt → p.toInt < n.toInt → σ (13 + q) (ix (a + p)) = G (ix p)) {e : Int32} (hf : Fail G n e) (he : e.toInt < n.toInt) : ∀ (N : Nat) (p : Int32), 0 ≤ p.toInt → p.toInt ≤ e.toInt → e.toInt - p.toInt < N → lp_X3_textFault_2 σ q a n N p = Sum.inl e := by
  intro N
  induction N with
  | zero => intro p h0 h1 h2; omega
  | succ N ih =>
    intro p h0 h1 h2
    have b := lb n
    have p1 := inc_toInt (a := p) h0 (by omega)
    rw [lp_X3_textFault_2, if_neg (show ¬ n ≤ p from qm_nle (by omega)), hc p h0 (by omega)]
    by_cases w : p.toInt = e.toInt
    · have w := qm_eq w
      subst w
      have := hf.2.1 he
      unfold okp at this
      rw [if_pos (Classical.not_not.mp this)]
    · have := hf.1.2 p h0 (by omega)
      unfold okp at this
      rw [if_neg this]
      exact ih _ (by omega) (by omega) (by omega)
theorem tf_B (hc : ∀ p : Int32, 0 ≤ p.toInt → p.toInt < n.toInt → σ (13 + q) (ix (a + p)) = G (ix p)) (hg : Good G n n) : ∀ (N : Nat) (p : Int32), 0 ≤ p.toInt → p.toInt ≤ n.toInt → n.toInt - p.toInt < N → lp_X3_textFault_2 σ q a n N p = Sum.inr () := by
  intro N
  induction N with
  | zero => intro p h0 h1 h2; omega
  | succ N ih =>
    intro p h0 h1 h2
    have b := lb n
    rw [lp_X3_textFault_2]
    by_cases c : n ≤ p
    · rw [if_pos c]
    · have c' := qt_nle c
      have p1 := inc_toInt (a := p) h0 (by omega)
      have := hg.2 p h0 c'
      unfold okp at this
      rw [if_neg c, hc p h0 c', if_neg this]
      exact ih _ (by omega) (by omega) (by omega)
theorem tf_fail (hn : 0 ≤ n.toInt ∧ n.toInt ≤ 90) (hc : ∀ p : Int32, 0 ≤ p.toInt → p.toInt < n.toInt → σ (13 + q) (ix (a + p)) = G (ix p)) {e : Int32} (hf : Fail G n e) : f_X3_textFault σ q a n = e := by
  have z0 : (0 : Int32).toInt = 0 := by decide
  unfold f_X3_textFault
  have he := hf.1.1
  by_cases w : e.toInt < n.toInt
  · rw [tf_A hc hf w 200 0 (by decide) (by omega) (by omega)]
  · have w2 : e = n := qm_eq (by omega)
    subst w2
    rw [tf_B hc hf.1 200 0 (by decide) (by omega) (by omega)]
    dsimp only
    have nw := hf.2.2 rfl
    unfold Whole at nw
    obtain ⟨c, d⟩ := col hn.1
    have z10 : (10 : Int32).toInt = 10 := by decide
    have z2 : (2 : Int32).toInt = 2 := by decide
    have d1 := inc_toInt (a := e / 11) (by omega) (by omega)
    by_cases k : e - e / 11 * 11 = 10
    · have k' := qt_eq k
      rw [if_pos k, if_pos (show e / 11 + 1 < 2 from qm_lt (by omega)), if_pos rfl]
    · rw [if_neg k, if_pos rfl]
theorem tf_whole (hn : 0 ≤ n.toInt ∧ n.toInt ≤ 90) (hc : ∀ p : Int32, 0 ≤ p.toInt → p.toInt < n.toInt → σ (13 + q) (ix (a + p)) = G (ix p)) (hg : Good G n n) (hw : Whole n) : f_X3_textFault σ q a n = -1 := by
  have z0 : (0 : Int32).toInt = 0 := by decide
  unfold f_X3_textFault
  rw [tf_B hc hg 200 0 (by decide) (by omega) (by omega)]
  dsimp only
  obtain ⟨w1, w2⟩ := hw
  obtain ⟨c, d⟩ := col hn.1
  have z10 : (10 : Int32).toInt = 10 := by decide
  have z2 : (2 : Int32).toInt = 2 := by decide
  have d1 := inc_toInt (a := n / 11) (by omega) (by omega)
  rw [if_pos (show n - n / 11 * 11 = 10 from qm_eq (by omega)), if_neg (show ¬ n / 11 + 1 < 2 from qm_nlt (by omega)), if_neg (by decide)]
end WALKC
