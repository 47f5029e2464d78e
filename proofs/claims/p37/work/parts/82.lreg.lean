/-! register: a text that goes on to its end is taken whole -/
def okp (G : Nat → Int32) (p : Int32) : Prop := ¬ f_X3_goesOn (G (ix p)) p = 0
def Good (G : Nat → Int32) (n e : Int32) : Prop := (0 ≤ e.toInt ∧ e.toInt ≤ n.toInt) ∧ ∀ p : Int32, 0 ≤ p.toInt → p.toInt < e.toInt → okp G p
def Whole (n : Int32) : Prop := n.toInt % 11 = 10 ∧ 1 ≤ n.toInt / 11
theorem kindOf_n {x : Int32} : f_X3_kindOf x < 0 ↔ ¬ (x = 112 ∨ x = 102 ∨ x = 115) := by
  unfold f_X3_kindOf
  by_cases c1 : x = 102
  · rw [if_pos c1]
    exact ⟨fun q => absurd q (by decide), fun q => absurd (Or.inr (Or.inl c1)) q⟩
  by_cases c2 : x = 112
  · rw [if_neg c1, if_pos c2]
    exact ⟨fun q => absurd q (by decide), fun q => absurd (Or.inl c2) q⟩
  by_cases c3 : x = 115
  · rw [if_neg c1, if_neg c2, if_pos c3]
    exact ⟨fun q => absurd q (by decide), fun q => absurd (Or.inr (Or.inr c3)) q⟩
  rw [if_neg c1, if_neg c2, if_neg c3]
  exact ⟨fun _ q => q.elim c2 (fun q => q.elim c1 c3), fun _ => by decide⟩
theorem kindOf_y {x : Int32} (h : x = 112 ∨ x = 102 ∨ x = 115) : (if x = 112 then (0 : Int32) else (if x = 102 then 1 else 2)) = f_X3_kindOf x ∧ 0 ≤ (f_X3_kindOf x).toInt ∧ (f_X3_kindOf x).toInt ≤ 2 := by
  rcases h with rfl | rfl | rfl <;> decide
theorem col {p : Int32} (h0 : 0 ≤ p.toInt) : (p - p / 11 * 11).toInt = p.toInt % 11 ∧ (p / 11).toInt = p.toInt / 11 := by
  have z11 : (11 : Int32).toInt = 11 := by decide
  have e1 := irem_toInt (a := p) (b := 11) h0 (by decide)
  have e2 := dv_toInt (a := p) (b := 11) h0 (by decide)
  rw [z11] at e1 e2
  exact ⟨e1, e2⟩
theorem ok_0 {x p : Int32} (h0 : 0 ≤ p.toInt) (hm : p.toInt % 11 = 0) : ¬ f_X3_goesOn x p = 0 ↔ (x = 112 ∨ x = 102 ∨ x = 115) := by
  have c := (col h0).1
  have z0 : (0 : Int32).toInt = 0 := by decide
  unfold f_X3_goesOn
  rw [if_pos (show p - p / 11 * 11 = 0 from qm_eq (by omega))]
  by_cases k : f_X3_kindOf x < 0
  · rw [if_pos k]
    exact ⟨fun q => absurd rfl q, fun q => absurd q (kindOf_n.mp k)⟩
  · rw [if_neg k]
    exact ⟨fun _ => Classical.byContradiction (fun q => k (kindOf_n.mpr q)), fun _ => by decide⟩
theorem ok_10 {x p : Int32} (h0 : 0 ≤ p.toInt) (hm : p.toInt % 11 = 10) : ¬ f_X3_goesOn x p = 0 ↔ (x = 59 ∧ p.toInt / 11 + 1 < 8) := by
  obtain ⟨c, d⟩ := col h0
  have z0 : (0 : Int32).toInt = 0 := by decide
  have z10 : (10 : Int32).toInt = 10 := by decide
  have z8 : (8 : Int32).toInt = 8 := by decide
  have bp := lb p
  have d1 := inc_toInt (a := p / 11) (by omega) (by omega)
  unfold f_X3_goesOn
  rw [if_neg (show ¬ p - p / 11 * 11 = 0 from fun q => by have := qt_eq q; omega), if_pos (show p - p / 11 * 11 = 10 from qm_eq (by omega))]
  by_cases k : x = 59
  · rw [if_pos k]
    by_cases w : 8 ≤ p / 11 + 1
    · have w' := qt_le w
      rw [if_pos w]
      exact ⟨fun q => absurd rfl q, fun q => absurd q.2 (by omega)⟩
    · have w' := qt_nle w
      rw [if_neg w]
      exact ⟨fun _ => ⟨k, by omega⟩, fun _ => by decide⟩
  · rw [if_neg k]
    exact ⟨fun q => absurd rfl q, fun q => absurd q.1 k⟩
theorem ok_d {x p : Int32} (h0 : 0 ≤ p.toInt) (hm : p.toInt % 11 ≠ 0) (hm2 : p.toInt % 11 ≠ 10) : ¬ f_X3_goesOn x p = 0 ↔ (48 ≤ x.toInt ∧ x.toInt ≤ 57) := by
  have c := (col h0).1
  have z0 : (0 : Int32).toInt = 0 := by decide
  have z10 : (10 : Int32).toInt = 10 := by decide
  have z48 : (48 : Int32).toInt = 48 := by decide
  have z57 : (57 : Int32).toInt = 57 := by decide
  unfold f_X3_goesOn
  rw [if_neg (show ¬ p - p / 11 * 11 = 0 from fun q => by have := qt_eq q; omega), if_neg (show ¬ p - p / 11 * 11 = 10 from fun q => by have := qt_eq q; omega)]
  by_cases k : x < 48
  · have k' := qt_lt k
    rw [if_pos k]
    exact ⟨fun q => absurd rfl q, fun q => absurd q.1 (by omega)⟩
  have k' := qt_nlt k
  by_cases w : 57 < x
  · have w' := qt_lt w
    rw [if_neg k, if_pos w]
    exact ⟨fun q => absurd rfl q, fun q => absurd q.2 (by omega)⟩
  · have w' := qt_nlt w
    rw [if_neg k, if_neg w]
    exact ⟨fun _ => ⟨by omega, by omega⟩, fun _ => by decide⟩
theorem dig_iff {x : Int32} : (0 ≤ (x - 48).toInt ∧ (x - 48).toInt ≤ 9) ↔ (48 ≤ x.toInt ∧ x.toInt ≤ 57) := by
  have z48 : (48 : Int32).toInt = 48 := by decide
  constructor
  · intro h
    have e := a_toInt (a := x - 48) (b := 48) (by omega) (by omega)
    rw [Int32.sub_add_cancel] at e
    omega
  · intro h
    have e := s_toInt (a := x) (b := 48) (by omega) (by omega)
    omega
section WALKC
variable {σ : St} {q : Nat} {a n : Int32} {G : Nat → Int32}
theorem tf_B (hc : ∀ p : Int32, 0 ≤ p.toInt → p.toInt < n.toInt → σ (13 + q) (ix (a + p)) = G (ix p)) (hg : Good G n n) : ∀ (N : Nat) (p : Int32), 0 ≤ p.toInt → p.toInt ≤ n.toInt → n.toInt - p.toInt < N → lp_X3_textFault_2 σ q a n N p = Sum.inr () := by
  intro N
  induction N with
  | zero => intro p h0 h1 h2; omega
  | succ N ih =>
    intro p h0 h1 h2
    have b := lb n
    rw [lp_X3_textFault_2]
    by_cases c : n ≤ p
    · rw [if_pos c]
    · have c' := qt_nle c
      have p1 := inc_toInt (a := p) h0 (by omega)
      have := hg.2 p h0 c'
      unfold okp at this
      rw [if_neg c, hc p h0 c', if_neg this]
      exact ih _ (by omega) (by omega) (by omega)
theorem tf_whole (hn : 0 ≤ n.toInt ∧ n.toInt ≤ 90) (hc : ∀ p : Int32, 0 ≤ p.toInt → p.toInt < n.toInt → σ (13 + q) (ix (a + p)) = G (ix p)) (hg : Good G n n) (hw : Whole n) : f_X3_textFault σ q a n = -1 := by
  have z0 : (0 : Int32).toInt = 0 := by decide
  unfold f_X3_textFault
  rw [tf_B hc hg 200 0 (by decide) (by omega) (by omega)]
  dsimp only
  obtain ⟨w1, w2⟩ := hw
  obtain ⟨c, d⟩ := col hn.1
  have z10 : (10 : Int32).toInt = 10 := by decide
  have z2 : (2 : Int32).toInt = 2 := by decide
  have d1 := inc_toInt (a := n / 11) (by omega) (by omega)
  rw [if_pos (show n - n / 11 * 11 = 10 from qm_eq (by omega)), if_neg (show ¬ n / 11 + 1 < 2 from qm_nlt (by omega)), if_neg (by decide)]
end WALKC
theorem sm_s {g : Nat → Int32} {n : Nat} : sm g (n + 1) = sm g n + g n := rfl
section TAKE
variable {G C : Nat → Int32}
theorem tt_65 {q : Nat} (hq : q < 4) {p2 k a5 : Int32} {x : Nat} (hx : ix k = x) (hcell : ∀ m : Int32, 0 ≤ m.toInt → m.toInt < 9 → C (ix ((a5 + 1) + m)) = G (11 * x + 1 + ix m)) : ∀ (N : Nat) (m : Int32) (S : St), 0 ≤ m.toInt → m.toInt ≤ 9 → 9 - m.toInt < N → S (13 + q) = C → S (17 + x) 1 = sm (fun i => G (11 * x + 1 + i) - 48) (ix m) → (∀ c, c ≠ 17 + x → c ≠ 25 + x → lp_X3_takeText_65 q p2 k a5 N m S c = S c) ∧ (∀ i, i ≠ 1 → lp_X3_takeText_65 q p2 k a5 N m S (17 + x) i = S (17 + x) i) ∧ lp_X3_takeText_65 q p2 k a5 N m S (17 + x) 1 = sm (fun i => G (11 * x + 1 + i) - 48) 9 ∧ (∀ i, i < ix m → lp_X3_takeText_65 q p2 k a5 N m S (25 + x) i = S (25 + x) i) ∧ ∀ i, ix m ≤ i → i < 9 → lp_X3_takeText_65 q p2 k a5 N m S (25 + x) i = G (11 * x + 1 + i) - 48 := by
  have z9 : (9 : Int32).toInt = 9 := by decide
  intro N
  induction N with
  | zero => intro m S h0 h1 h2; omega
  | succ N ih =>
    intro m S h0 h1 h2 hS h17
    have em := ix_toInt h0
    rw [lp_X3_takeText_65]
    by_cases d : 9 ≤ m
    · have d' := qt_le d
      have e9 : ix m = 9 := by omega
      rw [if_pos d]
      rw [e9] at h17
      exact ⟨fun c _ _ => rfl, fun i _ => rfl, h17, fun i _ => rfl, fun i i0 i1 => by omega⟩
    have d' := qt_nle d
    have m1 := inc_toInt (a := m) h0 (by omega)
    have em1 := ix_toInt (x := m + 1) (by omega)
    have e1 : ix (m + 1) = ix m + 1 := by omega
    rw [if_neg d, hx, hS, hcell m h0 (by omega), u2_nc (show 17 + x ≠ 25 + x by omega), h17]
    obtain ⟨i1, i2, i3, i4, i5⟩ := ih (m + 1) (u2 (u2 S (25 + x) (ix m) (G (11 * x + 1 + ix m) - 48)) (17 + x) 1 (sm (fun i => G (11 * x + 1 + i) - 48) (ix m) + (G (11 * x + 1 + ix m) - 48))) (by omega) (by omega) (by omega) (by rw [u2_nc (by omega), u2_nc (by omega)]; exact hS) (by rw [u2_self, e1, sm_s])
    refine ⟨fun c c1 c2 => ?_, fun i hi => ?_, i3, fun i hi => ?_, fun i ia ib => ?_⟩
    · rw [i1 c c1 c2, u2_nc c1, u2_nc c2]
    · rw [i2 i hi, u2_nk hi, u2_nc (by omega)]
    · rw [i4 i (by omega), u2_nc (by omega), u2_nk (by omega)]
    · by_cases e : i = ix m
      · rw [i4 i (by omega), u2_nc (by omega), e, u2_self]
      · exact i5 i (by omega) ib
theorem tt_13 {q : Nat} (hq : q < 4) {p2 cnt : Int32} (h8 : cnt.toInt ≤ 8) (hcell : ∀ x : Int32, 0 ≤ x.toInt → x.toInt < cnt.toInt → C (ix (p2 + x * 11)) = G (11 * ix x) ∧ ∀ m : Int32, 0 ≤ m.toInt → m.toInt < 9 → C (ix ((p2 + x * 11 + 1) + m)) = G (11 * ix x + 1 + ix m)) : ∀ (N : Nat) (k : Int32) (S : St), 0 ≤ k.toInt → cnt.toInt - k.toInt < N → S 0 4 = cnt → S (13 + q) = C → (∀ c, (c < 17 ∨ 33 ≤ c) → lp_X3_takeText_13 q p2 N k S c = S c) ∧ (∀ y : Nat, y < 8 → (y : Int) < k.toInt → lp_X3_takeText_13 q p2 N k S (17 + y) = S (17 + y) ∧ lp_X3_takeText_13 q p2 N k S (25 + y) = S (25 + y)) ∧ ∀ y : Nat, k.toInt ≤ y → (y : Int) < cnt.toInt → lp_X3_takeText_13 q p2 N k S (17 + y) 0 = f_X3_kindOf (G (11 * y)) ∧ lp_X3_takeText_13 q p2 N k S (17 + y) 1 = sm (fun i => G (11 * y + 1 + i) - 48) 9 ∧ ∀ m, m < 9 → lp_X3_takeText_13 q p2 N k S (25 + y) m = G (11 * y + 1 + m) - 48 := by
  intro N
  induction N with
  | zero =>
    intro k S h0 h1 h4 hS
    exact ⟨fun c _ => rfl, fun y _ _ => ⟨rfl, rfl⟩, fun y y0 y1 => by omega⟩
  | succ N ih =>
    intro k S h0 h1 h4 hS
    rw [lp_X3_takeText_13, h4]
    by_cases d : cnt ≤ k
    · have d' := qt_le d
      rw [if_pos d]
      exact ⟨fun c _ => rfl, fun y _ _ => ⟨rfl, rfl⟩, fun y y0 y1 => by omega⟩
    have d' := qt_nle d
    have ek := ix_toInt h0
    have k1 := inc_toInt (a := k) h0 (by omega)
    obtain ⟨c1, c2⟩ := hcell k h0 d'
    rw [if_neg d, hS, c1]
    have o0 : ix (0 : Int32) = 0 := by decide
    obtain ⟨t1, t2, t3, t4, t5⟩ := tt_65 (G := G) hq (p2 := p2) (k := k) (a5 := p2 + k * 11) rfl c2 200 0 (u2 (u2 S (17 + ix k) 0 (f_X3_kindOf (G (11 * ix k)))) (17 + ix k) 1 0) (by decide) (by decide) (by decide) (by rw [u2_nc (by omega), u2_nc (by omega)]; exact hS) (by rw [u2_self, o0]; rfl)
    generalize lp_X3_takeText_65 q p2 k (p2 + k * 11) 200 0 (u2 (u2 S (17 + ix k) 0 (f_X3_kindOf (G (11 * ix k)))) (17 + ix k) 1 0) = S1 at t1 t2 t3 t4 t5 ⊢
    obtain ⟨i1, i2, i3⟩ := ih (k + 1) S1 (by omega) (by omega) (by rw [t1 0 (by omega) (by omega), u2_nc (by omega), u2_nc (by omega)]; exact h4) (by rw [t1 (13 + q) (by omega) (by omega), u2_nc (by omega), u2_nc (by omega)]; exact hS)
    refine ⟨fun c hc => ?_, fun y y8 yk => ?_, fun y y0 y1 => ?_⟩
    · rw [i1 c hc, t1 c (by omega) (by omega), u2_nc (by omega), u2_nc (by omega)]
    · obtain ⟨w1, w2⟩ := i2 y y8 (by omega)
      rw [w1, w2, t1 (17 + y) (by omega) (by omega), t1 (25 + y) (by omega) (by omega), u2_nc (by omega), u2_nc (by omega), u2_nc (by omega), u2_nc (by omega)]
      exact ⟨rfl, rfl⟩
    · by_cases e : y = ix k
      · obtain ⟨w1, w2⟩ := i2 y (by omega) (by omega)
        rw [w1, w2, e, t2 0 (by decide), t3, u2_nk (by decide), u2_self]
        exact ⟨rfl, rfl, fun m hm => t5 m (by omega) hm⟩
      · exact i3 y (by omega) y1
end TAKE
section REG
variable {σ τ : St}
/-- what a text of c SIGNS says, as the law's rows tell it -/
def Tx (T : Nat → Int32) (τ : St) (c : Nat) : Prop := ∀ x, x < c → (0 < x → T (11 * x - 1) = 59) ∧ (T (11 * x) = 112 ∨ T (11 * x) = 102 ∨ T (11 * x) = 115) ∧ f_X3_kindOf (T (11 * x)) = f_L_get τ (nI x) 0 ∧ ∀ k, k < 9 → T (11 * x + 1 + k) = 48 + f_L_get τ (nI x) (1 + nI k) ∧ 0 ≤ (f_L_get τ (nI x) (1 + nI k)).toInt ∧ (f_L_get τ (nI x) (1 + nI k)).toInt ≤ 9
theorem Tx_good {T : Nat → Int32} {c : Nat} (c2 : 2 ≤ c) (c8 : c ≤ 8) (h : Tx T τ c) : Good T (nI (11 * c - 1)) (nI (11 * c - 1)) := by
  have en := nI_toInt (n := 11 * c - 1) (by omega)
  refine ⟨by omega, fun p p0 p1 => ?_⟩
  have ep := ix_toInt p0
  unfold okp
  have hx := h (ix p / 11) (by omega)
  by_cases h0 : ix p % 11 = 0
  · rw [show ix p = 11 * (ix p / 11) by omega]
    exact (ok_0 p0 (by omega)).mpr hx.2.1
  · by_cases h10 : ix p % 11 = 10
    · have hx1 := h (ix p / 11 + 1) (by omega)
      have e := hx1.1 (by omega)
      rw [show 11 * (ix p / 11 + 1) - 1 = ix p by omega] at e
      exact (ok_10 p0 (by omega)).mpr ⟨e, by omega⟩
    · have hk := hx.2.2.2 (ix p % 11 - 1) (by omega)
      rw [show 11 * (ix p / 11) + 1 + (ix p % 11 - 1) = ix p by omega] at hk
      have z48 : (48 : Int32).toInt = 48 := by decide
      rw [hk.1]
      refine (ok_d p0 (by omega) (by omega)).mpr ?_
      rw [a_toInt (by omega) (by omega)]
      omega
theorem s48 {a b : Int32} (h : a = 48 + b) : a - 48 = b := by
  rw [h, Int32.add_comm, Int32.add_sub_cancel]
/-- the first SHEET, ready for a text -/
def s0 (σ : St) : Prop := σ 9 0 = 1 ∧ σ 9 1 = 0 ∧ σ 9 2 = 90
theorem lk0 {i : Int32} {n : Int64} (hs : s0 σ) (h0 : 0 ≤ i.toInt ∧ i.toInt ≤ 1000) (hn : 0 ≤ n.toInt ∧ n.toInt ≤ 1000) (h : i.toInt + n.toInt ≤ 90) : f_X1_lacks σ 0 i n = 0 := by
  have z0 : (0 : Int32).toInt = 0 := by decide
  have z90 : (90 : Int32).toInt64.toInt = 90 := by decide
  have e9 : 9 + 0 = 9 := rfl
  unfold f_X1_lacks
  rw [e9, hs.2.2, if_neg (qm_nlt (by omega)), if_pos]
  refine (lg_cmp_le _ _).mpr (Int64.le_iff_toInt_le.mpr ?_)
  rw [la_toInt (by rw [Int32.toInt_toInt64]; omega) (by rw [Int32.toInt_toInt64]; omega), Int32.toInt_toInt64]
  omega
theorem sp0 (hs : s0 σ) {n : Int64} (hn : 0 ≤ n.toInt ∧ n.toInt ≤ 90) : f_X3_spanRefusal σ 0 0 0 n = (0, u2 σ 0 9 0) := by
  have z0 : (0 : Int64).toInt = 0 := by decide
  have y0 : (0 : Int32).toInt = 0 := by decide
  have n1 : ¬ (1 : Int32) = 0 := by decide
  have e9 : 9 + ix 0 = 9 := rfl
  have i0 : ix 0 = 0 := rfl
  unfold f_X3_spanRefusal
  rw [if_neg (show ¬ f_X3_isSheet 0 = 0 by decide), if_neg (show ¬ f_X3_isLane 0 = 0 by decide), e9, i0, hs.1, hs.2.1, if_neg n1, if_pos rfl, if_neg n1, if_pos ((lg_cmp_ge n 0).mpr (Int64.le_iff_toInt_le.mpr (by omega))), if_pos (lk0 hs (by omega) (by omega) (by omega))]
theorem i8_id {v : Int32} (h0 : -128 ≤ v.toInt) (h1 : v.toInt ≤ 127) : v.toInt8.toInt32 = v := by
  refine qm_eq ?_
  rw [Int8.toInt_toInt32, Int32.toInt_toInt8]
  exact Int.bmod_eq_of_le (by omega) (by omega)
theorem q_put0 (hs : s0 σ) {i v : Int32} (i0 : 0 ≤ i.toInt) (i1 : i.toInt < 90) (v0 : 0 ≤ v.toInt) (v1 : v.toInt ≤ 127) : f_X3_put σ 0 i v = (1, u2 (u2 σ 0 9 0) 13 (ix i) v) := by
  have e9 : 9 + ix 0 = 9 := rfl
  have e13 : 13 + ix 0 = 13 := rfl
  have j0 : ix 0 = 0 := rfl
  have z1 : (1 : Int64).toInt = 1 := by decide
  unfold f_X3_put f_X1_cut
  rw [if_neg (show ¬ f_X3_isSheet 0 = 0 by decide), e9, e13, j0, hs.1, if_neg (show ¬ (1 : Int32) = 0 by decide), if_pos (lk0 (n := 1) hs (by omega) (by omega) (by omega))]
  rw [u2_nc (show (9 : Nat) ≠ 0 by omega), hs.2.1, if_pos rfl, i8_id (by omega) (by omega)]
/-- the law's text, read as a register: what its rows say holds of the class -/
theorem q_reg (ok : OkC σ) (hs : s0 σ) (h1 : s1 σ) {c : Nat} (c2 : 2 ≤ c) (c8 : c ≤ 8) (hT : Tx (σ 13) τ c) (t0 : τ 0 0 = nI c) (t2 : τ 0 2 = 40) (t3 : ∀ k, k < 9 → τ 0 (3 + k) = 5) : (f_X3_register σ 0 0 0 (nI (11 * c - 1))).1 = nI c ∧ Rl (f_X3_register σ 0 0 0 (nI (11 * c - 1))).2 τ ∧ (f_X3_register σ 0 0 0 (nI (11 * c - 1))).2 8 0 = -1 := by
  have en := nI_toInt (n := 11 * c - 1) (by omega)
  have ec := nI_toInt (n := c) (by omega)
  have z0 : (0 : Int32).toInt = 0 := by decide
  have j0 : ix 0 = 0 := rfl
  have sp := sp0 hs (n := (nI (11 * c - 1)).toInt64) (by rw [Int32.toInt_toInt64]; omega)
  have hg := Tx_good c2 c8 hT
  have hT' : ∀ p : Int32, 0 ≤ p.toInt → p.toInt < (nI (11 * c - 1)).toInt → u2 σ 0 9 0 (13 + 0) (ix (0 + p)) = σ 13 (ix p) := fun p _ _ => by rw [u2_nc (by omega), Int32.zero_add]
  have tf := tf_whole (σ := u2 σ 0 9 0) (q := 0) (a := 0) (n := nI (11 * c - 1)) (G := σ 13) (by omega) hT' hg ⟨by omega, by omega⟩
  have ecnt : nI (11 * c - 1) / 11 + 1 = nI c := by
    have d := dv_toInt (a := nI (11 * c - 1)) (b := 11) (by omega) (by decide)
    rw [show (11 : Int32).toInt = 11 by decide] at d
    have d2 := inc_toInt (a := nI (11 * c - 1) / 11) (by omega) (by omega)
    exact qm_eq (by omega)
  have ts := tt_13 (G := σ 13) (C := σ 13) (q := 0) (by omega) (p2 := 0) (cnt := nI c) (by omega) (fun x x0 x1 => by
    have ex := ix_toInt x0
    have e1 := mk_toInt (a := x) (k := 11) (z := 11) (by decide) (by omega) (by omega)
    have ex1 := ix_toInt (x := x * 11) (by omega)
    refine ⟨?_, fun m m0 m1 => ?_⟩
    · rw [Int32.zero_add, show ix (x * 11) = 11 * ix x by omega]
    · have em := ix_toInt m0
      have z1 : (1 : Int32).toInt = 1 := by decide
      have e2 := a_toInt (a := x * 11) (b := 1) (by omega) (by omega)
      have e3 := a_toInt (a := x * 11 + 1) (b := m) (by omega) (by omega)
      have ex2 := ix_toInt (x := x * 11 + 1 + m) (by omega)
      rw [Int32.zero_add, show ix (x * 11 + 1 + m) = 11 * ix x + 1 + ix m by omega]) 200 0 (u2 (u2 σ 0 9 0) 0 4 (nI c)) (by decide) (by omega) (u2_self _ _ _ _) (by rw [u2_nc (by omega), u2_nc (by omega)])
  have er : f_X3_register σ 0 0 0 (nI (11 * c - 1)) = (f_X3_startAnew (f_X3_takeText (u2 σ 0 9 0) 0 0 (nI (11 * c - 1))) 0 4, f_X3_startAnew (f_X3_takeText (u2 σ 0 9 0) 0 0 (nI (11 * c - 1)))) := by
    unfold f_X3_register
    generalize f_X3_spanRefusal σ 0 0 0 (nI (11 * c - 1)).toInt64 = z at sp ⊢
    subst sp
    rw [j0]
    exact (if_pos rfl).trans (if_pos (by rw [tf]; decide))
  have et : f_X3_takeText (u2 σ 0 9 0) 0 0 (nI (11 * c - 1)) = lp_X3_takeText_13 0 0 200 0 (u2 (u2 σ 0 9 0) 0 4 (nI c)) := by
    unfold f_X3_takeText
    rw [ecnt]
  rw [er, et]
  generalize lp_X3_takeText_13 0 0 200 0 (u2 (u2 σ 0 9 0) 0 4 (nI c)) = A at ts ⊢
  obtain ⟨a1, -, a3⟩ := ts
  have A0 : A 0 = u2 (u2 σ 0 9 0) 0 4 (nI c) 0 := a1 0 (by omega)
  have S0 : ∀ k, k ≠ 5 → k ≠ 6 → k ≠ 7 → f_X3_startAnew A 0 k = u2 (u2 σ 0 9 0) 0 4 (nI c) 0 k := fun k k5 k6 k7 => by
    unfold f_X3_startAnew
    rw [u2_nc (by omega), u1_ne _ (by omega), u2_nk k7, u2_nk k6, u2_nk k5, A0]
  have S4 : f_X3_startAnew A 0 4 = nI c := by rw [S0 4 (by omega) (by omega) (by omega), u2_self]
  have S7 : f_X3_startAnew A 0 7 = 40 := by
    unfold f_X3_startAnew
    rw [u2_nc (by omega), u1_ne _ (by omega), u2_self]
  have S5 : f_X3_startAnew A 0 5 = 0 := by
    unfold f_X3_startAnew
    rw [u2_nc (by omega), u1_ne _ (by omega), u2_nk (by omega), u2_nk (by omega), u2_self]
  have S6 : f_X3_startAnew A 0 6 = 0 := by
    unfold f_X3_startAnew
    rw [u2_nc (by omega), u1_ne _ (by omega), u2_nk (by omega), u2_self]
  have SH : ∀ k, k < 9 → f_X3_startAnew A 4 k = 5 := fun k hk => by
    unfold f_X3_startAnew
    rw [u2_nc (by omega), u1_same]
    show (if k < 9 then (5 : Int32) else _) = 5
    rw [if_pos hk]
  have S8 : f_X3_startAnew A 8 0 = -1 := by
    unfold f_X3_startAnew
    rw [j0, u2_self]
  have SA : ∀ d, d ≠ 0 → d ≠ 4 → d ≠ 8 → f_X3_startAnew A d = A d := fun d d0 d4 d8 => by
    unfold f_X3_startAnew
    rw [u2_nc d8, u1_ne _ d4, u2_nc d0, u2_nc d0, u2_nc d0]
  have SB : ∀ d, d ≠ 0 → d ≠ 4 → d ≠ 8 → d < 17 → f_X3_startAnew A d = σ d := fun d d0 d4 d8 d17 => by
    rw [SA d d0 d4 d8, a1 d (Or.inl d17), u2_nc d0, u2_nc d0]
  have SC : ∀ d, 33 ≤ d → f_X3_startAnew A d = σ d := fun d d33 => by
    rw [SA d (by omega) (by omega) (by omega), a1 d (Or.inr d33), u2_nc (by omega), u2_nc (by omega)]
  show f_X3_startAnew A 0 4 = nI c ∧ Rl (f_X3_startAnew A) τ ∧ f_X3_startAnew A 8 0 = -1
  refine ⟨S4, ⟨?_, by rw [S4]; omega, by rw [S4, t0], by rw [S7, t2], by rw [S7]; decide, fun j hj => by rw [t3 j hj, SH j hj], fun x x0 x1 => ?_, fun x hx => ?_, ?_⟩, S8⟩
  · obtain ⟨-, -, -, d, e, -⟩ := ok
    refine ⟨by rw [S4]; omega, by rw [S5]; decide, fun j hj _ => by rw [SH j hj]; decide, fun q hq => by rw [SB (9 + q) (by omega) (by omega) (by omega) (by omega)]; exact d q hq, fun p hp => by rw [SC (33 + p) (by omega)]; exact e p hp, by rw [S6]; decide⟩
  · rw [S4] at x1
    have ex := ix_toInt x0
    obtain ⟨w1, -, w3⟩ := a3 (ix x) (by omega) (by omega)
    obtain ⟨-, k1, k2, k3⟩ := hT (ix x) (by omega)
    rw [← nI_ix x0] at k2
    rw [SA (17 + ix x) (by omega) (by omega) (by omega), SA (25 + ix x) (by omega) (by omega) (by omega), w1]
    refine ⟨k2.symm, (kindOf_y k1).2, fun k q0 q1 => ?_⟩
    have eq := ix_toInt q0
    have d := k3 (ix k) (by omega)
    rw [← nI_ix x0, ← nI_ix q0] at d
    rw [w3 (ix k) (by omega), s48 d.1]
    exact ⟨rfl, d.2⟩
  · rw [S4] at hx
    obtain ⟨-, w2, w3⟩ := a3 x (by omega) (by omega)
    rw [SA (17 + x) (by omega) (by omega) (by omega), SA (25 + x) (by omega) (by omega) (by omega), w2]
    exact sm_congr 9 (fun k hk => (w3 k hk).symm)
  · rw [SB 10 (by omega) (by omega) (by omega) (by omega)]
    exact h1
end REG
