/-! fades, hours, odds, who -/
def hv (v : Int32) : Int32 := (v - (v - (v / 2) * 2)) / 2
def itr : Nat → Int32 → Int32
  | 0, v => v
  | q + 1, v => itr q (hv v)
theorem itr_tab : ∀ q : Nat, q < 37 → ∀ v : Nat, v < 73 → itr q (nI v) = nI v >>> (jmin (nI q) 31 &&& 31) ∧ 0 ≤ (itr q (nI v)).toInt ∧ (itr q (nI v)).toInt ≤ 72 := by decide +kernel
section DO
variable {σ τ : St}
theorem fa_29 {E : Nat} (hE : 0 < E) (hE2 : E ≤ 1000) : ∀ (n Y : Nat) (v : Int32), Y < n → Y < 1000 → lp_L_fades_29 τ (nI E) n v (nI Y) = itr (Y / E) v := by
  intro n
  induction n with
  | zero => intro Y v h; exact absurd h (Nat.not_lt_zero _)
  | succ n ih =>
    intro Y v hn hY
    have eE := nI_toInt (n := E) (by omega)
    have eY := nI_toInt (n := Y) (by omega)
    rw [lp_L_fades_29]
    by_cases h : Y < E
    · rw [if_pos (qm_lt (by omega)), Nat.div_eq_of_lt h]
      rfl
    · have e := nI_toInt (n := Y - E) (by omega)
      rw [if_neg (qm_nlt (by omega)), Nat.div_eq_sub_div hE (by omega), show nI Y - nI E = nI (Y - E) from qm_eq (by rw [s_toInt (by omega) (by omega)]; omega)]
      exact ih (Y - E) (hv v) (by omega) (by omega)
theorem nI_div {a b : Nat} (ha : a < 1000) (hb : 0 < b) (hb2 : b ≤ 1000) : nI a / nI b = nI (a / b) := by
  have ea := nI_toInt (n := a) (by omega)
  have eb := nI_toInt (n := b) (by omega)
  have hd : a / b ≤ a := Nat.div_le_self a b
  have e := nI_toInt (n := a / b) (by omega)
  refine qm_eq ?_
  rw [dv_toInt (by omega) (by omega), e, ea, eb]
  rfl
theorem fade_eq (h : Rl σ τ) {x k v y : Int32} (x0 : 0 ≤ x.toInt) (x1 : x.toInt < (σ 0 4).toInt) (k0 : 0 ≤ k.toInt) (k1 : k.toInt < 9) (v0 : 0 ≤ v.toInt) (v1 : v.toInt ≤ 72) (y0 : 0 ≤ y.toInt) (y1 : y.toInt ≤ 36) : f_L_fades τ (f_L_get τ x 0) k v y = f_X3_fade σ (ix x) k v y ∧ 0 ≤ (f_X3_fade σ (ix x) k v y).toInt ∧ (f_X3_fade σ (ix x) k v y).toInt ≤ 72 := by
  have ek := h.kd x0 x1
  have eh := h.th k0 k1
  have hh := h.hf k0 k1
  have ev := ix_toInt v0
  have ey := ix_toInt y0
  have z2 : (2 : Int32).toInt = 2 := by decide
  have z1 : (1 : Int32).toInt = 1 := by decide
  unfold f_L_fades f_X3_fade
  rw [ek.1, eh]
  generalize hkd : σ (17 + ix x) 0 = kd at ek
  have eH := ix_toInt (x := σ 4 (ix k)) (by omega)
  have nH := nI_ix (x := σ 4 (ix k)) (by omega)
  generalize ix (σ 4 (ix k)) = Hn at eH nH
  have hHn : 1 ≤ Hn ∧ Hn ≤ 9 := by omega
  rw [nH] at hh ⊢
  have eHn := nI_toInt (n := Hn) (by omega)
  by_cases c2 : kd = 2
  · rw [if_pos c2, if_pos c2]
    have q := fa_29 (τ := τ) (E := 1000) (by omega) (by omega) 200 (ix y) v (by omega) (by omega)
    rw [← nI_ix y0, Nat.div_eq_of_lt (by omega)] at q
    have q' : lp_L_fades_29 τ 1000 200 v y = v := q
    rw [q']
    exact ⟨rfl, v0, v1⟩
  · have n2 := qt_ne c2
    have hE : (nI Hn) * (1 + kd) = nI (Hn * (1 + ix kd)) := by
      have e := fd_each (h := nI Hn) (k := kd) (by omega) (by omega)
      have e2 := ix_toInt (x := kd) (by omega)
      rcases (show ix kd = 0 ∨ ix kd = 1 by omega) with q | q
      · rw [q]; rw [q] at e2; refine qm_eq ?_; rw [nI_toInt (by omega), e.1, ← e2]; omega
      · rw [q]; rw [q] at e2; refine qm_eq ?_; rw [nI_toInt (by omega), e.1, ← e2]; omega
    have e2 := ix_toInt (x := kd) (by omega)
    rw [if_neg c2, if_neg c2, if_pos (qm_le (by omega)), hE]
    have hb : 0 < Hn * (1 + ix kd) ∧ Hn * (1 + ix kd) ≤ 1000 := by
      rcases (show ix kd = 0 ∨ ix kd = 1 by omega) with q | q <;> rw [q] <;> omega
    have q := fa_29 (τ := τ) (E := Hn * (1 + ix kd)) hb.1 hb.2 200 (ix y) v (by omega) (by omega)
    rw [← nI_ix y0] at q
    rw [q]
    have hs : ∀ Q : Nat, Q < 37 → itr Q v = v >>> (jmin (nI Q) 31 &&& 31) ∧ 0 ≤ (itr Q v).toInt ∧ (itr Q v).toInt ≤ 72 := fun Q hQ => by
      have t := itr_tab Q hQ (ix v) (by omega)
      rw [← nI_ix v0] at t
      exact t
    have dl : ∀ b, ix y / b ≤ 36 := fun b => Nat.le_trans (Nat.div_le_self _ _) (by omega)
    by_cases c1 : kd = 1
    · have e1 := qt_eq c1
      have hk1 : ix kd = 1 := by omega
      rw [if_pos c1, hk1]
      have t := hs (ix y / (Hn * (1 + 1))) (by have := dl (Hn * (1 + 1)); omega)
      have ed : y / nI Hn / 2 = nI (ix y / (Hn * (1 + 1))) := by
        have e3 := nI_div (a := ix y) (b := Hn) (by omega) (by omega) (by omega)
        rw [← nI_ix y0] at e3
        have e4 := nI_div (a := ix y / Hn) (b := 2) (by have := dl Hn; omega) (by omega) (by omega)
        rw [e3]
        exact e4.trans (by rw [Nat.div_div_eq_div_mul])
      rw [ed, ← t.1]
      exact ⟨rfl, t.2⟩
    · have n1 := qt_ne c1
      have hk1 : ix kd = 0 := by omega
      rw [if_neg c1, hk1]
      have t := hs (ix y / (Hn * (1 + 0))) (by have := dl (Hn * (1 + 0)); omega)
      have ed : y / nI Hn = nI (ix y / (Hn * (1 + 0))) := by
        have e3 := nI_div (a := ix y) (b := Hn) (by omega) (by omega) (by omega)
        rw [← nI_ix y0] at e3
        rw [e3, Nat.add_zero, Nat.mul_one]
      rw [ed, ← t.1]
      exact ⟨rfl, t.2⟩
/-- what a door keeps: nine cells of the second SHEET from the tenth on -/
def Dr (σ : St) (g : Nat → Int32) : Prop := ∀ k, k < 9 → σ 14 (10 + k) = g k ∧ 0 ≤ (g k).toInt ∧ (g k).toInt ≤ 99
def hSum (σ : St) (x : Nat) (wd t : Int32) : Int32 := sm (fun k => jabs (f_X3_fade σ x (nI k) (8 * σ (25 + x) k) (t + t * wd) - σ 14 (10 + k))) 9
def hc (σ : St) (wd : Int32) (x : Nat) : Nat → Nat
  | 0 => 0
  | t + 1 => hc σ wd x t + if σ 0 7 < hSum σ x wd (nI t) then 0 else 1
def hall (σ : St) (wd : Int32) : Nat → Nat
  | 0 => 0
  | x + 1 => hall σ wd x + hc σ wd x 10
theorem hc_le {wd : Int32} {x : Nat} : ∀ t : Nat, hc σ wd x t ≤ t := by
  intro t
  induction t with
  | zero => exact Nat.le_refl _
  | succ t ih =>
    show hc σ wd x t + _ ≤ _
    split <;> omega
theorem hall_le {wd : Int32} : ∀ x : Nat, hall σ wd x ≤ 10 * x := by
  intro x
  induction x with
  | zero => exact Nat.le_refl _
  | succ x ih =>
    have := hc_le (σ := σ) (wd := wd) (x := x) 10
    show hall σ wd x + hc σ wd x 10 ≤ _
    omega
theorem ix10k {k : Nat} (hk : k < 9) : ix (10 + nI k) = 10 + k := by
  have h : ∀ k : Nat, k < 9 → ix (10 + nI k) = 10 + k := by decide +kernel
  exact h k hk
theorem lf_6 {wd t : Int32} {x : Nat} : ∀ (n k : Nat), k ≤ 9 → 9 - k < n → lp_X3_leftFrom_6 σ x (t + t * wd) 1 10 n (sm (fun k => jabs (f_X3_fade σ x (nI k) (8 * σ (25 + x) k) (t + t * wd) - σ 14 (10 + k))) k) (nI k) = hSum σ x wd t := by
  have e14 : 13 + 1 = 14 := rfl
  intro n
  induction n with
  | zero => intro k _ h; exact absurd h (Nat.not_lt_zero _)
  | succ n ih =>
    intro k hk hn
    rw [lp_X3_leftFrom_6]
    by_cases h : k = 9
    · subst h
      rw [if_pos (show (9 : Int32) ≤ nI 9 by decide)]
      rfl
    · rw [if_neg (fun q => by have := (nI_gE (n := 9) (k := k) (by omega) (by omega)).mp q; omega), ix_nI (by omega), e14, ix10k (by omega), n1]
      exact ih (k + 1) (by omega) (by omega)
theorem leftFrom_eq {wd t : Int32} {x : Nat} : f_X3_leftFrom σ x (t + t * wd) 1 10 = hSum σ x wd t := lf_6 200 0 (by omega) (by omega)
theorem fade_same {σ' : St} (h0 : ∀ c, c ≠ 7 → σ' c = σ c) {x : Nat} {k v y : Int32} : f_X3_fade σ' x k v y = f_X3_fade σ x k v y := by
  unfold f_X3_fade
  rw [h0 4 (by omega)]
  by_cases h : 17 + x = 7
  · omega
  · rw [h0 (17 + x) h]
theorem hSum_same {σ' : St} (h0 : ∀ c, c ≠ 7 → σ' c = σ c) {x : Nat} {wd t : Int32} : hSum σ' x wd t = hSum σ x wd t := by
  refine sm_congr 9 (fun k _ => ?_)
  show jabs (f_X3_fade σ' x (nI k) (8 * σ' (25 + x) k) (t + t * wd) - σ' 14 (10 + k)) = jabs (f_X3_fade σ x (nI k) (8 * σ (25 + x) k) (t + t * wd) - σ 14 (10 + k))
  rw [fade_same h0, h0 14 (by omega), h0 (25 + x) (by omega)]
theorem ch_26 {wd a4 : Int32} {x : Nat} (hx : x < 2 ^ 31) : ∀ (n t : Nat) (T : St), t ≤ 10 → 10 - t < n → (∀ c, c ≠ 7 → T c = σ c) → T 7 x = nI (hc σ wd x t) → (∀ c, c ≠ 7 → lp_X3_countHours_26 wd 1 10 a4 (nI x) n (nI t) T c = σ c) ∧ lp_X3_countHours_26 wd 1 10 a4 (nI x) n (nI t) T 7 x = nI (hc σ wd x 10) ∧ ∀ z, z ≠ x → lp_X3_countHours_26 wd 1 10 a4 (nI x) n (nI t) T 7 z = T 7 z := by
  intro n
  induction n with
  | zero => intro t T _ h; exact absurd h (Nat.not_lt_zero _)
  | succ n ih =>
    intro t T ht hn h7 hx7
    rw [lp_X3_countHours_26]
    by_cases h : t = 10
    · subst h
      rw [if_pos (show (10 : Int32) ≤ nI 10 by decide)]
      exact ⟨h7, hx7, fun _ _ => rfl⟩
    · rw [if_neg (fun q => by have := (nI_gE (n := 10) (k := t) (by omega) (by omega)).mp q; omega), ix_nI hx, leftFrom_eq, hSum_same h7, h7 0 (by omega), n1]
      by_cases c : σ 0 7 < hSum σ x wd (nI t)
      · rw [if_pos c]
        exact ih (t + 1) T (by omega) (by omega) h7 (by
          rw [hx7]
          show _ = nI (hc σ wd x t + if σ 0 7 < hSum σ x wd (nI t) then 0 else 1)
          rw [if_pos c]; rfl)
      · rw [if_neg c]
        obtain ⟨j1, j2, j3⟩ := ih (t + 1) (u2 T 7 x (T 7 x + 1)) (by omega) (by omega) (fun c hc => by rw [u2_nc hc]; exact h7 c hc) (by
          rw [u2_self, hx7, n1]
          show _ = nI (hc σ wd x t + if σ 0 7 < hSum σ x wd (nI t) then 0 else 1)
          rw [if_neg c])
        exact ⟨j1, j2, fun z hz => by rw [j3 z hz, u2_nk hz]⟩
theorem nI_ad2 {a b : Nat} : nI a + nI b = nI (a + b) := by
  show Int32.ofNat a + Int32.ofNat b = Int32.ofNat (a + b)
  rw [Int32.ofNat_add]
theorem ch_6 (h : Rl σ τ) {wd : Int32} : ∀ (n x : Nat) (T : St), x ≤ ix (σ 0 4) → ix (σ 0 4) - x < n → (∀ c, c ≠ 7 → T c = σ c) → (∀ z, z < x → T 7 z = nI (hc σ wd z 10)) → ∃ T', lp_X3_countHours_6 wd 1 10 n (nI (hall σ wd x)) (nI x) T = (nI (hall σ wd (ix (σ 0 4))), T') ∧ (∀ c, c ≠ 7 → T' c = σ c) ∧ ∀ z, z < ix (σ 0 4) → T' 7 z = nI (hc σ wd z 10) := by
  obtain ⟨hN, hN8, hN2, eN⟩ := h.nN
  intro n
  induction n with
  | zero => intro x T _ h; exact absurd h (Nat.not_lt_zero _)
  | succ n ih =>
    intro x T hx hn h7 hz
    have ex := nI_toInt (n := x) (by omega)
    rw [lp_X3_countHours_6, h7 0 (by omega)]
    by_cases c : x = ix (σ 0 4)
    · have hge : σ 0 4 ≤ nI x := by rw [c, ← hN]; exact qm_le (Int.le_refl _)
      rw [if_pos hge, ← c]
      exact ⟨T, rfl, h7, fun z hzx => hz z hzx⟩
    · rw [if_neg (qm_nle (by omega)), ix_nI (show x < 2 ^ 31 by omega), n1]
      obtain ⟨j1, j2, j3⟩ := ch_26 (σ := σ) (wd := wd) (a4 := nI (hall σ wd x)) (x := x) (by omega) 200 0 (u2 T 7 x 0) (by omega) (by omega) (fun c hc => by rw [u2_nc hc]; exact h7 c hc) (by rw [u2_self]; rfl)
      have e0 : (nI 0 : Int32) = 0 := rfl
      rw [e0] at j1 j2 j3
      generalize lp_X3_countHours_26 wd 1 10 (nI (hall σ wd x)) (nI x) 200 0 (u2 T 7 x 0) = T2 at j1 j2 j3 ⊢
      rw [j2, nI_ad2]
      exact ih (x + 1) T2 (by omega) (by omega) j1 (fun z hzx => by
        by_cases q : z = x
        · rw [q]; exact j2
        · rw [j3 z q, u2_nk q]; exact hz z (by omega))
theorem q_hours (h : Rl σ τ) (wd : Int32) : ∃ T, f_X3_countHours σ wd 1 10 = (nI (hall σ wd (ix (σ 0 4))), T) ∧ (∀ c, c ≠ 7 → T c = σ c) ∧ ∀ z, z < ix (σ 0 4) → T 7 z = nI (hc σ wd z 10) := by
  have hN := h.nN
  obtain ⟨T, q1, q2, q3⟩ := ch_6 h (wd := wd) 200 0 σ (by omega) (by omega) (fun _ _ => rfl) (fun z hz => absurd hz (Nat.not_lt_zero _))
  refine ⟨T, ?_, q2, q3⟩
  rw [countHours_eq]
  exact q1
theorem door_2 {g : Nat → Int32} {wd : Int32} (hD : Dr σ g) : ∀ (n k : Nat), k ≤ 9 → 9 - k < n → lp_X3_isDoor_2 σ 1 10 wd n (nI k) = Sum.inr () := by
  have e14 : 13 + 1 = 14 := rfl
  have z0 : (0 : Int32).toInt = 0 := by decide
  have z99 : (99 : Int32).toInt = 99 := by decide
  intro n
  induction n with
  | zero => intro k _ h; exact absurd h (Nat.not_lt_zero _)
  | succ n ih =>
    intro k hk hn
    rw [lp_X3_isDoor_2]
    by_cases h : k = 9
    · subst h
      rw [if_pos (show (9 : Int32) ≤ nI 9 by decide)]
    · have d := hD k (by omega)
      rw [if_neg (fun q => by have := (nI_gE (n := 9) (k := k) (by omega) (by omega)).mp q; omega), e14, ix10k (by omega), d.1, if_neg (qm_nlt (by omega)), if_pos (qm_le (by omega)), n1]
      exact ih (k + 1) (by omega) (by omega)
theorem door_p {g : Nat → Int32} {wd : Int32} (hD : Dr σ g) (w0 : 0 ≤ wd.toInt) (w1 : wd.toInt ≤ 3) : f_X3_isDoor σ 1 10 wd = 1 := by
  have z0 : (0 : Int32).toInt = 0 := by decide
  have z3 : (3 : Int32).toInt = 3 := by decide
  have q : lp_X3_isDoor_2 σ 1 10 wd 200 0 = Sum.inr () := door_2 hD 200 0 (by omega) (by omega)
  unfold f_X3_isDoor
  rw [q]
  dsimp only
  rw [if_neg (qm_nlt (by omega)), if_neg (qm_nlt (by omega))]
theorem door_4 {g : Nat → Int32} (hD : Dr σ g) : f_X3_isDoor σ 1 10 4 = 0 := by
  have q : lp_X3_isDoor_2 σ 1 10 4 200 0 = Sum.inr () := door_2 hD 200 0 (by omega) (by omega)
  unfold f_X3_isDoor
  rw [q]
  dsimp only
  rw [if_neg (by decide), if_pos (by decide)]
/-- a door that lacks its last cell -/
theorem door_n2 {g : Nat → Int32} {wd : Int32} (hD : ∀ k, k < 8 → σ 14 (10 + k) = g k ∧ 0 ≤ (g k).toInt ∧ (g k).toInt ≤ 99) (h8 : σ 14 18 = -1) : ∀ (n k : Nat), k ≤ 8 → 9 - k < n → lp_X3_isDoor_2 σ 1 10 wd n (nI k) = Sum.inl 0 := by
  have e14 : 13 + 1 = 14 := rfl
  have z0 : (0 : Int32).toInt = 0 := by decide
  have z99 : (99 : Int32).toInt = 99 := by decide
  intro n
  induction n with
  | zero => intro k _ h; exact absurd h (Nat.not_lt_zero _)
  | succ n ih =>
    intro k hk hn
    rw [lp_X3_isDoor_2, if_neg (fun q => by have := (nI_gE (n := 9) (k := k) (by omega) (by omega)).mp q; omega), e14, ix10k (by omega)]
    by_cases h : k = 8
    · subst h
      rw [show 10 + 8 = 18 from rfl, h8, if_pos (by decide)]
    · have d := hD k (by omega)
      rw [d.1, if_neg (qm_nlt (by omega)), if_pos (qm_le (by omega)), n1]
      exact ih (k + 1) (by omega) (by omega)
theorem door_n {g : Nat → Int32} {wd : Int32} (hD : ∀ k, k < 8 → σ 14 (10 + k) = g k ∧ 0 ≤ (g k).toInt ∧ (g k).toInt ≤ 99) (h8 : σ 14 18 = -1) : f_X3_isDoor σ 1 10 wd = 0 := by
  have q : lp_X3_isDoor_2 σ 1 10 wd 200 0 = Sum.inl 0 := door_n2 hD h8 200 0 (by omega) (by omega)
  unfold f_X3_isDoor
  rw [q]
/-! the hours do not hang on faults -/
theorem fade_f {v0 : Int32} {x : Nat} {k v y : Int32} : f_X3_fade (u2 σ 0 9 v0) x k v y = f_X3_fade σ x k v y := by
  unfold f_X3_fade
  rw [u2_nc (show (4 : Nat) ≠ 0 by omega), u2_nc (show 17 + x ≠ 0 by omega)]
theorem hSum_f {v0 : Int32} {x : Nat} {wd t : Int32} : hSum (u2 σ 0 9 v0) x wd t = hSum σ x wd t := by
  refine sm_congr 9 (fun k _ => ?_)
  show jabs (f_X3_fade (u2 σ 0 9 v0) x (nI k) (8 * u2 σ 0 9 v0 (25 + x) k) (t + t * wd) - u2 σ 0 9 v0 14 (10 + k)) = jabs (f_X3_fade σ x (nI k) (8 * σ (25 + x) k) (t + t * wd) - σ 14 (10 + k))
  rw [fade_f, u2_nc (show (14 : Nat) ≠ 0 by omega), u2_nc (show 25 + x ≠ 0 by omega)]
theorem hc_f {v0 wd : Int32} {x : Nat} : ∀ t, hc (u2 σ 0 9 v0) wd x t = hc σ wd x t := by
  intro t
  induction t with
  | zero => rfl
  | succ t ih =>
    show hc (u2 σ 0 9 v0) wd x t + (if u2 σ 0 9 v0 0 7 < hSum (u2 σ 0 9 v0) x wd (nI t) then 0 else 1) = hc σ wd x t + (if σ 0 7 < hSum σ x wd (nI t) then 0 else 1)
    rw [ih, hSum_f, u2_nk (by omega)]
theorem hall_f {v0 wd : Int32} : ∀ x, hall (u2 σ 0 9 v0) wd x = hall σ wd x := by
  intro x
  induction x with
  | zero => rfl
  | succ x ih =>
    show hall (u2 σ 0 9 v0) wd x + hc (u2 σ 0 9 v0) wd x 10 = hall σ wd x + hc σ wd x 10
    rw [ih, hc_f]
theorem Dr.f {g : Nat → Int32} {v0 : Int32} (h : Dr σ g) : Dr (u2 σ 0 9 v0) g := fun k hk => by rw [u2_nc (by omega)]; exact h k hk
theorem Rl.f (h : Rl σ τ) (v0 : Int32) : Rl (u2 σ 0 9 v0) τ := Fx.rl (Fx.flt v0) h
theorem z9l : (9 : Int64).toInt = 9 := by decide
theorem z10' : (10 : Int32).toInt = 10 := by decide
def LOSTv : Int64 := -9223372036854775808
theorem odds_tab : ∀ a : Nat, a < 11 → ∀ b : Nat, b < 81 → b ≠ 0 → ¬ lg_cmp (f_X3_ofShare (nI a) (nI b) 1).toInt64 1 < 0 ∧ ¬ (f_X3_ofShare (nI a) (nI b) 1).toInt64 = 0 ∧ lg_cmp ((nI b).toInt64 - (nI b).toInt64 / (f_X3_ofShare (nI a) (nI b) 1).toInt64 * (f_X3_ofShare (nI a) (nI b) 1).toInt64) 0 = 0 ∧ lg_cmp ((f_X3_ofShare (nI a) (nI b) 0).toInt64 * ((nI b).toInt64 / (f_X3_ofShare (nI a) (nI b) 1).toInt64)) (nI a).toInt64 = 0 := by decide +kernel
theorem q_odds (h : Rl σ τ) {g : Nat → Int32} (hD : Dr σ g) {z wd : Int32} (z0 : 0 ≤ z.toInt) (z1 : z.toInt < (σ 0 4).toInt) (w0 : 0 ≤ wd.toInt) (w1 : wd.toInt ≤ 3) {q : Int32} (hq : q = 0 ∨ q = 1) : (f_X3_odds σ z wd 1 1 10 q).1 = (if hall σ wd (ix (σ 0 4)) = 0 then (-9223372036854775808 : Int64) else (f_X3_ofShare (nI (hc σ wd (ix z) 10)) (nI (hall σ wd (ix (σ 0 4)))) q).toInt64) ∧ Fx (only 7) σ (f_X3_odds σ z wd 1 1 10 q).2 := by
  have h1 := h.f 0
  have h2 := h1.f 0
  have hi : ¬ f_X3_isSign (u2 σ 0 9 0) z = 0 := isSign_p z0 (by rw [u2_nk (by omega)]; exact z1)
  have sp := (sp_e (σ := u2 σ 0 9 0) (i := 10) (n := 9) h1.sh (by decide) (by decide)).1 (by decide) (by decide) (by decide)
  have hD2 : Dr (u2 (u2 σ 0 9 0) 0 9 0) g := hD.f.f
  obtain ⟨T, t1, t2, t3⟩ := q_hours h2 wd
  have e4 : u2 (u2 σ 0 9 0) 0 9 0 0 4 = σ 0 4 := by rw [u2_nk (by omega), u2_nk (by omega)]
  rw [e4, hall_f, hall_f] at t1
  rw [e4] at t3
  have ez := ix_toInt z0
  have en := h.nN
  have t7 : T 7 (ix z) = nI (hc σ wd (ix z) 10) := by rw [t3 (ix z) (by omega), hc_f, hc_f]
  have hle := hall_le (σ := σ) (wd := wd) (ix (σ 0 4))
  have ea := nI_toInt (n := hall σ wd (ix (σ 0 4))) (by omega)
  have hF : Fx (only 7) σ T := ⟨fun k hk => by rw [t2 0 (by omega), u2_nk hk, u2_nk hk], fun c c0 c7 => by rw [t2 c c7, u2_nc c0, u2_nc c0]⟩
  have j1 : ix 1 = 1 := rfl
  unfold f_X3_odds
  rw [if_neg hi, sp]
  dsimp only
  rw [if_pos rfl, j1, door_p hD2 w0 w1, if_neg (show ¬ (1 : Int32) = 0 by decide), if_neg (show ¬ q < 0 by rcases hq with e | e <;> rw [e] <;> decide), if_pos (show q ≤ 1 by rcases hq with e | e <;> rw [e] <;> decide), t1]
  dsimp only
  by_cases c : hall σ wd (ix (σ 0 4)) = 0
  · rw [if_pos c, c, if_pos (show nI 0 = 0 from rfl)]
    exact ⟨rfl, hF⟩
  · rw [if_neg c, if_neg (fun e => by
      have e1 := congrArg Int32.toInt e
      rw [ea, show (0 : Int32).toInt = 0 by decide] at e1
      omega), t7]
    exact ⟨rfl, hF⟩
theorem q_odds_n (_h : Rl σ τ) {wd a b c d : Int32} : f_X3_odds σ (σ 0 4) wd a b c d = (-9223372036854775808, u2 σ 0 9 0) := by
  unfold f_X3_odds
  rw [if_pos (isSign_n (by rw [u2_nk (by omega)]; omega))]
theorem q_odds_16 (h : Rl σ τ) {wd d : Int32} : f_X3_odds σ 0 wd 1 1 16 d = (-9223372036854775808, u2 (u2 σ 0 9 0) 0 9 3) := by
  have hn := h.n
  have z0 : (0 : Int32).toInt = 0 := by decide
  have hi : ¬ f_X3_isSign (u2 σ 0 9 0) 0 = 0 := isSign_p (by omega) (by rw [u2_nk (by omega)]; omega)
  have sp := (sp_e (σ := u2 σ 0 9 0) (i := 16) (n := 9) (h.f 0).sh (by decide) (by decide)).2.1 (by decide) (by decide)
  unfold f_X3_odds
  rw [if_neg hi, sp]
  dsimp only
  rw [if_neg (show ¬ (-13 : Int32) = 0 by decide)]
theorem q_odds_4 (h : Rl σ τ) {wd l c d : Int32} : f_X3_odds σ 0 wd 4 l c d = (-9223372036854775808, u2 (u2 σ 0 9 0) 0 9 0) := by
  have hn := h.n
  have z0 : (0 : Int32).toInt = 0 := by decide
  have hi : ¬ f_X3_isSign (u2 σ 0 9 0) 0 = 0 := isSign_p (by omega) (by rw [u2_nk (by omega)]; omega)
  unfold f_X3_odds
  rw [if_neg hi, sp_s4]
  dsimp only
  rw [if_neg (show ¬ (-1 : Int32) = 0 by decide)]
/-! who -/
def WA (P : Nat → Nat) (t : Nat) (r m : Int32) : Prop := (r = -9 ∧ m = 0 ∧ ∀ u, u < t → P u = 0) ∨ ∃ R, R < t ∧ r = nI R ∧ m = nI (P R) ∧ 0 < P R ∧ ∀ u, u < t → P u < P R ∨ (P u = P R ∧ R ≤ u)
def WD (P : Nat → Nat) (N t : Nat) (r : Int32) : Prop := (r = -9 ∧ ∀ u, t ≤ u → u < N → P u = 0) ∨ ∃ R, t ≤ R ∧ R < N ∧ r = nI R ∧ 0 < P R ∧ ∀ u, t ≤ u → u < N → P u < P R ∨ (P u = P R ∧ R ≤ u)
theorem WA_WD {P : Nat → Nat} {N : Nat} {r r' m : Int32} (h1 : WD P N 0 r) (h2 : WA P N r' m) : r' = r := by
  rcases h1 with ⟨e1, n1⟩ | ⟨R, _, hR, e1, p1, b1⟩
  · rcases h2 with ⟨e2, _, _⟩ | ⟨R', hR', _, _, p2, _⟩
    · rw [e1, e2]
    · have := n1 R' (by omega) hR'
      omega
  · rcases h2 with ⟨_, _, n2⟩ | ⟨R', hR', e2, _, p2, b2⟩
    · have := n2 R hR
      omega
    · have q1 := b1 R' (by omega) hR'
      have q2 := b2 R hR
      have : R = R' := by omega
      rw [e1, e2, this]
theorem WD_take {P : Nat → Nat} {N t : Nat} {r : Int32} (hN : N ≤ 8) (ht : t < N) (h : WD P N (t + 1) r) (hp : 0 < P t) (hb : r.toInt < 0 ∨ P (ix r) ≤ P t) : WD P N t (nI t) := by
  refine Or.inr ⟨t, Nat.le_refl _, ht, rfl, hp, fun u hu huN => ?_⟩
  by_cases c : u = t
  · subst c; exact Or.inr ⟨rfl, Nat.le_refl _⟩
  rcases h with ⟨e, n⟩ | ⟨R, h1, h2, e, p, b⟩
  · have := n u (by omega) huN
    omega
  · have eR := nI_toInt (n := R) (by omega)
    rw [e, ix_nI (by omega)] at hb
    have := b u (by omega) huN
    omega
theorem WD_skip {P : Nat → Nat} {N t : Nat} {r : Int32} (hN : N ≤ 8) (h : WD P N (t + 1) r) (hp : P t = 0 ∨ (0 ≤ r.toInt ∧ P t < P (ix r))) : WD P N t r := by
  rcases h with ⟨e, n⟩ | ⟨R, h1, h2, e, p, b⟩
  · refine Or.inl ⟨e, fun u hu huN => ?_⟩
    by_cases c : u = t
    · subst c
      rcases hp with hp | ⟨q, _⟩
      · exact hp
      · rw [e] at q; exact absurd q (by decide)
    · exact n u (by omega) huN
  · refine Or.inr ⟨R, by omega, h2, e, p, fun u hu huN => ?_⟩
    by_cases c : u = t
    · subst c
      rcases hp with hp | ⟨_, q⟩
      · omega
      · rw [e, ix_nI (by omega)] at q
        omega
    · exact b u (by omega) huN
theorem WD_ge {P : Nat → Nat} {N t : Nat} {r : Int32} (hN : N ≤ 8) (h : WD P N t r) : r.toInt = -9 ∨ (0 ≤ r.toInt ∧ r.toInt < N) := by
  rcases h with ⟨e, n⟩ | ⟨R, h1, h2, e, p, b⟩
  · left; rw [e]; decide
  · right; rw [e, nI_toInt (by omega)]; omega
theorem wh_63 {T : St} {P : Nat → Nat} {N : Nat} (hN : T 0 4 = nI N) (hN8 : N ≤ 8) (hP : ∀ u, u < N → T 7 u = nI (P u) ∧ P u ≤ 10) : ∀ (n t : Nat) (r m : Int32), t ≤ N → N - t < n → WA P t r m → ∃ m', WA P N (lp_X3_who_63 T n r m (nI t)) m' := by
  have z0 : (0 : Int32).toInt = 0 := by decide
  intro n
  induction n with
  | zero => intro t r m _ h; exact absurd h (Nat.not_lt_zero _)
  | succ n ih =>
    intro t r m ht hn hW
    rw [lp_X3_who_63, hN]
    by_cases c : t = N
    · rw [c, if_pos ((nI_gE (by omega) (by omega)).mpr (Nat.le_refl _)), ← c]
      exact ⟨m, hW⟩
    · have hp := hP t (by omega)
      have ep := nI_toInt (n := P t) (by omega)
      rw [if_neg (fun q => by have := (nI_gE (by omega) (by omega)).mp q; omega), ix_nI (by omega), hp.1, n1]
      by_cases c2 : nI (P t) ≤ m
      · have c3 := qt_le c2
        rw [if_pos c2]
        refine ih (t + 1) r m (by omega) (by omega) ?_
        rcases hW with ⟨e1, e2, nn⟩ | ⟨R, h1, e1, e2, p, b⟩
        · refine Or.inl ⟨e1, e2, fun u hu => ?_⟩
          by_cases cu : u = t
          · subst cu; rw [e2] at c3; omega
          · exact nn u (by omega)
        · have eR := nI_toInt (n := P R) (by have := (hP R (by omega)).2; omega)
          refine Or.inr ⟨R, by omega, e1, e2, p, fun u hu => ?_⟩
          by_cases cu : u = t
          · subst cu; rw [e2] at c3; omega
          · exact b u (by omega)
      · have c3 := qt_nle c2
        rw [if_neg c2]
        refine ih (t + 1) (nI t) (nI (P t)) (by omega) (by omega) (Or.inr ⟨t, by omega, rfl, rfl, ?_, fun u hu => ?_⟩)
        · rcases hW with ⟨e1, e2, nn⟩ | ⟨R, h1, e1, e2, p, b⟩
          · rw [e2] at c3; omega
          · have eR := nI_toInt (n := P R) (by have := (hP R (by omega)).2; omega)
            rw [e2] at c3; omega
        · by_cases cu : u = t
          · subst cu; exact Or.inr ⟨rfl, Nat.le_refl _⟩
          · rcases hW with ⟨e1, e2, nn⟩ | ⟨R, h1, e1, e2, p, b⟩
            · have := nn u (by omega)
              rw [e2] at c3; omega
            · have eR := nI_toInt (n := P R) (by have := (hP R (by omega)).2; omega)
              have := b u (by omega)
              rw [e2] at c3; omega
theorem q_who (h : Rl σ τ) {g : Nat → Int32} (hD : Dr σ g) {wd : Int32} (w0 : 0 ≤ wd.toInt) (w1 : wd.toInt ≤ 3) {r : Int32} (hW : WD (fun z => hc σ wd z 10) (ix (σ 0 4)) 0 r) : (f_X3_who σ wd 1 1 10).1 = r ∧ Fx (only 7) σ (f_X3_who σ wd 1 1 10).2 := by
  have h1 := h.f 0
  have sp := (sp_e (σ := σ) (i := 10) (n := 9) h.sh (by decide) (by decide)).1 (by decide) (by decide) (by decide)
  obtain ⟨T, t1, t2, t3⟩ := q_hours h1 wd
  have e4 : u2 σ 0 9 0 0 4 = σ 0 4 := u2_nk (by omega)
  rw [e4] at t1 t3
  obtain ⟨hN, hN8, hN2, eN⟩ := h.nN
  have hF : Fx (only 7) σ T := ⟨fun k hk => by rw [t2 0 (by omega), u2_nk hk], fun c c0 c7 => by rw [t2 c c7, u2_nc c0]⟩
  have j1 : ix 1 = 1 := rfl
  unfold f_X3_who
  rw [sp]
  dsimp only
  rw [if_pos rfl, j1, door_p hD.f w0 w1, if_neg (show ¬ (1 : Int32) = 0 by decide), t1]
  dsimp only
  obtain ⟨m', q⟩ := wh_63 (T := T) (P := fun z => hc σ wd z 10) (N := ix (σ 0 4)) (by rw [t2 0 (by omega), e4]; exact hN) hN8 (fun u hu => ⟨by rw [t3 u hu, hc_f], hc_le 10⟩) 200 0 (-9) 0 (by omega) (by omega) (Or.inl ⟨rfl, rfl, fun u hu => absurd hu (Nat.not_lt_zero _)⟩)
  exact ⟨WA_WD hW q, hF⟩
theorem q_who_4 (h : Rl σ τ) {g : Nat → Int32} (hD : Dr σ g) : f_X3_who σ 4 1 1 10 = (-2, u2 σ 0 9 0) := by
  have sp := (sp_e (σ := σ) (i := 10) (n := 9) h.sh (by decide) (by decide)).1 (by decide) (by decide) (by decide)
  have j1 : ix 1 = 1 := rfl
  unfold f_X3_who
  rw [sp]
  dsimp only
  rw [if_pos rfl, j1, door_4 hD.f, if_pos rfl]
theorem q_who_n (h : Rl σ τ) {wd : Int32} {g : Nat → Int32} (hD : ∀ k, k < 8 → σ 14 (10 + k) = g k ∧ 0 ≤ (g k).toInt ∧ (g k).toInt ≤ 99) (h8 : σ 14 18 = -1) : f_X3_who σ wd 1 1 10 = (-2, u2 σ 0 9 0) := by
  have sp := (sp_e (σ := σ) (i := 10) (n := 9) h.sh (by decide) (by decide)).1 (by decide) (by decide) (by decide)
  have j1 : ix 1 = 1 := rfl
  unfold f_X3_who
  rw [sp]
  dsimp only
  rw [if_pos rfl, j1, door_n (g := g) (fun k hk => by rw [u2_nc (by omega)]; exact hD k hk) (by rw [u2_nc (by omega)]; exact h8), if_pos rfl]
theorem q_who_16 (h : Rl σ τ) {wd : Int32} : f_X3_who σ wd 1 1 16 = (-13, u2 σ 0 9 3) := by
  have sp := (sp_e (σ := σ) (i := 16) (n := 9) h.sh (by decide) (by decide)).2.1 (by decide) (by decide)
  unfold f_X3_who
  rw [sp]
  dsimp only
  rw [if_neg (show ¬ (-13 : Int32) = 0 by decide)]
theorem q_who_l0 (h : Rl σ τ) {wd i : Int32} : f_X3_who σ wd 1 0 i = (-12, u2 σ 0 9 2) := by
  unfold f_X3_who
  rw [sp_l0 h.sh]
  dsimp only
  rw [if_neg (show ¬ (-12 : Int32) = 0 by decide)]
theorem q_who_s4 {wd l i : Int32} : f_X3_who σ wd 4 l i = (-1, u2 σ 0 9 0) := by
  unfold f_X3_who
  rw [sp_s4]
  dsimp only
  rw [if_neg (show ¬ (-1 : Int32) = 0 by decide)]
end DO
