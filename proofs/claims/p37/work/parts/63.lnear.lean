/-! near, steals -/
def byF (a b h : Int32) : Int32 := f_L_off a b * h
def nowF (a b h : Int32) : Int32 := if a ≤ b then a + (byF a b h - (byF a b h - byF a b h / 10 * 10)) / 10 else a - (byF a b h - (byF a b h - byF a b h / 10 * 10)) / 10
theorem now_tab : ∀ a : Nat, a < 10 → ∀ b : Nat, b < 10 → ∀ h : Nat, h < 11 → nowF (nI a) (nI b) (nI h) = nI a + ((nI b - nI a) * nI h) / 10 ∧ 0 ≤ (nowF (nI a) (nI b) (nI h)).toInt ∧ (nowF (nI a) (nI b) (nI h)).toInt ≤ 9 := by decide +kernel
theorem now_eq {a b h : Int32} (a0 : 0 ≤ a.toInt) (a1 : a.toInt ≤ 9) (b0 : 0 ≤ b.toInt) (b1 : b.toInt ≤ 9) (h0 : 0 ≤ h.toInt) (h1 : h.toInt ≤ 10) : nowF a b h = a + ((b - a) * h) / 10 ∧ 0 ≤ (nowF a b h).toInt ∧ (nowF a b h).toInt ≤ 9 := by
  have ea := ix_toInt a0
  have eb := ix_toInt b0
  have eh := ix_toInt h0
  have q := now_tab (ix a) (by omega) (ix b) (by omega) (ix h) (by omega)
  rw [← nI_ix a0, ← nI_ix b0, ← nI_ix h0] at q
  exact q
section NE
variable {σ τ : St}
theorem sN_eq (h : Rl σ τ) {x y t : Int32} (x0 : 0 ≤ x.toInt) (x1 : x.toInt < (σ 0 4).toInt) (y0 : 0 ≤ y.toInt) (y1 : y.toInt < (σ 0 4).toInt) (t0 : 0 ≤ t.toInt) (t1 : t.toInt ≤ 10) {k : Nat} (hk : k < 9) : f_X3_strengthNear σ (ix x) (ix y) t (nI k) = nowF (σ (25 + ix x) k) (σ (25 + ix y) k) t ∧ 0 ≤ (nowF (σ (25 + ix x) k) (σ (25 + ix y) k) t).toInt ∧ (nowF (σ (25 + ix x) k) (σ (25 + ix y) k) t).toInt ≤ 9 := by
  have a := st9I h x0 x1 hk
  have b := st9I h y0 y1 hk
  have q := now_eq (a := σ (25 + ix x) k) (b := σ (25 + ix y) k) (h := t) a.2.1 a.2.2 b.2.1 b.2.2 t0 t1
  unfold f_X3_strengthNear
  rw [ix_nI (by omega), q.1]
  refine ⟨rfl, ?_⟩
  rw [← q.1]
  exact q.2
theorem q_near (h : Rl σ τ) {x y t k : Int32} (x0 : 0 ≤ x.toInt) (x1 : x.toInt < (σ 0 4).toInt) (y0 : 0 ≤ y.toInt) (y1 : y.toInt < (σ 0 4).toInt) (t0 : 0 ≤ t.toInt) (t1 : t.toInt ≤ 10) (k0 : 0 ≤ k.toInt) (k1 : k.toInt < 9) : f_X3_near σ x y t k = nowF (f_L_get τ x (1 + k)) (f_L_get τ y (1 + k)) t := by
  have z0 : (0 : Int32).toInt = 0 := by decide
  have z10 : (10 : Int32).toInt = 10 := by decide
  have ek := ix_toInt k0
  have q := sN_eq h x0 x1 y0 y1 t0 t1 (k := ix k) (by omega)
  rw [← nI_ix k0] at q
  unfold f_X3_near
  rw [if_neg (isSign_p x0 x1), if_neg (isSign_p y0 y1), if_neg (isSmell_p k0 k1), if_neg (qm_nlt (by omega)), if_pos (qm_le (by omega)), q.1, (h.st x0 x1 k0 k1).1, (h.st y0 y1 k0 k1).1]
theorem q_near_m (h : Rl σ τ) {x y : Int32} (x0 : 0 ≤ x.toInt) (x1 : x.toInt < (σ 0 4).toInt) (y0 : 0 ≤ y.toInt) (y1 : y.toInt < (σ 0 4).toInt) : f_X3_near σ x y (-1) 0 = -2 := by
  unfold f_X3_near
  rw [if_neg (isSign_p x0 x1), if_neg (isSign_p y0 y1), if_neg (isSmell_p (by decide) (by decide)), if_pos (by decide)]
theorem q_near_n (h : Rl σ τ) {x : Int32} : f_X3_near σ x (σ 0 4) 0 0 = -1 := by
  unfold f_X3_near
  by_cases hx : f_X3_isSign σ x = 0
  · rw [if_pos hx]
  · rw [if_neg hx, if_pos (isSign_n (by omega))]
def nearS (σ : St) (x y : Nat) (t : Int32) : Int32 := sm (fun k => jabs (nowF (σ (25 + x) k) (σ (25 + y) k) t - σ (25 + y) k)) 9
def stl (σ : St) (x y : Nat) (u : Nat) : Prop := ¬ σ 0 7 < 8 * nearS σ x y (nI u)
def LSt (P : Nat → Prop) (t : Nat) (r : Int32) : Prop := (r = -9 ∧ ∀ u, t ≤ u → u ≤ 10 → ¬ P u) ∨ ∃ R, t ≤ R ∧ R ≤ 10 ∧ r = nI R ∧ P R ∧ ∀ u, t ≤ u → u < R → ¬ P u
theorem LSt_take {P : Nat → Prop} {t : Nat} (ht : t ≤ 10) (hp : P t) : LSt P t (nI t) := Or.inr ⟨t, Nat.le_refl _, ht, rfl, hp, fun u h1 h2 => by omega⟩
theorem LSt_skip {P : Nat → Prop} {t : Nat} {r : Int32} (h : LSt P (t + 1) r) (hp : ¬ P t) : LSt P t r := by
  rcases h with ⟨e, n⟩ | ⟨R, h1, h2, e, p, n⟩
  · refine Or.inl ⟨e, fun u hu h10 => ?_⟩
    by_cases hut : u = t
    · subst hut; exact hp
    · exact n u (by omega) h10
  · refine Or.inr ⟨R, by omega, h2, e, p, fun u hu hR => ?_⟩
    by_cases hut : u = t
    · subst hut; exact hp
    · exact n u (by omega) hR
theorem ne_22 {x y t : Int32} : ∀ (n k : Nat) (σ : St), k ≤ 9 → 9 - k < n → (∀ c, c ≠ 6 → lp_X3_steals_22 x y t n (nI k) σ c = σ c) ∧ ∀ i, i < 9 → lp_X3_steals_22 x y t n (nI k) σ 6 i = if i < k then σ 6 i else f_X3_strengthNear σ (ix x) (ix y) t (nI i) := by
  intro n
  induction n with
  | zero => intro k σ _ h; exact absurd h (Nat.not_lt_zero _)
  | succ n ih =>
    intro k σ hk hn
    rw [lp_X3_steals_22]
    by_cases h : k = 9
    · subst h
      rw [if_pos (show (9 : Int32) ≤ nI 9 by decide)]
      exact ⟨fun _ _ => rfl, fun i hi => by rw [if_pos hi]⟩
    · rw [if_neg (fun q => by have := (nI_gE (n := 9) (k := k) (by omega) (by omega)).mp q; omega), ix_nI (by omega), n1]
      obtain ⟨i1, i2⟩ := ih (k + 1) (u2 σ 6 k (f_X3_strengthNear σ (ix x) (ix y) t (nI k))) (by omega) (by omega)
      have es : ∀ i, f_X3_strengthNear (u2 σ 6 k (f_X3_strengthNear σ (ix x) (ix y) t (nI k))) (ix x) (ix y) t (nI i) = f_X3_strengthNear σ (ix x) (ix y) t (nI i) := fun i => by
        rw [f_X3_strengthNear, u2_nc (show 25 + ix x ≠ 6 by omega), u2_nc (show 25 + ix y ≠ 6 by omega)]
        rfl
      refine ⟨fun c hc => by rw [i1 c hc, u2_nc hc], fun i hi => ?_⟩
      rw [i2 i hi, es]
      by_cases h1 : i < k
      · rw [if_pos (by omega), if_pos h1, u2_nk (by omega)]
      · by_cases h2 : i = k
        · rw [h2, if_pos (by omega), if_neg (by omega), u2_self]
        · rw [if_neg (by omega), if_neg h1]
theorem st_13 (h : Rl σ τ) {x y : Int32} (x0 : 0 ≤ x.toInt) (x1 : x.toInt < (σ 0 4).toInt) (y0 : 0 ≤ y.toInt) (y1 : y.toInt < (σ 0 4).toInt) {r : Int32} : ∀ (n t : Nat) (σ' : St), t ≤ 11 → 11 - t < n → (∀ c, c ≠ 6 → σ' c = σ c) → LSt (stl σ (ix x) (ix y)) t r → ∃ T, (∀ c, c ≠ 6 → T c = σ c) ∧ (lp_X3_steals_13 x y n (nI t) σ' = Sum.inl (r, T) ∨ (r = -9 ∧ lp_X3_steals_13 x y n (nI t) σ' = Sum.inr T)) := by
  intro n
  induction n with
  | zero => intro t σ' _ h; exact absurd h (Nat.not_lt_zero _)
  | succ n ih =>
    intro t σ' ht hn h6 hL
    rw [lp_X3_steals_13]
    by_cases h11 : t = 11
    · subst h11
      rw [if_pos (by decide)]
      refine ⟨σ', h6, Or.inr ⟨?_, rfl⟩⟩
      rcases hL with ⟨e, _⟩ | ⟨R, h1, h2, _⟩
      · exact e
      · omega
    have et := nI_toInt (n := t) (by omega)
    have z10 : (10 : Int32).toInt = 10 := by decide
    rw [if_neg (qm_nlt (by omega))]
    obtain ⟨i1, i2⟩ := ne_22 (x := x) (y := y) (t := nI t) 200 0 σ' (by omega) (by omega)
    have e0 : (nI 0 : Int32) = 0 := rfl
    rw [e0] at i1 i2
    generalize lp_X3_steals_22 x y (nI t) 200 0 σ' = T at i1 i2 ⊢
    have hT : ∀ c, c ≠ 6 → T c = σ c := fun c hc => (i1 c hc).trans (h6 c hc)
    have eA : f_X3_areAlike T 6 (25 + ix y) = 0 ↔ ¬ stl σ (ix x) (ix y) t := by
      have eap : f_X3_apartOf T 6 (25 + ix y) = nearS σ (ix x) (ix y) (nI t) := by
        rw [apartOf_eq]
        refine sm_congr 9 (fun k hk => ?_)
        show jabs (T 6 k - T (25 + ix y) k) = _
        have q := sN_eq h x0 x1 y0 y1 (t := nI t) (by omega) (by omega) hk
        have es : f_X3_strengthNear σ' (ix x) (ix y) (nI t) (nI k) = f_X3_strengthNear σ (ix x) (ix y) (nI t) (nI k) := by
          rw [f_X3_strengthNear, h6 _ (show 25 + ix x ≠ 6 by omega), h6 _ (show 25 + ix y ≠ 6 by omega)]
          rfl
        rw [i2 k hk, if_neg (by omega), es, q.1, hT _ (by omega)]
      unfold f_X3_areAlike stl
      rw [eap, hT 0 (by omega)]
      by_cases hb : σ 0 7 < 8 * nearS σ (ix x) (ix y) (nI t)
      · rw [if_pos hb]
        exact ⟨fun _ q => q hb, fun _ => rfl⟩
      · rw [if_neg hb]
        exact ⟨fun q => absurd q (by decide), fun q => absurd hb q⟩
    by_cases hz : f_X3_areAlike T 6 (25 + ix y) = 0
    · have hn' := eA.mp hz
      rw [if_pos hz, n1]
      refine ih (t + 1) T (by omega) (by omega) hT ?_
      rcases hL with ⟨e, nn⟩ | ⟨R, h1, h2, e, p, nn⟩
      · exact Or.inl ⟨e, fun u hu h10 => nn u (by omega) h10⟩
      · have : R ≠ t := fun q => hn' (by rw [← q]; exact p)
        exact Or.inr ⟨R, by omega, h2, e, p, fun u hu hR => nn u (by omega) hR⟩
    · have hp : stl σ (ix x) (ix y) t := Classical.byContradiction (fun q => hz (eA.mpr q))
      rw [if_neg hz]
      refine ⟨T, hT, Or.inl ?_⟩
      rcases hL with ⟨e, nn⟩ | ⟨R, h1, h2, e, p, nn⟩
      · exact absurd hp (nn t (Nat.le_refl _) (by omega))
      · by_cases hR : R = t
        · rw [e, hR]
        · exact absurd hp (nn t (Nat.le_refl _) (by omega))
theorem q_steals (h : Rl σ τ) {x y : Int32} (x0 : 0 ≤ x.toInt) (x1 : x.toInt < (σ 0 4).toInt) (y0 : 0 ≤ y.toInt) (y1 : y.toInt < (σ 0 4).toInt) (hxy : x ≠ y) {r : Int32} (hL : LSt (stl σ (ix x) (ix y)) 0 r) : (f_X3_steals σ x y).1 = r ∧ Fx (only 6) σ (f_X3_steals σ x y).2 := by
  obtain ⟨T, hT, hc⟩ := st_13 h x0 x1 y0 y1 200 0 σ (by omega) (by omega) (fun _ _ => rfl) hL
  have e0 : (nI 0 : Int32) = 0 := rfl
  rw [e0] at hc
  have hF : Fx (only 6) σ T := ⟨fun k _ => by rw [hT 0 (by omega)], fun c _ hc => hT c hc⟩
  unfold f_X3_steals
  rw [if_neg (twoS h x0 x1 y0 y1 hxy)]
  rcases hc with e | ⟨e1, e⟩
  · rw [e]
    exact ⟨rfl, hF⟩
  · rw [e]
    exact ⟨e1.symm, hF⟩
theorem q_steals_xx {x : Int32} : f_X3_steals σ x x = (-1, σ) := by
  unfold f_X3_steals
  rw [if_pos twoS_n]
end NE
