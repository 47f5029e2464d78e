/-! the second SHEET; forged -/
section FO
variable {σ τ : St}
def s1 (σ : St) : Prop := σ 10 0 = 1 ∧ σ 10 1 = 1 ∧ σ 10 2 = 24
theorem lk_e {i : Int32} {n : Int64} (hs : s1 σ) (h0 : -100 ≤ i.toInt ∧ i.toInt ≤ 1000) (hn : -1000 ≤ n.toInt ∧ n.toInt ≤ 1000) : (f_X1_lacks σ 1 i n = 0) ↔ 0 ≤ i.toInt ∧ i.toInt + n.toInt ≤ 24 := by
  have z0 : (0 : Int32).toInt = 0 := by decide
  have z24 : (24 : Int32).toInt64.toInt = 24 := by decide
  have e9 : 9 + 1 = 10 := rfl
  unfold f_X1_lacks
  rw [e9, hs.2.2]
  by_cases h : i < 0
  · have h2 := qt_lt h
    rw [if_pos h]
    exact ⟨fun q => absurd q (by decide), fun q => by omega⟩
  · have h2 := qt_nlt h
    have ea : (i.toInt64 + n).toInt = i.toInt + n.toInt := by
      rw [la_toInt (by rw [Int32.toInt_toInt64]; omega) (by rw [Int32.toInt_toInt64]; omega), Int32.toInt_toInt64]
    rw [if_neg h]
    by_cases h3 : lg_cmp (i.toInt64 + n) (24 : Int32).toInt64 ≤ 0
    · have h4 := Int64.le_iff_toInt_le.mp ((lg_cmp_le _ _).mp h3)
      rw [if_pos h3]
      exact ⟨fun _ => by omega, fun _ => rfl⟩
    · rw [if_neg h3]
      refine ⟨fun q => absurd q (by decide), fun q => absurd ((lg_cmp_le _ _).mpr (Int64.le_iff_toInt_le.mpr ?_)) h3⟩
      omega
theorem sp_e (hs : s1 σ) {i : Int32} {n : Int64} (hi : -100 ≤ i.toInt ∧ i.toInt ≤ 1000) (hn : -1000 ≤ n.toInt ∧ n.toInt ≤ 1000) :
    (0 ≤ n.toInt → 0 ≤ i.toInt → i.toInt + n.toInt ≤ 24 → f_X3_spanRefusal σ 1 1 i n = (0, u2 σ 0 9 0)) ∧ (0 ≤ n.toInt → 24 < i.toInt + n.toInt → f_X3_spanRefusal σ 1 1 i n = (-13, u2 σ 0 9 3)) ∧ (n.toInt < 0 → f_X3_spanRefusal σ 1 1 i n = (-14, u2 σ 0 9 4)) := by
  have lk := lk_e (i := i) (n := n) hs hi hn
  have z0 : (0 : Int64).toInt = 0 := by decide
  have n1 : ¬ (1 : Int32) = 0 := by decide
  have e9 : 9 + ix 1 = 10 := rfl
  have i1 : ix 1 = 1 := rfl
  have key : f_X3_spanRefusal σ 1 1 i n = (if 0 ≤ lg_cmp n 0 then (if f_X1_lacks σ 1 i n = 0 then ((0 : Int32), u2 σ 0 9 0) else ((f_X3_faulted σ 3).1, (f_X3_faulted σ 3).2)) else ((f_X3_faulted σ 4).1, (f_X3_faulted σ 4).2)) := by
    unfold f_X3_spanRefusal
    rw [if_neg (show ¬ f_X3_isSheet 1 = 0 by decide), if_neg (show ¬ f_X3_isLane 1 = 0 by decide), e9, i1, hs.1, hs.2.1, if_neg n1, if_pos rfl, if_neg n1]
  rw [key]
  refine ⟨fun h1 h2 h3 => ?_, fun h1 h2 => ?_, fun h1 => ?_⟩
  · rw [if_pos ((lg_cmp_ge n 0).mpr (Int64.le_iff_toInt_le.mpr (by omega))), if_pos (lk.mpr ⟨h2, h3⟩)]
  · rw [if_pos ((lg_cmp_ge n 0).mpr (Int64.le_iff_toInt_le.mpr (by omega))), if_neg (fun q => by have := lk.mp q; omega)]
    rfl
  · rw [if_neg (fun q => by have := Int64.le_iff_toInt_le.mp ((lg_cmp_ge n 0).mp q); omega)]
    rfl
theorem sp_s4 {l i : Int32} {n : Int64} : f_X3_spanRefusal σ 4 l i n = (-1, u2 σ 0 9 0) := by
  unfold f_X3_spanRefusal
  rw [if_pos (show f_X3_isSheet 4 = 0 by decide)]
  rfl
theorem sp_l3 {i : Int32} {n : Int64} : f_X3_spanRefusal σ 1 3 i n = (-2, u2 σ 0 9 0) := by
  unfold f_X3_spanRefusal
  rw [if_neg (show ¬ f_X3_isSheet 1 = 0 by decide), if_pos (show f_X3_isLane 3 = 0 by decide)]
  rfl
theorem sp_l0 (hs : s1 σ) {i : Int32} {n : Int64} : f_X3_spanRefusal σ 1 0 i n = (-12, u2 σ 0 9 2) := by
  have e9 : 9 + ix 1 = 10 := rfl
  unfold f_X3_spanRefusal
  rw [if_neg (show ¬ f_X3_isSheet 1 = 0 by decide), if_neg (show ¬ f_X3_isLane 0 = 0 by decide), e9, hs.1, hs.2.1, if_neg (show ¬ (1 : Int32) = 0 by decide), if_neg (show ¬ (1 : Int32) = 0 by decide)]
  rfl
theorem i16_id {v : Int32} (h0 : -32768 ≤ v.toInt) (h1 : v.toInt ≤ 32767) : v.toInt16.toInt32 = v := by
  refine qm_eq ?_
  rw [Int16.toInt_toInt32, Int32.toInt_toInt16]
  exact Int.bmod_eq_of_le (by omega) (by omega)
theorem q_put1 (hs : s1 σ) {i v : Int32} (i0 : 0 ≤ i.toInt) (i1 : i.toInt < 24) (v0 : -1000 ≤ v.toInt) (v1 : v.toInt ≤ 1000) : f_X3_put σ 1 i v = (1, u2 (u2 σ 0 9 0) 14 (ix i) v) := by
  have e9 : 9 + ix 1 = 10 := rfl
  have e13 : 13 + ix 1 = 14 := rfl
  have j1 : ix 1 = 1 := rfl
  have z1 : (1 : Int64).toInt = 1 := by decide
  unfold f_X3_put f_X1_cut
  rw [if_neg (show ¬ f_X3_isSheet 1 = 0 by decide), e9, e13, j1, hs.1, if_neg (show ¬ (1 : Int32) = 0 by decide), if_pos ((lk_e (n := 1) hs (by omega) (by omega)).mpr (by omega))]
  rw [u2_nc (show (10 : Nat) ≠ 0 by omega), hs.2.1, if_neg (show ¬ (1 : Int32) = 0 by decide), if_pos rfl, i16_id (by omega) (by omega)]
theorem q_cell1 (hs : s1 σ) {i : Int32} (i0 : 0 ≤ i.toInt) (i1 : i.toInt < 24) : f_X3_cell σ 1 i 1 = ((σ 14 (ix i)).toInt64, u2 σ 0 9 0) := by
  have z1 : (1 : Int64).toInt = 1 := by decide
  have e13 : 13 + ix 1 = 14 := rfl
  have e := (sp_e (i := i) (n := 1) hs (by omega) (by omega)).1 (by omega) (by omega) (by omega)
  unfold f_X3_cell
  rw [e]
  dsimp only
  rw [if_pos rfl, e13, u2_nc (show (14 : Nat) ≠ 0 by omega)]
/-! what a set of stoppers leaves of a SIGN -/
def addF (Z : Nat → Int32) (S : Int32) (f : Nat → Int32) (j : Nat) : Nat → Int32 :=
  if ((S >>> (nI j &&& 31)) &&& 1) = 0 then f else upd f (ix (Z (2 * j))) (f (ix (Z (2 * j))) + Z (2 * j + 1))
def thenF (base Z : Nat → Int32) (S : Int32) : Nat → Nat → Int32
  | 0 => base
  | j + 1 => addF Z S (thenF base Z S j) j
theorem thenF_hi {base Z : Nat → Int32} {S : Int32} {s : Nat} (hb : ∀ k, s ≤ k → k < 10 → ((S >>> (nI k &&& 31)) &&& 1) = 0) : ∀ d, s + d ≤ 10 → thenF base Z S (s + d) = thenF base Z S s := by
  intro d
  induction d with
  | zero => intro _; rfl
  | succ d ih =>
    intro h
    show addF Z S (thenF base Z S (s + d)) (s + d) = _
    unfold addF
    rw [if_pos (hb _ (by omega) (by omega)), ih (by omega)]
theorem upd_at (f : Nat → Int32) (k : Nat) (v : Int32) : upd f k v k = v := by rw [upd, if_pos rfl]
theorem upd_ne (f : Nat → Int32) {k j : Nat} (v : Int32) (h : j ≠ k) : upd f k v j = f j := by rw [upd, if_neg h]
theorem tk_3 {x y S : Int32} : ∀ (n k : Nat) (σ : St), k ≤ 9 → 9 - k < n → ∀ i, i < 9 → lp_X3_isTakenFor_3 x y 1 0 S n (nI k) σ 6 i = if i < k then σ 6 i else σ (25 + ix x) i := by
  intro n
  induction n with
  | zero => intro k σ _ h; exact absurd h (Nat.not_lt_zero _)
  | succ n ih =>
    intro k σ hk hn i hi
    rw [lp_X3_isTakenFor_3]
    by_cases h : k = 9
    · subst h
      rw [if_pos (show (9 : Int32) ≤ nI 9 by decide), if_pos hi]
    · rw [if_neg (fun q => by have := (nI_gE (n := 9) (k := k) (by omega) (by omega)).mp q; omega), ix_nI (by omega), n1, ih (k + 1) _ (by omega) (by omega) i hi]
      by_cases h1 : i < k
      · rw [if_pos (by omega), if_pos h1, u2_nk (by omega)]
      · by_cases h2 : i = k
        · rw [h2, if_pos (by omega), if_neg (by omega), u2_self]
        · rw [if_neg (by omega), if_neg h1, u2_nc (by omega)]
theorem ix2k {k : Nat} (hk : k < 10) : ix (0 + 2 * nI k) = 2 * k ∧ ix (0 + 2 * nI k + 1) = 2 * k + 1 := by
  have h : ∀ k : Nat, k < 10 → ix (0 + 2 * nI k) = 2 * k ∧ ix (0 + 2 * nI k + 1) = 2 * k + 1 := by decide +kernel
  exact h k hk
theorem tk_38 {y S : Int32} {base Z : Nat → Int32} (hZ : ∀ k, k < 10 → ¬ ((S >>> (nI k &&& 31)) &&& 1) = 0 → ix (Z (2 * k)) < 9) : ∀ (n k : Nat) (σ : St), k ≤ 10 → 10 - k < n → σ 14 = Z → (∀ i, i < 9 → σ 6 i = thenF base Z S k i) → ∀ i, i < 9 → lp_X3_isTakenFor_38 y 1 0 S n (nI k) σ 6 i = thenF base Z S 10 i := by
  have e14 : 13 + 1 = 14 := rfl
  intro n
  induction n with
  | zero => intro k σ _ h; exact absurd h (Nat.not_lt_zero _)
  | succ n ih =>
    intro k σ hk hn h14 h6 i hi
    rw [lp_X3_isTakenFor_38]
    by_cases h : k = 10
    · subst h
      rw [if_pos (show (10 : Int32) ≤ nI 10 by decide)]
      exact h6 i hi
    · obtain ⟨e1, e2⟩ := ix2k (k := k) (by omega)
      rw [if_neg (fun q => by have := (nI_gE (n := 10) (k := k) (by omega) (by omega)).mp q; omega), e14, h14, e1, e2, n1]
      by_cases hb : ((S >>> (nI k &&& 31)) &&& 1) = 0
      · rw [if_pos hb]
        refine ih (k + 1) σ (by omega) (by omega) h14 (fun i hi => ?_) i hi
        show σ 6 i = addF Z S (thenF base Z S k) k i
        unfold addF
        rw [if_pos hb]
        exact h6 i hi
      · have hq := hZ k (by omega) hb
        rw [if_neg hb]
        refine ih (k + 1) _ (by omega) (by omega) (by rw [u2_nc (by omega)]; exact h14) (fun i hi => ?_) i hi
        show _ = addF Z S (thenF base Z S k) k i
        unfold addF
        rw [if_neg hb]
        by_cases hiq : i = ix (Z (2 * k))
        · rw [hiq, u2_self, upd_at, h6 _ hq]
        · rw [u2_nk hiq, upd_ne _ _ hiq]
          exact h6 i hi
/-- how far apart x with these stoppers is from y -/
def tkS (σ : St) (x y : Nat) (s : Nat) (S : Int32) : Int32 := sm (fun k => jabs (thenF (σ (25 + x)) (σ 14) S s k - σ (25 + y) k)) 9
def tk (σ : St) (x y : Nat) (s : Nat) (u : Nat) : Prop := ¬ σ 0 7 < 8 * tkS σ x y s (nI u)
/-- the stoppers of the law lie in the second SHEET -/
def Stq (σ : St) (s : Nat) : Prop := ∀ j, j < s → (0 ≤ (σ 14 (2 * j)).toInt ∧ (σ 14 (2 * j)).toInt < 9) ∧ 1 ≤ (σ 14 (2 * j + 1)).toInt ∧ (σ 14 (2 * j + 1)).toInt ≤ 9
theorem bit_hi {s u k : Nat} (hs : s ≤ 7) (hu : u < 2 ^ s) (h : s ≤ k) (hk : k < 10) : (nI u >>> (nI k &&& 31)) &&& 1 = 0 := bit_lt s (by omega) k hk h u hu
theorem taken_iff {x y : Int32} {s u : Nat} (hs : s ≤ 7) (hu : u < 2 ^ s) (hst : Stq σ s) {σ' : St} (h6 : ∀ c, c ≠ 6 → σ' c = σ c) : ((f_X3_isTakenFor σ' x y 1 0 (nI u)).1 = 0 ↔ ¬ tk σ (ix x) (ix y) s u) ∧ ∀ c, c ≠ 6 → (f_X3_isTakenFor σ' x y 1 0 (nI u)).2 c = σ c := by
  refine ⟨?_, fun c hc => (fr_X3_isTakenFor hc).trans (h6 c hc)⟩
  have hf := fun c (hc : c ≠ 6) => fr_X3_isTakenFor (σ := σ') (x := x) (y := y) (q := 1) (a := 0) (s := nI u) (c := c) hc
  have hv : ∀ i, i < 9 → (f_X3_isTakenFor σ' x y 1 0 (nI u)).2 6 i = thenF (σ (25 + ix x)) (σ 14) (nI u) s i := by
    intro i hi
    show lp_X3_isTakenFor_38 y 1 0 (nI u) 200 0 (lp_X3_isTakenFor_3 x y 1 0 (nI u) 200 0 σ') 6 i = _
    have q := tk_38 (y := y) (S := nI u) (base := σ (25 + ix x)) (Z := σ 14) (fun k hk hb => by
      have hks : k < s := Nat.not_le.mp (fun q => hb (bit_hi hs hu q hk))
      have h1 := (hst k hks).1
      have h2 := ix_toInt (x := σ 14 (2 * k)) (by omega)
      omega) 200 0 (lp_X3_isTakenFor_3 x y 1 0 (nI u) 200 0 σ') (by omega) (by omega) (by rw [fr_isTakenFor_3 (by omega)]; exact h6 14 (by omega)) (fun i hi => by
        have q3 := tk_3 (x := x) (y := y) (S := nI u) 200 0 σ' (by omega) (by omega) i hi
        rw [if_neg (by omega), h6 (25 + ix x) (by omega)] at q3
        exact q3) i hi
    refine q.trans ?_
    have e := thenF_hi (base := σ (25 + ix x)) (Z := σ 14) (S := nI u) (s := s) (fun k h1 h2 => bit_hi hs hu h1 h2) (10 - s) (by omega)
    rw [show s + (10 - s) = 10 by omega] at e
    rw [e]
  have ea : (f_X3_isTakenFor σ' x y 1 0 (nI u)).1 = f_X3_areAlike (f_X3_isTakenFor σ' x y 1 0 (nI u)).2 6 (25 + ix y) := rfl
  rw [ea]
  generalize (f_X3_isTakenFor σ' x y 1 0 (nI u)).2 = T at hf hv ⊢
  have eap : f_X3_apartOf T 6 (25 + ix y) = tkS σ (ix x) (ix y) s (nI u) := by
    rw [apartOf_eq]
    refine sm_congr 9 (fun k hk => ?_)
    show jabs (T 6 k - T (25 + ix y) k) = _
    rw [hv k hk, hf _ (by omega), h6 _ (by omega)]
  unfold f_X3_areAlike tk
  rw [eap, hf 0 (by omega), h6 0 (by omega)]
  by_cases h : σ 0 7 < 8 * tkS σ (ix x) (ix y) s (nI u)
  · rw [if_pos h]
    exact ⟨fun _ q => q h, fun _ => rfl⟩
  · rw [if_neg h]
    exact ⟨fun q => absurd q (by decide), fun q => absurd h q⟩
/-! the least set of the fewest -/
def bB (u : Nat) : Nat := ix (f_J6_bitCount_0f7a4 (nI u))
theorem bits_tab : ∀ u : Nat, u < 128 → f_J6_bitCount_0f7a4 (nI u) = nI (bB u) ∧ bB u ≤ 7 ∧ f_L_bits (nI u) = nI (bB u) := by decide +kernel
theorem bits_le : ∀ n : Nat, n < 8 → ∀ s : Nat, s < 2 ^ n → bB s ≤ n := by decide +kernel
theorem pw7 {s u : Nat} (hs : s ≤ 7) (hu : u < 2 ^ s) : u < 128 := Nat.lt_of_lt_of_le hu (Nat.pow_le_pow_right (by decide) hs)
section LEAST
variable {B : Nat → Nat}
def better (B : Nat → Nat) (P : Nat → Prop) (R u : Nat) : Prop := P u → B R < B u ∨ (B R = B u ∧ R ≤ u)
def CB (B : Nat → Nat) (P : Nat → Prop) (s t : Nat) (r c : Int32) : Prop := (r = -9 ∧ c = nI (s + 1) ∧ ∀ u, u < t → ¬ P u) ∨ ∃ R, R < t ∧ r = nI R ∧ c = nI (B R) ∧ P R ∧ ∀ u, u < t → better B P R u
def LBg (B : Nat → Nat) (P : Nat → Prop) (M t : Nat) (r : Int32) : Prop := (r = -9 ∧ ∀ u, t ≤ u → u < M → ¬ P u) ∨ ∃ R, t ≤ R ∧ R < M ∧ r = nI R ∧ P R ∧ ∀ u, t ≤ u → u < M → better B P R u
theorem LB_CB {P : Nat → Prop} {s M : Nat} {r r' c : Int32} (h1 : LBg B P M 0 r) (h2 : CB B P s M r' c) : r' = r := by
  rcases h1 with ⟨e1, n1⟩ | ⟨R, _, hR, e1, p1, b1⟩
  · rcases h2 with ⟨e2, _, _⟩ | ⟨R', hR', _, _, p2, _⟩
    · rw [e1, e2]
    · exact absurd p2 (n1 R' (by omega) hR')
  · rcases h2 with ⟨_, _, n2⟩ | ⟨R', hR', e2, _, p2, b2⟩
    · exact absurd p1 (n2 R hR)
    · have q1 := b1 R' (by omega) hR' p2
      have q2 := b2 R hR p1
      have : R = R' := by omega
      rw [e1, e2, this]
theorem LBg_take {P : Nat → Prop} {M t : Nat} {r : Int32} (hM : M ≤ 128) (ht : t < M) (h : LBg B P M (t + 1) r) (hp : P t) (hb : r = -9 ∨ ∀ R, R < M → r = nI R → B t ≤ B R) : LBg B P M t (nI t) := by
  refine Or.inr ⟨t, Nat.le_refl _, ht, rfl, hp, fun u hu huM => ?_⟩
  by_cases hut : u = t
  · subst hut; exact fun _ => Or.inr ⟨rfl, Nat.le_refl _⟩
  rcases h with ⟨e1, n1⟩ | ⟨R, h1, hR, e1, p1, b1⟩
  · exact fun q => absurd q (n1 u (by omega) huM)
  · intro q
    have q2 := b1 u (by omega) huM q
    rcases hb with hb | hb
    · rw [e1] at hb
      have z := congrArg Int32.toInt hb
      rw [show (-9 : Int32).toInt = -9 by decide, nI_toInt (by omega)] at z
      omega
    · have := hb R hR e1
      omega
theorem LBg_skip {P : Nat → Prop} {M t : Nat} {r : Int32} (h : LBg B P M (t + 1) r) (hp : ¬ P t ∨ ∀ R, R < M → r = nI R → B R < B t) (hr : ¬ P t ∨ r ≠ -9) : LBg B P M t r := by
  rcases h with ⟨e1, n1⟩ | ⟨R, h1, hR, e1, p1, b1⟩
  · refine Or.inl ⟨e1, fun u hu huM => ?_⟩
    by_cases hut : u = t
    · subst hut
      rcases hr with hr | hr
      · exact hr
      · exact absurd e1 hr
    · exact n1 u (by omega) huM
  · refine Or.inr ⟨R, by omega, hR, e1, p1, fun u hu huM => ?_⟩
    by_cases hut : u = t
    · subst hut
      intro q
      rcases hp with hp | hp
      · exact absurd q hp
      · exact Or.inl (hp R hR e1)
    · exact b1 u (by omega) huM
end LEAST
def LB (P : Nat → Prop) (M t : Nat) (r : Int32) : Prop := LBg bB P M t r
theorem LB_ge {P : Nat → Prop} {M t : Nat} {r : Int32} (hM : M ≤ 128) (h : LB P M t r) : r.toInt = -9 ∨ (0 ≤ r.toInt ∧ r.toInt < 128) := by
  rcases h with ⟨e1, _⟩ | ⟨R, h1, hR, e1, p1, b1⟩
  · left; rw [e1]; decide
  · right
    clear b1
    rw [e1, nI_toInt (by omega)]
    omega
theorem bits_cmp {a b : Nat} (ha : a < 128) (hb : b < 128) : ((f_L_bits (nI a)).toInt ≤ (f_L_bits (nI b)).toInt → bB a ≤ bB b) ∧ ((f_L_bits (nI a)).toInt < (f_L_bits (nI b)).toInt → bB a < bB b) := by
  obtain ⟨-, a2, a3⟩ := bits_tab a ha
  obtain ⟨-, b2, b3⟩ := bits_tab b hb
  rw [a3, b3]
  generalize bB a = x at a2
  generalize bB b = y at b2
  rw [nI_toInt (by omega), nI_toInt (by omega)]
  exact ⟨fun h => by omega, fun h => by omega⟩
theorem LB_take {P : Nat → Prop} {M t : Nat} {r : Int32} (hM : M ≤ 128) (ht : t < M) (h : LB P M (t + 1) r) (hp : P t) (hb : r.toInt < 0 ∨ (f_L_bits (nI t)).toInt ≤ (f_L_bits r).toInt) : LB P M t (nI t) := by
  refine LBg_take hM ht h hp ?_
  rcases hb with hb | hb
  · left
    have q := LB_ge hM h
    exact qm_eq (by rw [show (-9 : Int32).toInt = -9 by decide]; omega)
  · right
    intro R hR e
    rw [e] at hb
    exact (bits_cmp (Nat.lt_of_lt_of_le ht hM) (Nat.lt_of_lt_of_le hR hM)).1 hb
theorem LB_skip {P : Nat → Prop} {M t : Nat} {r : Int32} (hM : M ≤ 128) (ht : t < M) (h : LB P M (t + 1) r) (hp : ¬ P t ∨ (0 ≤ r.toInt ∧ (f_L_bits r).toInt < (f_L_bits (nI t)).toInt)) : LB P M t r := by
  rcases hp with hp | ⟨h0, hp⟩
  · exact LBg_skip h (Or.inl hp) (Or.inl hp)
  · refine LBg_skip h (Or.inr (fun R hR e => ?_)) (Or.inr (fun e => by rw [e] at h0; exact absurd h0 (by decide)))
    rw [e] at hp
    exact (bits_cmp (Nat.lt_of_lt_of_le hR hM) (Nat.lt_of_lt_of_le ht hM)).2 hp
/-- the class's search -/
theorem fo_80 {B : Nat → Nat} (hBt : ∀ u, u < 128 → f_J6_bitCount_0f7a4 (nI u) = nI (B u) ∧ B u ≤ 7) (hBl : ∀ n : Nat, n < 8 → ∀ u : Nat, u < 2 ^ n → B u ≤ n) {x y : Int32} {s : Nat} (hs : s ≤ 7) (hst : Stq σ s) : ∀ (n t : Nat) (r c : Int32) (σ' : St), t ≤ 2 ^ s → 2 ^ s - t < n → (∀ q, q ≠ 6 → σ' q = σ q) → CB B (tk σ (ix x) (ix y) s) s t r c → (∃ c', CB B (tk σ (ix x) (ix y) s) s (2 ^ s) (lp_X3_forged_80 x y 1 0 (nI s) n r c (nI t) σ').1 c') ∧ ∀ q, q ≠ 6 → (lp_X3_forged_80 x y 1 0 (nI s) n r c (nI t) σ').2 q = σ q := by
  have p7 : 2 ^ s ≤ 128 := Nat.pow_le_pow_right (by decide) hs
  have esh : (1 : Int32) <<< (nI s &&& 31) = nI (2 ^ s) := by
    have T : ∀ s : Nat, s < 8 → (1 : Int32) <<< (nI s &&& 31) = nI (2 ^ s) := by decide +kernel
    exact T s (by omega)
  have j1 : ix 1 = 1 := rfl
  intro n
  induction n with
  | zero => intro t r c σ' _ h; exact absurd h (Nat.not_lt_zero _)
  | succ n ih =>
    intro t r c σ' ht hn h6 hB
    rw [lp_X3_forged_80, esh]
    by_cases h : t = 2 ^ s
    · rw [← h, if_pos ((nI_gE (by omega) (by omega)).mpr (Nat.le_refl _))]
      exact ⟨⟨c, hB⟩, h6⟩
    have et := hBt t (by omega)
    have htk := taken_iff (x := x) (y := y) hs (show t < 2 ^ s by omega) hst h6
    rw [if_neg (fun q => by have := (nI_gE (by omega) (by omega)).mp q; omega), j1, n1, et.1]
    have bl := hBl s (by omega) t (by omega)
    by_cases hc : c ≤ nI (B t)
    · rw [if_pos hc]
      refine ih (t + 1) r c σ' (by omega) (by omega) h6 ?_
      rcases hB with ⟨_, e2, _⟩ | ⟨R, hR, e1, e2, p1, b1⟩
      · rw [e2] at hc
        have := (nI_gE (k := B t) (n := s + 1) (by omega) (by omega)).mp hc
        omega
      · rw [e2] at hc
        have eR := hBt R (by omega)
        have hc' := (nI_gE (k := B t) (n := B R) (by omega) (by omega)).mp hc
        refine Or.inr ⟨R, by omega, e1, e2, p1, fun u hu => ?_⟩
        by_cases hut : u = t
        · subst hut; intro _; omega
        · exact b1 u (by omega)
    · rw [if_neg hc]
      by_cases hz : (f_X3_isTakenFor σ' x y 1 0 (nI t)).1 = 0
      · have hnt := htk.1.mp hz
        rw [if_pos hz]
        refine ih (t + 1) r c _ (by omega) (by omega) htk.2 ?_
        rcases hB with ⟨e1, e2, n2⟩ | ⟨R, hR, e1, e2, p1, b1⟩
        · refine Or.inl ⟨e1, e2, fun u hu => ?_⟩
          by_cases hut : u = t
          · subst hut; exact hnt
          · exact n2 u (by omega)
        · refine Or.inr ⟨R, by omega, e1, e2, p1, fun u hu => ?_⟩
          by_cases hut : u = t
          · subst hut; exact fun q => absurd q hnt
          · exact b1 u (by omega)
      · have ht' : tk σ (ix x) (ix y) s t := Classical.byContradiction (fun q => hz (htk.1.mpr q))
        rw [if_neg hz]
        refine ih (t + 1) (nI t) (nI (B t)) _ (by omega) (by omega) htk.2 (Or.inr ⟨t, by omega, rfl, rfl, ht', fun u hu => ?_⟩)
        by_cases hut : u = t
        · subst hut; exact fun _ => Or.inr ⟨rfl, Nat.le_refl _⟩
        intro q
        rcases hB with ⟨e1, e2, n2⟩ | ⟨R, hR, e1, e2, p1, b1⟩
        · exact absurd q (n2 u (by omega))
        · have eR := hBt R (by omega)
          have hc' : ¬ B R ≤ B t := fun z => hc (by rw [e2]; exact (nI_gE (by omega) (by omega)).mpr z)
          have := b1 u (by omega) q
          omega
theorem as_p {s : Nat} (hs : s ≤ 7) (hst : Stq σ s) : ∀ (n j : Nat), j ≤ s → s - j < n → lp_X3_areStoppers_2 σ 1 0 (nI s) n (nI j) = Sum.inr () := by
  have z1 : (1 : Int32).toInt = 1 := by decide
  have z9 : (9 : Int32).toInt = 9 := by decide
  have e14 : 13 + 1 = 14 := rfl
  intro n
  induction n with
  | zero => intro j _ h; exact absurd h (Nat.not_lt_zero _)
  | succ n ih =>
    intro j hj hn
    rw [lp_X3_areStoppers_2]
    by_cases h : j = s
    · subst h
      rw [if_pos ((nI_gE (by omega) (by omega)).mpr (Nat.le_refl _))]
    · obtain ⟨e1, e2⟩ := ix2k (k := j) (by omega)
      have q := hst j (by omega)
      rw [if_neg (fun q => by have := (nI_gE (by omega) (by omega)).mp q; omega), e14, e1, e2, if_neg (isSmell_p q.1.1 q.1.2), if_neg (qm_nlt (by omega)), if_pos (qm_le (by omega)), n1]
      exact ih (j + 1) (by omega) (by omega)
theorem twoS (h : Rl σ τ) {x y : Int32} (x0 : 0 ≤ x.toInt) (x1 : x.toInt < (σ 0 4).toInt) (y0 : 0 ≤ y.toInt) (y1 : y.toInt < (σ 0 4).toInt) (hxy : x ≠ y) : ¬ f_X3_areTwoSigns σ x y = 0 := by
  unfold f_X3_areTwoSigns
  rw [if_neg (isSign_p x0 x1), if_neg (isSign_p y0 y1), if_neg hxy]
  decide
theorem twoS_n {x : Int32} : f_X3_areTwoSigns σ x x = 0 := by
  unfold f_X3_areTwoSigns
  by_cases h : f_X3_isSign σ x = 0
  · rw [if_pos h]
  · rw [if_neg h, if_neg h, if_pos rfl]
def only (k c : Nat) : Prop := c = k
theorem u2m {s : Nat} (hs : s ≤ 100) : (2 * (nI s).toInt64).toInt = 2 * (s : Int) := by rw [l2_toInt, nI_toInt (by omega)]
/-- the law's best set is what the class answers -/
theorem q_forged (h : Rl σ τ) {x y : Int32} (x0 : 0 ≤ x.toInt) (x1 : x.toInt < (σ 0 4).toInt) (y0 : 0 ≤ y.toInt) (y1 : y.toInt < (σ 0 4).toInt) (hxy : x ≠ y) {s : Nat} (hs : s ≤ 7) (hst : Stq σ s) {r : Int32} (hL : LB (tk σ (ix x) (ix y) s) (2 ^ s) 0 r) : (f_X3_forged σ x y 1 1 0 (nI s)).1 = r ∧ Fx (only 6) σ (f_X3_forged σ x y 1 1 0 (nI s)).2 := by
  have z0 : (0 : Int32).toInt = 0 := by decide
  have z10 : (10 : Int32).toInt = 10 := by decide
  have es := nI_toInt (n := s) (by omega)
  have e2 := u2m (s := s) (by omega)
  have p7 : 2 ^ s ≤ 128 := Nat.pow_le_pow_right (by decide) hs
  have sp := (sp_e (i := 0) (n := 2 * (nI s).toInt64) h.sh (by omega) (by omega)).1 (by omega) (by omega) (by omega)
  have j1 : ix 1 = 1 := rfl
  have hst' : Stq (u2 σ 0 9 0) s := fun j hj => by rw [u2_nc (by omega)]; exact hst j hj
  have a2 : f_X3_areStoppers (u2 σ 0 9 0) 1 0 (nI s) = 1 := by
    unfold f_X3_areStoppers
    have q : lp_X3_areStoppers_2 (u2 σ 0 9 0) 1 0 (nI s) 200 0 = Sum.inr () := as_p hs hst' 200 0 (by omega) (by omega)
    rw [q]
  unfold f_X3_forged
  have hfu : ∃ N, N = 1100 ∧ 2 ^ s < N := ⟨1100, rfl, by omega⟩
  obtain ⟨N, eN, hN⟩ := hfu
  rw [← eN]
  rw [if_neg (twoS h x0 x1 y0 y1 hxy), sp]
  dsimp only
  rw [if_pos rfl, if_neg (qm_nlt (by omega)), j1, a2, if_neg (show ¬ (1 : Int32) = 0 by decide), show nI s + 1 = nI (s + 1) from n1]
  have et : ∀ u, tk (u2 σ 0 9 0) (ix x) (ix y) s u ↔ tk σ (ix x) (ix y) s u := fun u => by
    unfold tk tkS
    rw [u2_nk (show (7 : Nat) ≠ 9 by omega), u2_nc (show 25 + ix x ≠ 0 by omega), u2_nc (show 25 + ix y ≠ 0 by omega), u2_nc (show (14 : Nat) ≠ 0 by omega)]
  have eP : tk (u2 σ 0 9 0) (ix x) (ix y) s = tk σ (ix x) (ix y) s := funext (fun u => propext (et u))
  have q := fo_80 (B := bB) (fun u hu => ⟨(bits_tab u hu).1, (bits_tab u hu).2.1⟩) bits_le (σ := u2 σ 0 9 0) (x := x) (y := y) hs hst' N 0 (-9) (nI (s + 1)) (u2 σ 0 9 0) (Nat.zero_le _) (by rw [Nat.sub_zero]; exact hN) (fun _ _ => rfl) (Or.inl ⟨rfl, rfl, fun u hu => absurd hu (Nat.not_lt_zero _)⟩)
  rw [eP] at q
  obtain ⟨⟨c', q1⟩, q2⟩ := q
  have e0 : (nI 0 : Int32) = 0 := rfl
  rw [e0] at q1 q2
  generalize lp_X3_forged_80 x y 1 0 (nI s) N (-9) (nI (s + 1)) 0 (u2 σ 0 9 0) = zz at q1 q2 ⊢
  obtain ⟨v, T⟩ := zz
  have q2 : ∀ q : Nat, q ≠ 6 → T q = u2 σ 0 9 0 q := q2
  refine ⟨LB_CB hL q1, fun k hk => ?_, fun c c0 c6 => ?_⟩
  · show T 0 k = σ 0 k
    rw [q2 0 (by omega), u2_nk hk]
  · show T c = σ c
    rw [q2 c c6, u2_nc c0]
def none_ (_ : Nat) : Prop := False
theorem q_forged_xx {x a b c d : Int32} : (f_X3_forged σ x x a b c d) = (-1, u2 σ 0 9 0) := by
  unfold f_X3_forged
  generalize (1100 : Nat) = N
  rw [if_pos twoS_n]
  rfl
theorem q_forged_sp (h : Rl σ τ) {x y : Int32} (x0 : 0 ≤ x.toInt) (x1 : x.toInt < (σ 0 4).toInt) (y0 : 0 ≤ y.toInt) (y1 : y.toInt < (σ 0 4).toInt) (hxy : x ≠ y) {a b c d r f : Int32} (hr : ¬ r = 0) (hsp : f_X3_spanRefusal σ a b c (2 * d.toInt64) = (r, u2 σ 0 9 f)) : f_X3_forged σ x y a b c d = (r, u2 σ 0 9 f) := by
  unfold f_X3_forged
  generalize (1100 : Nat) = N
  rw [if_neg (twoS h x0 x1 y0 y1 hxy)]
  generalize f_X3_spanRefusal σ a b c (2 * d.toInt64) = z at hsp ⊢
  subst hsp
  exact if_neg hr
theorem q_forged_11 (h : Rl σ τ) {x y : Int32} (x0 : 0 ≤ x.toInt) (x1 : x.toInt < (σ 0 4).toInt) (y0 : 0 ≤ y.toInt) (y1 : y.toInt < (σ 0 4).toInt) (hxy : x ≠ y) : f_X3_forged σ x y 1 1 0 11 = (-2, u2 σ 0 9 0) := by
  have z0 : (0 : Int32).toInt = 0 := by decide
  have z : (2 * (11 : Int32).toInt64).toInt = 22 := by decide
  have sp := (sp_e (i := 0) (n := 2 * (11 : Int32).toInt64) h.sh (by omega) (by omega)).1 (by omega) (by omega) (by omega)
  unfold f_X3_forged
  generalize (1100 : Nat) = N
  rw [if_neg (twoS h x0 x1 y0 y1 hxy)]
  generalize f_X3_spanRefusal σ 1 1 0 (2 * (11 : Int32).toInt64) = z at sp ⊢
  subst sp
  exact (if_pos rfl).trans (if_pos (show (10 : Int32) < 11 by decide))
theorem q_forged_1 (h : Rl σ τ) {x y : Int32} (x0 : 0 ≤ x.toInt) (x1 : x.toInt < (σ 0 4).toInt) (y0 : 0 ≤ y.toInt) (y1 : y.toInt < (σ 0 4).toInt) (hxy : x ≠ y) (hz : σ 14 1 = 0) : f_X3_forged σ x y 1 1 0 1 = (-2, u2 σ 0 9 0) := by
  have z0 : (0 : Int32).toInt = 0 := by decide
  have z : (2 * (1 : Int32).toInt64).toInt = 2 := by decide
  have sp := (sp_e (i := 0) (n := 2 * (1 : Int32).toInt64) h.sh (by omega) (by omega)).1 (by omega) (by omega) (by omega)
  have j1 : ix 1 = 1 := rfl
  have q : lp_X3_areStoppers_2 (u2 σ 0 9 0) 1 0 1 200 0 = Sum.inl 0 := by
    have e14 : 13 + 1 = 14 := rfl
    have hfu : ∃ N, N + 1 = 200 := ⟨199, rfl⟩
    obtain ⟨N, eN⟩ := hfu
    rw [← eN, lp_X3_areStoppers_2, if_neg (by decide), e14]
    have e2 : ix (0 + 2 * 0 + 1) = 1 := by decide
    rw [e2, u2_nc (show (14 : Nat) ≠ 0 by omega), hz]
    by_cases hsm : f_X3_isSmell (σ 14 (ix (0 + 2 * 0))) = 0
    · rw [if_pos hsm]
    · rw [if_neg hsm, if_pos (by decide)]
  have q' : f_X3_areStoppers (u2 σ 0 9 0) 1 0 1 = 0 := by
    unfold f_X3_areStoppers
    rw [q]
  unfold f_X3_forged
  generalize (1100 : Nat) = N
  rw [if_neg (twoS h x0 x1 y0 y1 hxy)]
  generalize f_X3_spanRefusal σ 1 1 0 (2 * (1 : Int32).toInt64) = z at sp ⊢
  subst sp
  exact (if_pos rfl).trans ((if_neg (show ¬ (10 : Int32) < 1 by decide)).trans (if_pos q'))
end FO
