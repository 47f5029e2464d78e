/-! fresh: the new smell -/
section FR
variable {σ τ : St}
theorem sm_upd {g : Nat → Int32} {a : Nat} {A : Int32} (hA : 0 ≤ A.toInt ∧ A.toInt ≤ 1000) : ∀ n : Nat, n ≤ 100 → (∀ k, k < n → 0 ≤ (g k).toInt ∧ (g k).toInt ≤ 1000) → (sm (upd g a A) n).toInt = if a < n then (sm g n).toInt - (g a).toInt + A.toInt else (sm g n).toInt := by
  intro n
  induction n with
  | zero => intro _ _; rw [if_neg (Nat.not_lt_zero _)]; rfl
  | succ n ih =>
    intro hn hg
    have i := ih (by omega) (fun k hk => hg k (by omega))
    have b := sm_bd (g := g) n (by omega) (fun k hk => hg k (by omega))
    have gn := hg n (by omega)
    have e1 : (sm g (n + 1)).toInt = (sm g n).toInt + (g n).toInt := a_toInt (by omega) (by omega)
    have b2 := sm_bd (g := upd g a A) n (by omega) (fun k hk => by
      by_cases h : k = a
      · rw [h, upd_at]; exact hA
      · rw [upd_ne _ _ h]; exact hg k (by omega))
    by_cases h : n = a
    · subst h
      have e2 : (sm (upd g n A) (n + 1)).toInt = (sm (upd g n A) n).toInt + (upd g n A n).toInt := a_toInt (by rw [upd_at]; omega) (by rw [upd_at]; omega)
      rw [if_neg (Nat.lt_irrefl _)] at i
      rw [if_pos (by omega), e2, e1, upd_at, i]
      omega
    · have e2 : (sm (upd g a A) (n + 1)).toInt = (sm (upd g a A) n).toInt + (upd g a A n).toInt := a_toInt (by rw [upd_ne _ _ h]; omega) (by rw [upd_ne _ _ h]; omega)
      rw [e2, e1, upd_ne _ _ h, i]
      by_cases h2 : a < n
      · rw [if_pos h2, if_pos (by omega)]; omega
      · rw [if_neg h2, if_neg (by omega)]
theorem jabs_comm {a b : Int32} (a0 : 0 ≤ a.toInt ∧ a.toInt ≤ 1000) (b0 : 0 ≤ b.toInt ∧ b.toInt ≤ 1000) : jabs (a - b) = jabs (b - a) := by
  have z0 : (0 : Int32).toInt = 0 := by decide
  have e1 := s_toInt (a := a) (b := b) (by omega) (by omega)
  have e2 := s_toInt (a := b) (b := a) (by omega) (by omega)
  have e3 := s_toInt (a := 0) (b := a - b) (by omega) (by omega)
  have e4 := s_toInt (a := 0) (b := b - a) (by omega) (by omega)
  unfold jabs
  by_cases h : 0 ≤ a - b
  · have h1 := qt_le h
    rw [if_pos h]
    by_cases h2 : 0 ≤ b - a
    · have h3 := qt_le h2
      rw [if_pos h2]; exact qm_eq (by omega)
    · rw [if_neg h2]; exact qm_eq (by omega)
  · have h1 := qt_nle h
    rw [if_neg h, if_pos (qm_le (by omega))]
    exact qm_eq (by omega)
/-- how far the smell of code a, b, u, v is from SIGN z -/
def zG (σ : St) (z a b : Nat) (u v : Int32) (k : Nat) : Int32 := jabs (σ (25 + z) k - (if k = a then u else if k = b then v else 0))
def zq (σ : St) (z a b : Nat) (u v : Int32) : Int32 := sm (zG σ z a b u v) 9
def cmin (S : Nat → Int32) : Nat → Int32
  | 0 => 2147483647
  | z + 1 => jmin (cmin S z) (S z)
def lmin (S : Nat → Int32) : Nat → Int32
  | 0 => 9999
  | z + 1 => if S z < lmin S z then S z else lmin S z
theorem cl_min {S : Nat → Int32} : ∀ z : Nat, (∀ y, y < z → 0 ≤ (S y).toInt ∧ (S y).toInt ≤ 9000) → (0 ≤ (lmin S z).toInt ∧ (lmin S z).toInt ≤ 9999) ∧ (1 ≤ z → cmin S z = lmin S z) := by
  have zm : (2147483647 : Int32).toInt = 2147483647 := by decide
  have z9 : (9999 : Int32).toInt = 9999 := by decide
  intro z
  induction z with
  | zero =>
    intro _
    refine ⟨?_, fun h => absurd h (by omega)⟩
    show 0 ≤ (9999 : Int32).toInt ∧ (9999 : Int32).toInt ≤ 9999
    exact ⟨by decide, by decide⟩
  | succ z ih =>
    intro h
    obtain ⟨i1, i2⟩ := ih (fun y hy => h y (by omega))
    have hz := h z (by omega)
    refine ⟨?_, fun _ => ?_⟩
    · show 0 ≤ (if S z < lmin S z then S z else lmin S z).toInt ∧ (if S z < lmin S z then S z else lmin S z).toInt ≤ 9999
      by_cases c : S z < lmin S z
      · rw [if_pos c]; omega
      · rw [if_neg c]; exact i1
    · show jmin (cmin S z) (S z) = (if S z < lmin S z then S z else lmin S z)
      unfold jmin
      by_cases h1 : 1 ≤ z
      · rw [i2 h1]
      · have e : z = 0 := by omega
        subst e
        rw [if_pos (show S 0 < cmin S 0 from qm_lt (by show (S 0).toInt < (2147483647 : Int32).toInt; omega)), if_pos (show S 0 < lmin S 0 from qm_lt (by show (S 0).toInt < (9999 : Int32).toInt; omega))]
theorem zterm (h : Rl σ τ) {z a b : Nat} (hz : (z : Int) < (σ 0 4).toInt) (ha : a < 9) (hb : b < 9) (hab : a ≠ b) {u v : Int32} (hu : 0 ≤ u.toInt ∧ u.toInt ≤ 9) (hv : 0 ≤ v.toInt ∧ v.toInt ≤ 9) :
    ((((σ (17 + z) 1) - (σ (25 + z) a)) - (σ (25 + z) b)) + (jabs (u - (σ (25 + z) a)))) + (jabs (v - (σ (25 + z) b))) = zq σ z a b u v ∧ 0 ≤ (zq σ z a b u v).toInt ∧ (zq σ z a b u v).toInt ≤ 9000 := by
  have hn := h.n
  have z0 : (0 : Int32).toInt = 0 := by decide
  have ez := nI_toInt (n := z) (by omega)
  have ei : ix (nI z) = z := ix_nI (by omega)
  have hs : ∀ k, k < 9 → 0 ≤ (σ (25 + z) k).toInt ∧ (σ (25 + z) k).toInt ≤ 9 := fun k hk => by
    have q := st9I h (x := nI z) (by omega) (by omega) hk
    rw [ei] at q
    exact q.2
  have sa := hs a ha
  have sb := hs b hb
  have ja := jabs_bd (a := u) (b := σ (25 + z) a) (B := 9) hu.1 hu.2 sa.1 sa.2 (by omega)
  have jb := jabs_bd (a := v) (b := σ (25 + z) b) (B := 9) hv.1 hv.2 sb.1 sb.2 (by omega)
  have hg : ∀ k, k < 9 → 0 ≤ (σ (25 + z) k).toInt ∧ (σ (25 + z) k).toInt ≤ 1000 := fun k hk => by have := hs k hk; omega
  have b0 := sm_bd (g := σ (25 + z)) 9 (by omega) hg
  have e1 := sm_upd (g := σ (25 + z)) (a := a) (A := jabs (u - σ (25 + z) a)) (by omega) 9 (by omega) hg
  have hg1 : ∀ k, k < 9 → 0 ≤ (upd (σ (25 + z)) a (jabs (u - σ (25 + z) a)) k).toInt ∧ (upd (σ (25 + z)) a (jabs (u - σ (25 + z) a)) k).toInt ≤ 1000 := fun k hk => by
    by_cases c : k = a
    · rw [c, upd_at]; omega
    · rw [upd_ne _ _ c]; exact hg k hk
  have e2 := sm_upd (g := upd (σ (25 + z)) a (jabs (u - σ (25 + z) a))) (a := b) (A := jabs (v - σ (25 + z) b)) (by omega) 9 (by omega) hg1
  rw [if_pos ha] at e1
  rw [if_pos hb, e1, upd_ne _ _ (fun q => hab q.symm)] at e2
  have eq : zq σ z a b u v = sm (upd (upd (σ (25 + z)) a (jabs (u - σ (25 + z) a))) b (jabs (v - σ (25 + z) b))) 9 := by
    refine sm_congr 9 (fun k hk => ?_)
    have sk := hs k hk
    unfold zG
    by_cases c : k = a
    · rw [if_pos c, upd_ne _ _ (by rw [c]; exact hab), c, upd_at]
      exact jabs_comm (by omega) (by omega)
    · rw [if_neg c]
      by_cases c2 : k = b
      · rw [if_pos c2, c2, upd_at]
        exact jabs_comm (by omega) (by omega)
      · rw [if_neg c2, upd_ne _ _ c2, upd_ne _ _ c]
        have e3 := s_toInt (a := σ (25 + z) k) (b := 0) (by omega) (by omega)
        unfold jabs
        rw [if_pos (qm_le (by omega))]
        exact qm_eq (by omega)
  have bz := sm_bd (g := zG σ z a b u v) 9 (by omega) (fun k hk => by
    have sk := hs k hk
    unfold zG
    by_cases c : k = a
    · rw [if_pos c]
      have := jabs_bd (a := σ (25 + z) k) (b := u) (B := 9) sk.1 sk.2 hu.1 hu.2 (by omega)
      omega
    · rw [if_neg c]
      by_cases c2 : k = b
      · rw [if_pos c2]
        have := jabs_bd (a := σ (25 + z) k) (b := v) (B := 9) sk.1 sk.2 hv.1 hv.2 (by omega)
        omega
      · rw [if_neg c2]
        have := jabs_bd (a := σ (25 + z) k) (b := 0) (B := 9) sk.1 sk.2 (by omega) (by omega) (by omega)
        omega)
  refine ⟨qm_eq ?_, bz⟩
  have t := h.tot hz
  rw [t, eq, e2]
  have f1 := s_toInt (a := sm (σ (25 + z)) 9) (b := σ (25 + z) a) (by omega) (by omega)
  have f2 := s_toInt (a := sm (σ (25 + z)) 9 - σ (25 + z) a) (b := σ (25 + z) b) (by omega) (by omega)
  have f3 := a_toInt (a := sm (σ (25 + z)) 9 - σ (25 + z) a - σ (25 + z) b) (b := jabs (u - σ (25 + z) a)) (by omega) (by omega)
  rw [a_toInt (by omega) (by omega), f3, f2, f1]
  omega
theorem la_7 (h : Rl σ τ) {a b : Nat} (ha : a < 9) (hb : b < 9) (hab : a ≠ b) {u v : Int32} (hu : 0 ≤ u.toInt ∧ u.toInt ≤ 9) (hv : 0 ≤ v.toInt ∧ v.toInt ≤ 9) : ∀ (n z : Nat), z ≤ ix (σ 0 4) → ix (σ 0 4) - z < n → lp_X3_leastApart_7 σ (nI a) (nI b) u v n (cmin (fun z => zq σ z a b u v) z) (nI z) = cmin (fun z => zq σ z a b u v) (ix (σ 0 4)) := by
  obtain ⟨hN, hN8, hN2, eN⟩ := h.nN
  intro n
  induction n with
  | zero => intro z _ h; exact absurd h (Nat.not_lt_zero _)
  | succ n ih =>
    intro z hz hn
    rw [lp_X3_leastApart_7]
    by_cases c : z = ix (σ 0 4)
    · have hge : σ 0 4 ≤ nI z := by rw [c, ← hN]; exact qm_le (Int.le_refl _)
      rw [if_pos hge, c]
    · have e := nI_toInt (n := z) (by omega)
      rw [if_neg (qm_nle (by omega)), ix_nI (show z < 2 ^ 31 by omega), ix_nI (show a < 2 ^ 31 by omega), ix_nI (show b < 2 ^ 31 by omega), n1, (zterm h (z := z) (by omega) ha hb hab hu hv).1]
      exact ih (z + 1) (by omega) (by omega)
theorem la_eq (h : Rl σ τ) {a b : Nat} (ha : a < 9) (hb : b < 9) (hab : a ≠ b) {u v : Int32} (hu : 0 ≤ u.toInt ∧ u.toInt ≤ 9) (hv : 0 ≤ v.toInt ∧ v.toInt ≤ 9) : f_X3_leastApart σ (nI a) (nI b) u v = lmin (fun z => zq σ z a b u v) (ix (σ 0 4)) ∧ 0 ≤ (f_X3_leastApart σ (nI a) (nI b) u v).toInt := by
  obtain ⟨hN, hN8, hN2, eN⟩ := h.nN
  have q : f_X3_leastApart σ (nI a) (nI b) u v = cmin (fun z => zq σ z a b u v) (ix (σ 0 4)) := la_7 h ha hb hab hu hv 200 0 (by omega) (by omega)
  obtain ⟨i1, i2⟩ := cl_min (S := fun z => zq σ z a b u v) (ix (σ 0 4)) (fun y hy => (zterm h (z := y) (by omega) ha hb hab hu hv).2)
  rw [q, i2 (by omega)]
  exact ⟨rfl, i1.1⟩
theorem la_8 {σ' : St} (h : ∀ c, c ≠ 8 → σ' c = σ c) {a b u v : Int32} : ∀ (n : Nat) (m z : Int32), lp_X3_leastApart_7 σ' a b u v n m z = lp_X3_leastApart_7 σ a b u v n m z := by
  intro n
  induction n with
  | zero => intro m z; rfl
  | succ n ih =>
    intro m z
    rw [lp_X3_leastApart_7, lp_X3_leastApart_7, h 0 (by omega)]
    by_cases c : σ 0 4 ≤ z
    · rw [if_pos c, if_pos c]
    · rw [if_neg c, if_neg c, ih]
      by_cases hz : 17 + ix z = 8
      · omega
      · rw [h (17 + ix z) (by omega), h (25 + ix z) (by omega)]
theorem la_same {σ' : St} (h : ∀ c, c ≠ 8 → σ' c = σ c) {a b u v : Int32} : f_X3_leastApart σ' a b u v = f_X3_leastApart σ a b u v := la_8 h 200 _ _
def Vc (c : Nat) : Prop := c < 8100 ∧ c / 900 < c / 100 % 9
def vl (σ : St) (c : Nat) : Int32 := f_X3_leastApart σ (nI (c / 900)) (nI (c / 100 % 9)) (nI (c / 10 % 10)) (nI (c % 10))
def btr (σ : St) (R u : Nat) : Prop := Vc u → (vl σ u).toInt < (vl σ R).toInt ∨ ((vl σ u).toInt = (vl σ R).toInt ∧ R ≤ u)
def FA (σ : St) (t : Nat) (T : St) : Prop := (∀ c, c ≠ 8 → T c = σ c) ∧ ((T 8 0 = -1 ∧ ∀ u, u < t → ¬ Vc u) ∨ ∃ R, R < t ∧ Vc R ∧ T 8 0 = vl σ R ∧ T 8 1 = nI (R / 900) ∧ T 8 2 = nI (R / 100 % 9) ∧ T 8 3 = nI (R / 10 % 10) ∧ T 8 4 = nI (R % 10) ∧ ∀ u, u < t → btr σ R u)
def FD (σ : St) (t : Nat) (m f : Int32) : Prop := (m = -1 ∧ f = 0 ∧ ∀ u, t ≤ u → ¬ Vc u) ∨ ∃ R, t ≤ R ∧ Vc R ∧ m = vl σ R ∧ f = nI R ∧ ∀ u, t ≤ u → btr σ R u
theorem FA_skip {t t' : Nat} {T : St} (htt : t ≤ t') (h : FA σ t T) (hv : ∀ u, t ≤ u → u < t' → ¬ Vc u) : FA σ t' T := by
  refine ⟨h.1, ?_⟩
  rcases h.2 with ⟨e, n⟩ | ⟨R, h1, h2, e0, e1, e2, e3, e4, b⟩
  · refine Or.inl ⟨e, fun u hu => ?_⟩
    by_cases c : u < t
    · exact n u c
    · exact hv u (by omega) hu
  · refine Or.inr ⟨R, by omega, h2, e0, e1, e2, e3, e4, fun u hu => ?_⟩
    by_cases c : u < t
    · exact b u c
    · exact fun q => absurd q (hv u (by omega) hu)
theorem FD_skip {t t' : Nat} {m f : Int32} (h : FD σ t' m f) (hv : ∀ u, t ≤ u → u < t' → ¬ Vc u) (htt : t ≤ t') : FD σ t m f := by
  rcases h with ⟨e, e2, n⟩ | ⟨R, h1, h2, e0, e1, b⟩
  · refine Or.inl ⟨e, e2, fun u hu => ?_⟩
    by_cases c : t' ≤ u
    · exact n u c
    · exact hv u hu (by omega)
  · refine Or.inr ⟨R, by omega, h2, e0, e1, fun u hu => ?_⟩
    by_cases c : t' ≤ u
    · exact b u c
    · exact fun q => absurd q (hv u hu (by omega))
theorem vl_bd (h : Rl σ τ) {c : Nat} (hc : Vc c) : 0 ≤ (vl σ c).toInt := by
  have h1 := hc.1
  have h2 := hc.2
  have e1 := nI_toInt (n := c / 10 % 10) (by omega)
  have e2 := nI_toInt (n := c % 10) (by omega)
  exact (la_eq h (a := c / 900) (b := c / 100 % 9) (by omega) (by omega) (by omega) (by omega) (by omega)).2
theorem FD_step (h : Rl σ τ) {t : Nat} {m f : Int32} (hD : FD σ (t + 1) m f) (ht : Vc t) : FD σ t (if m < vl σ t then vl σ t else m) (if m ≤ vl σ t then nI t else f) := by
  have hz := vl_bd h ht
  have zm : (-1 : Int32).toInt = -1 := by decide
  rcases hD with ⟨e, e2, n⟩ | ⟨R, h1, h2, e0, e1, b⟩
  · rw [e, if_pos (qm_lt (by omega)), if_pos (qm_le (by omega))]
    refine Or.inr ⟨t, Nat.le_refl _, ht, rfl, rfl, fun u hu q => ?_⟩
    by_cases c : u = t
    · subst c; exact Or.inr ⟨rfl, Nat.le_refl _⟩
    · exact absurd q (n u (by omega))
  · rw [e0, e1]
    by_cases c : vl σ R ≤ vl σ t
    · have c2 := qt_le c
      rw [if_pos c]
      refine Or.inr ⟨t, Nat.le_refl _, ht, ?_, rfl, fun u hu q => ?_⟩
      · by_cases c3 : vl σ R < vl σ t
        · rw [if_pos c3]
        · rw [if_neg c3]
          have := qt_nlt c3
          exact qm_eq (by omega)
      · by_cases cu : u = t
        · subst cu; exact Or.inr ⟨rfl, Nat.le_refl _⟩
        · have := b u (by omega) q
          omega
    · have c2 := qt_nle c
      rw [if_neg c, if_neg (qm_nlt (by omega))]
      refine Or.inr ⟨R, by omega, h2, rfl, rfl, fun u hu q => ?_⟩
      by_cases cu : u = t
      · subst cu; exact Or.inl c2
      · exact b u (by omega) q
theorem dg (a b u v : Nat) (hb : b < 9) (hu : u < 10) (hv : v < 10) : (900 * a + 100 * b + 10 * u + v) / 900 = a ∧ (900 * a + 100 * b + 10 * u + v) / 100 % 9 = b ∧ (900 * a + 100 * b + 10 * u + v) / 10 % 10 = u ∧ (900 * a + 100 * b + 10 * u + v) % 10 = v := by omega
theorem fr_11 (h : Rl σ τ) {a b u : Nat} (hab : a < b) (hb : b < 9) (hu : u < 10) : ∀ (n v : Nat) (T : St), v ≤ 10 → 10 - v < n → FA σ (900 * a + 100 * b + 10 * u + v) T → FA σ (900 * a + 100 * b + 10 * u + 10) (lp_X3_tryStrengths_11 (nI a) (nI b) (nI u) n (nI v) T) := by
  have z9 : (9 : Int32).toInt = 9 := by decide
  intro n
  induction n with
  | zero => intro v T _ h; exact absurd h (Nat.not_lt_zero _)
  | succ n ih =>
    intro v T hv hn hF
    have ev := nI_toInt (n := v) (by omega)
    rw [lp_X3_tryStrengths_11]
    by_cases c : v = 10
    · subst c
      rw [if_pos (by decide)]
      exact hF
    obtain ⟨d1, d2, d3, d4⟩ := dg a b u v hb hu (by omega)
    have hV : Vc (900 * a + 100 * b + 10 * u + v) := ⟨by omega, by rw [d1, d2]; exact hab⟩
    have eV : vl σ (900 * a + 100 * b + 10 * u + v) = f_X3_leastApart σ (nI a) (nI b) (nI u) (nI v) := by unfold vl; rw [d1, d2, d3, d4]
    have hz := vl_bd h hV
    have zm : (-1 : Int32).toInt = -1 := by decide
    have i0 : ix 0 = 0 := rfl
    have i1 : ix 1 = 1 := rfl
    have i2 : ix 2 = 2 := rfl
    have i3 : ix 3 = 3 := rfl
    have i4 : ix 4 = 4 := rfl
    rw [if_neg (qm_nlt (by omega)), la_same hF.1, ← eV, n1, i0, i1, i2, i3, i4]
    generalize hc : 900 * a + 100 * b + 10 * u + v = cc at hF hV eV hz d1 d2 d3 d4 ⊢
    by_cases le : vl σ cc ≤ T 8 0
    · have le2 := qt_le le
      rw [if_pos le]
      refine ih (v + 1) T (by omega) (by omega) ⟨hF.1, ?_⟩
      rcases hF.2 with ⟨e, nn⟩ | ⟨R, h1, h2, e0, e1, e2, e3, e4, bb⟩
      · rw [e] at le2; omega
      · refine Or.inr ⟨R, by omega, h2, e0, e1, e2, e3, e4, fun q hq => ?_⟩
        by_cases cq : q = cc
        · subst cq; intro _; rw [e0] at le2; omega
        · exact bb q (by omega)
    · have le2 := qt_nle le
      rw [if_neg le]
      refine ih (v + 1) _ (by omega) (by omega) ⟨fun c hc => ?_, Or.inr ⟨cc, by omega, hV, ?_, ?_, ?_, ?_, ?_, fun q hq hqV => ?_⟩⟩
      · rw [u2_nc hc, u2_nc hc, u2_nc hc, u2_nc hc, u2_nc hc]
        exact hF.1 c hc
      · rw [u2_nk (by omega), u2_nk (by omega), u2_nk (by omega), u2_nk (by omega), u2_self]
      · rw [u2_nk (by omega), u2_nk (by omega), u2_nk (by omega), u2_self, d1]
      · rw [u2_nk (by omega), u2_nk (by omega), u2_self, d2]
      · rw [u2_nk (by omega), u2_self, d3]
      · rw [u2_self, d4]
      · by_cases cq : q = cc
        · subst cq; exact Or.inr ⟨rfl, Nat.le_refl _⟩
        · rcases hF.2 with ⟨e, nn⟩ | ⟨R, h1, h2, e0, e1, e2, e3, e4, bb⟩
          · exact absurd hqV (nn q (by omega))
          · have := bb q (by omega) hqV
            rw [e0] at le2
            omega
theorem fr_2 (h : Rl σ τ) {a b : Nat} (hab : a < b) (hb : b < 9) : ∀ (n u : Nat) (T : St), u ≤ 10 → 10 - u < n → FA σ (900 * a + 100 * b + 10 * u) T → FA σ (900 * a + 100 * b + 100) (lp_X3_tryStrengths_2 (nI a) (nI b) n (nI u) T) := by
  have z9 : (9 : Int32).toInt = 9 := by decide
  intro n
  induction n with
  | zero => intro v T _ h; exact absurd h (Nat.not_lt_zero _)
  | succ n ih =>
    intro u T hu hn hF
    have ev := nI_toInt (n := u) (by omega)
    rw [lp_X3_tryStrengths_2]
    by_cases c : u = 10
    · subst c
      rw [if_pos (by decide)]
      exact hF
    · rw [if_neg (qm_nlt (by omega)), n1]
      have q := fr_11 h hab hb (u := u) (by omega) 200 0 T (by omega) (by omega) hF
      have e0 : (nI 0 : Int32) = 0 := rfl
      rw [e0] at q
      refine ih (u + 1) _ (by omega) (by omega) ?_
      rw [show 900 * a + 100 * b + 10 * (u + 1) = 900 * a + 100 * b + 10 * u + 10 by omega]
      exact q
theorem fr_12 (h : Rl σ τ) {a : Nat} (ha : a < 9) : ∀ (n b : Nat) (T : St), a < b → b ≤ 9 → 9 - b < n → FA σ (900 * a + 100 * b) T → FA σ (900 * a + 900) (lp_X3_seekNewSmell_12 (nI a) n (nI b) T) := by
  intro n
  induction n with
  | zero => intro b T _ _ h; exact absurd h (Nat.not_lt_zero _)
  | succ n ih =>
    intro b T hab hb hn hF
    rw [lp_X3_seekNewSmell_12]
    by_cases c : b = 9
    · subst c
      rw [if_pos (by decide)]
      exact hF
    · rw [if_neg (fun q => by have := (nI_gE (n := 9) (k := b) (by omega) (by omega)).mp q; omega), n1]
      have q : FA σ (900 * a + 100 * b + 100) (f_X3_tryStrengths T (nI a) (nI b)) := fr_2 h hab (by omega) 200 0 T (by omega) (by omega) hF
      refine ih (b + 1) _ (by omega) (by omega) (by omega) ?_
      rw [show 900 * a + 100 * (b + 1) = 900 * a + 100 * b + 100 by omega]
      exact q
theorem fr_s2 (h : Rl σ τ) : ∀ (n a : Nat) (T : St), a ≤ 9 → 9 - a < n → FA σ (900 * a) T → FA σ 8100 (lp_X3_seekNewSmell_2 n (nI a) T) := by
  intro n
  induction n with
  | zero => intro a T _ h; exact absurd h (Nat.not_lt_zero _)
  | succ n ih =>
    intro a T ha hn hF
    rw [lp_X3_seekNewSmell_2]
    by_cases c : a = 9
    · subst c
      rw [if_pos (by decide)]
      exact hF
    · rw [if_neg (fun q => by have := (nI_gE (n := 9) (k := a) (by omega) (by omega)).mp q; omega), n1]
      have hF2 : FA σ (900 * a + 100 * (a + 1)) T := FA_skip (by omega) hF (fun u h1 h2 q => by
        have q2 := q.2
        omega)
      have q := fr_12 h (a := a) (by omega) 200 (a + 1) T (by omega) (by omega) (by omega) hF2
      refine ih (a + 1) _ (by omega) (by omega) ?_
      rw [show 900 * (a + 1) = 900 * a + 900 by omega]
      exact q
theorem seek_FA (h : Rl σ τ) (h8 : σ 8 0 = -1) : FA σ 8100 (f_X3_seekNewSmell σ) := fr_s2 h 200 0 σ (by omega) (by omega) ⟨fun _ _ => rfl, Or.inl ⟨h8, fun u hu => absurd hu (Nat.not_lt_zero _)⟩⟩
theorem q_fresh (h : Rl σ τ) (h8 : σ 8 0 = -1) {m f : Int32} (hD : FD σ 0 m f) : ∃ T, (∀ c, c ≠ 8 → T c = σ c) ∧ f_X3_fresh σ 0 = (m, T) ∧ f_X3_fresh T 1 = (f / 900, T) ∧ f_X3_fresh T 2 = (f / 100 - f / 100 / 9 * 9, T) ∧ f_X3_fresh T 3 = (f / 10 - f / 10 / 10 * 10, T) ∧ f_X3_fresh T 4 = (f - f / 10 * 10, T) ∧ f_X3_fresh T (-1) = (-2, T) := by
  have hF := seek_FA h h8
  have hs : f_X3_fresh σ 0 = ((f_X3_seekNewSmell σ) 8 0, f_X3_seekNewSmell σ) := by
    have i0 : ix 0 = 0 := rfl
    unfold f_X3_fresh
    rw [if_neg (by decide), if_pos (by decide), if_neg h.nz, i0, if_pos h8]
  generalize f_X3_seekNewSmell σ = T at hF hs
  have hV : Vc 100 := ⟨by decide, by decide⟩
  have zm : (-1 : Int32).toInt = -1 := by decide
  rcases hF.2 with ⟨_, nn⟩ | ⟨R, h1, h2, e0, e1, e2, e3, e4, bb⟩
  · exact absurd hV (nn 100 (by omega))
  rcases hD with ⟨_, _, nn⟩ | ⟨R', h1', h2', e0', e1', bb'⟩
  · exact absurd hV (nn 100 (by omega))
  have q1 := bb R' h2'.1 h2'
  have q2 := bb' R (by omega) h2
  have hRR : R = R' := by omega
  subst hRR
  have hz := vl_bd h h2
  have hn : ¬ T 0 4 = 0 := by rw [hF.1 0 (by omega)]; exact h.nz
  have h8T : ¬ T 8 (ix 0) = -1 := fun q => by
    have i0 : ix 0 = 0 := rfl
    rw [i0, e0] at q
    rw [q] at hz
    omega
  have gen : ∀ k : Int32, 0 ≤ k.toInt → k.toInt < 5 → f_X3_fresh T k = (T 8 (ix k), T) := fun k k0 k1 => by
    have z0 : (0 : Int32).toInt = 0 := by decide
    have z5 : (5 : Int32).toInt = 5 := by decide
    unfold f_X3_fresh
    rw [if_neg (qm_nlt (by omega)), if_pos (qm_lt (by omega)), if_neg hn, if_neg h8T]
  have eR := nI_toInt (n := R) (by have := h2.1; omega)
  have hR := h2.1
  have z900 : (900 : Int32).toInt = 900 := by decide
  have z100 : (100 : Int32).toInt = 100 := by decide
  have z10 : (10 : Int32).toInt = 10 := by decide
  have z9 : (9 : Int32).toInt = 9 := by decide
  have d900 := dv_toInt (a := nI R) (b := 900) (by omega) (by omega)
  have d100 := dv_toInt (a := nI R) (b := 100) (by omega) (by omega)
  have d10 := dv_toInt (a := nI R) (b := 10) (by omega) (by omega)
  rw [z900, eR] at d900
  rw [z100, eR] at d100
  rw [z10, eR] at d10
  refine ⟨T, hF.1, by rw [hs, e0, e0'], ?_, ?_, ?_, ?_, ?_⟩
  · rw [gen 1 (by decide) (by decide), show ix 1 = 1 from rfl, e1, e1', show nI (R / 900) = nI R / 900 from qm_eq (by rw [nI_toInt (by omega), d900]; omega)]
  · rw [gen 2 (by decide) (by decide), show ix 2 = 2 from rfl, e2, e1', show nI (R / 100 % 9) = nI R / 100 - nI R / 100 / 9 * 9 from qm_eq (by rw [nI_toInt (by omega), irem_toInt (by omega) (by omega), z9, d100]; omega)]
  · rw [gen 3 (by decide) (by decide), show ix 3 = 3 from rfl, e3, e1', show nI (R / 10 % 10) = nI R / 10 - nI R / 10 / 10 * 10 from qm_eq (by rw [nI_toInt (by omega), irem_toInt (by omega) (by omega), z10, d10]; omega)]
  · rw [gen 4 (by decide) (by decide), show ix 4 = 4 from rfl, e4, e1', show nI (R % 10) = nI R - nI R / 10 * 10 from qm_eq (by rw [nI_toInt (by omega), irem_toInt (by omega) (by omega), z10, eR]; omega)]
  · unfold f_X3_fresh
    rw [if_pos (by decide)]
end FR
