/-! a new smell -/
def nsum (f : Nat → Int) : Nat → Int
  | 0 => 0
  | n + 1 => nsum f n + f n
theorem nsum_s {f : Nat → Int} {n : Nat} : nsum f (n + 1) = nsum f n + f n := rfl
theorem isum_s {f : Nat → Int32} {n : Nat} : isum f (n + 1) = isum f n + f n := rfl
theorem isum_n {f : Nat → Int32} : ∀ n : Nat, n ≤ 9 → (∀ m, m < n → 0 ≤ (f m).toInt ∧ (f m).toInt ≤ 9) → (isum f n).toInt = nsum (fun m => (f m).toInt) n ∧ 0 ≤ (isum f n).toInt ∧ (isum f n).toInt ≤ 9 * n := by
  intro n
  induction n with
  | zero => intro _ _; exact ⟨rfl, by show (0 : Int) ≤ (0 : Int32).toInt; decide, by show (0 : Int32).toInt ≤ 9 * ((0 : Nat) : Int); decide⟩
  | succ n ih =>
    intro h hb
    obtain ⟨e, l, u⟩ := ih (by omega) (fun m hm => hb m (by omega))
    have b := hb n (by omega)
    have t := a_toInt (a := isum f n) (b := f n) (by omega) (by omega)
    rw [isum_s, nsum_s, t, e]
    refine ⟨rfl, by omega, by omega⟩
theorem nsum_two {f g : Nat → Int} {a b : Nat} (hab : a ≠ b) (he : ∀ m, m ≠ a → m ≠ b → g m = f m) : ∀ n, nsum g n = nsum f n + (if a < n then g a - f a else 0) + (if b < n then g b - f b else 0) := by
  intro n
  induction n with
  | zero => rw [if_neg (by omega), if_neg (by omega)]; rfl
  | succ n ih =>
    rw [nsum_s, nsum_s, ih]
    by_cases e1 : a = n
    · subst e1
      rw [if_neg (Nat.lt_irrefl _), if_pos (Nat.lt_succ_self _)]
      by_cases e2 : b < a
      · rw [if_pos e2, if_pos (by omega)]; omega
      · rw [if_neg e2, if_neg (by omega)]; omega
    · by_cases e2 : b = n
      · subst e2
        rw [if_neg (Nat.lt_irrefl b), if_pos (Nat.lt_succ_self b)]
        by_cases e3 : a < b
        · rw [if_pos e3, if_pos (by omega)]; omega
        · rw [if_neg e3, if_neg (by omega)]; omega
      · have q := he n (fun q => e1 q.symm) (fun q => e2 q.symm)
        have f1 : (if a < n + 1 then g a - f a else 0) = (if a < n then g a - f a else 0) := by
          by_cases w : a < n
          · rw [if_pos w, if_pos (show a < n + 1 by omega)]
          · rw [if_neg w, if_neg (show ¬ a < n + 1 by omega)]
        have f2 : (if b < n + 1 then g b - f b else 0) = (if b < n then g b - f b else 0) := by
          by_cases w : b < n
          · rw [if_pos w, if_pos (show b < n + 1 by omega)]
          · rw [if_neg w, if_neg (show ¬ b < n + 1 by omega)]
        rw [f1, f2, q]
        generalize (if a < n then g a - f a else 0) = A
        generalize (if b < n then g b - f b else 0) = B
        omega
theorem lf_22 {τ : St} {a1 a2 a3 a4 a5 x : Int32} {g : Nat → Int} (hg : ∀ m : Int32, 0 ≤ m.toInt → m.toInt < 9 → (f_X4_off (f_X4_strong τ x m) (if m = a1 then a3 else if m = a2 then a4 else 0)).toInt = g (ix m) ∧ 0 ≤ g (ix m) ∧ g (ix m) ≤ 9) : ∀ (n : Nat) (s k : Int32), 0 ≤ k.toInt → k.toInt ≤ 9 → 9 - k.toInt < n → 0 ≤ s.toInt → s.toInt ≤ 9 * k.toInt → (lp_X4_leastFar_22 τ a1 a2 a3 a4 a5 x n s k).toInt = s.toInt + (nsum g 9 - nsum g (ix k)) ∧ 0 ≤ (lp_X4_leastFar_22 τ a1 a2 a3 a4 a5 x n s k).toInt ∧ (lp_X4_leastFar_22 τ a1 a2 a3 a4 a5 x n s k).toInt ≤ 81 := by
  intro n
  induction n with
  | zero => intro s k h0 h1 h2; omega
  | succ n ih =>
    intro s k h0 h1 h2 h3 h4
    have z9 : (9 : Int32).toInt = 9 := by decide
    have e := ix_toInt h0
    rw [lp_X4_leastFar_22]
    by_cases c : 9 ≤ k
    · have c' := qt_le c
      have e9 : ix k = 9 := by omega
      rw [if_pos c, e9]
      exact ⟨by omega, h3, by omega⟩
    · have c' := qt_nle c
      obtain ⟨g1, g2, g3⟩ := hg k h0 (by omega)
      have t := a_toInt (a := s) (b := f_X4_off (f_X4_strong τ x k) (if k = a1 then a3 else if k = a2 then a4 else 0)) (by omega) (by omega)
      have k1 := inc_toInt (a := k) h0 (by omega)
      have e1 := ix_toInt (x := k + 1) (by omega)
      have e2 : ix (k + 1) = ix k + 1 := by omega
      obtain ⟨i1, i2, i3⟩ := ih (s + f_X4_off (f_X4_strong τ x k) (if k = a1 then a3 else if k = a2 then a4 else 0)) (k + 1) (by omega) (by omega) (by omega) (by omega) (by omega)
      rw [e2, nsum_s (n := ix k)] at i1
      rw [if_neg c]
      exact ⟨by omega, i2, i3⟩
/-- how far one SMELL is off: of the two it is the new strength, of the others 0 -/
def apg (F : Nat → Int) (a b : Nat) (u v : Int) (m : Nat) : Int := if m = a then (if u ≤ F m then F m - u else u - F m) else if m = b then (if v ≤ F m then F m - v else v - F m) else F m
theorem apg_a {F : Nat → Int} {a b : Nat} {u v : Int} : apg F a b u v a = if u ≤ F a then F a - u else u - F a := if_pos rfl
theorem apg_b {F : Nat → Int} {a b : Nat} {u v : Int} (h : a ≠ b) : apg F a b u v b = if v ≤ F b then F b - v else v - F b := by
  unfold apg
  rw [if_neg (fun q => h q.symm), if_pos rfl]
theorem apg_o {F : Nat → Int} {a b : Nat} {u v : Int} {m : Nat} (h1 : m ≠ a) (h2 : m ≠ b) : apg F a b u v m = F m := by
  unfold apg
  rw [if_neg h1, if_neg h2]
theorem apg_le {F : Nat → Int} {a b : Nat} {u v : Int} {m : Nat} (hF : 0 ≤ F m ∧ F m ≤ 9) (hu : 0 ≤ u ∧ u ≤ 9) (hv : 0 ≤ v ∧ v ≤ 9) : 0 ≤ apg F a b u v m ∧ apg F a b u v m ≤ 9 := by
  unfold apg
  by_cases c1 : m = a
  · rw [if_pos c1]
    by_cases q : u ≤ F m
    · rw [if_pos q]; omega
    · rw [if_neg q]; omega
  · rw [if_neg c1]
    by_cases c2 : m = b
    · rw [if_pos c2]
      by_cases q : v ≤ F m
      · rw [if_pos q]; omega
      · rw [if_neg q]; omega
    · rw [if_neg c2]; exact hF
/-- what one SIGN is APART from a new smell, both ways to count -/
theorem la_one {S τ : St} {f s u v x a5 : Int32} {N : Nat} (hN : 9 < N) (hx : 0 ≤ x.toInt ∧ x.toInt < 8) (r : Rsign S τ (ix x)) (hf : 0 ≤ f.toInt ∧ f.toInt < 9) (hs : 0 ≤ s.toInt ∧ s.toInt < 9) (hn : f ≠ s) (hu : 0 ≤ u.toInt ∧ u.toInt ≤ 9) (hv : 0 ≤ v.toInt ∧ v.toInt ≤ 9) : ((((S (17 + ix x) 1 - S (25 + ix x) (ix f)) - S (25 + ix x) (ix s)) + jabs (u - S (25 + ix x) (ix f))) + jabs (v - S (25 + ix x) (ix s))) = lp_X4_leastFar_22 τ f s u v a5 x N 0 0 ∧ 0 ≤ (lp_X4_leastFar_22 τ f s u v a5 x N 0 0).toInt ∧ (lp_X4_leastFar_22 τ f s u v a5 x N 0 0).toInt ≤ 81 := by
  obtain ⟨_, _, r2, r3⟩ := r
  have ex := ix_toInt hx.1
  have ef := ix_toInt hf.1
  have es := ix_toInt hs.1
  obtain ⟨f1, f2, f3⟩ := r3 (ix f) (by omega)
  obtain ⟨s1, s2, s3⟩ := r3 (ix s) (by omega)
  have hne : ix f ≠ ix s := fun q => hn (qm_eq (by omega))
  have tot := isum_n (f := fun m => τ 2 (9 * ix x + m)) 9 (Nat.le_refl 9) (fun m hm => (r3 m hm).2)
  rw [← r2] at tot
  have st : ∀ m : Int32, 0 ≤ m.toInt → m.toInt < 9 → f_X4_strong τ x m = τ 2 (9 * ix x + ix m) := fun m m0 m1 => by unfold f_X4_strong; rw [ix_9 hx ⟨m0, m1⟩]
  have bd : ∀ m : Int32, 0 ≤ m.toInt → m.toInt < 9 → 0 ≤ (τ 2 (9 * ix x + ix m)).toInt ∧ (τ 2 (9 * ix x + ix m)).toInt ≤ 9 := fun m m0 m1 => (r3 (ix m) (by have := ix_toInt m0; omega)).2
  have z0 : (0 : Int32).toInt = 0 := by decide
  have o0 : ix (0 : Int32) = 0 := by decide
  have hg : ∀ m : Int32, 0 ≤ m.toInt → m.toInt < 9 → (f_X4_off (f_X4_strong τ x m) (if m = f then u else if m = s then v else 0)).toInt = apg (fun m => (τ 2 (9 * ix x + m)).toInt) (ix f) (ix s) u.toInt v.toInt (ix m) ∧ 0 ≤ apg (fun m => (τ 2 (9 * ix x + m)).toInt) (ix f) (ix s) u.toInt v.toInt (ix m) ∧ apg (fun m => (τ 2 (9 * ix x + m)).toInt) (ix f) (ix s) u.toInt v.toInt (ix m) ≤ 9 := by
    intro m m0 m1
    have em := ix_toInt m0
    have b := bd m m0 m1
    refine ⟨?_, apg_le b hu hv⟩
    rw [st m m0 m1]
    by_cases c1 : m = f
    · subst c1
      rw [if_pos rfl, apg_a]
      exact (off_toInt (by omega) (by omega)).2
    by_cases c2 : m = s
    · subst c2
      rw [if_neg c1, if_pos rfl, apg_b hne]
      exact (off_toInt (by omega) (by omega)).2
    rw [if_neg c1, if_neg c2, apg_o (fun q => c1 (qm_eq (by omega))) (fun q => c2 (qm_eq (by omega))), (off_toInt (by omega) (by omega)).2, z0, if_pos b.1]
    omega
  obtain ⟨k1, k2, k3⟩ := lf_22 (τ := τ) (a1 := f) (a2 := s) (a3 := u) (a4 := v) (a5 := a5) (x := x) hg N 0 0 (by decide) (by decide) (by rw [z0]; omega) (by decide) (by decide)
  have tw := nsum_two (f := fun m => (τ 2 (9 * ix x + m)).toInt) (g := apg (fun m => (τ 2 (9 * ix x + m)).toInt) (ix f) (ix s) u.toInt v.toInt) hne (fun m h1 h2 => apg_o h1 h2) 9
  rw [if_pos (show ix f < 9 by omega), if_pos (show ix s < 9 by omega), apg_a, apg_b hne, ← tot.1] at tw
  rw [o0, z0, tw] at k1
  refine ⟨qm_eq ?_, k2, k3⟩
  rw [k1, f1, s1]
  have n0 : nsum (apg (fun m => (τ 2 (9 * ix x + m)).toInt) (ix f) (ix s) u.toInt v.toInt) 0 = 0 := rfl
  rw [n0]
  have tb := tot.2
  generalize S (17 + ix x) 1 = t at tb ⊢
  generalize τ 2 (9 * ix x + ix f) = F at f2 f3 ⊢
  generalize τ 2 (9 * ix x + ix s) = W at s2 s3 ⊢
  obtain ⟨j1, j2⟩ := off_toInt (a := u) (b := F) (by omega) (by omega)
  obtain ⟨j3, j4⟩ := off_toInt (a := v) (b := W) (by omega) (by omega)
  rw [j1, j3]
  have i1 : (f_X4_off u F).toInt = (if u.toInt ≤ F.toInt then F.toInt - u.toInt else u.toInt - F.toInt) ∧ 0 ≤ (f_X4_off u F).toInt ∧ (f_X4_off u F).toInt ≤ 9 := by
    rw [j2]
    by_cases c1 : F.toInt ≤ u.toInt
    · by_cases c2 : u.toInt ≤ F.toInt
      · rw [if_pos c1, if_pos c2]; omega
      · rw [if_pos c1, if_neg c2]; omega
    · rw [if_neg c1, if_pos (by omega)]; omega
  have i2 : (f_X4_off v W).toInt = (if v.toInt ≤ W.toInt then W.toInt - v.toInt else v.toInt - W.toInt) ∧ 0 ≤ (f_X4_off v W).toInt ∧ (f_X4_off v W).toInt ≤ 9 := by
    rw [j4]
    by_cases c1 : W.toInt ≤ v.toInt
    · by_cases c2 : v.toInt ≤ W.toInt
      · rw [if_pos c1, if_pos c2]; omega
      · rw [if_pos c1, if_neg c2]; omega
    · rw [if_neg c1, if_pos (by omega)]; omega
  rw [← i1.1, ← i2.1]
  obtain ⟨_, i1a, i1b⟩ := i1
  obtain ⟨_, i2a, i2b⟩ := i2
  generalize f_X4_off u F = A at i1a i1b ⊢
  generalize f_X4_off v W = B at i2a i2b ⊢
  have t1 := s_toInt (a := t) (b := F) (by omega) (by omega)
  have t2 := s_toInt (a := t - F) (b := W) (by omega) (by omega)
  have t3 := a_toInt (a := t - F - W) (b := A) (by omega) (by omega)
  have t4 := a_toInt (a := t - F - W + A) (b := B) (by omega) (by omega)
  omega
section FRESH
variable {S τ : St} {f s u v : Int32}
theorem la_7 (hc : S 0 4 = τ 0 1) (h8 : (τ 0 1).toInt ≤ 8) (hr : ∀ x : Int32, 0 ≤ x.toInt → x.toInt < (τ 0 1).toInt → Rsign S τ (ix x)) (hf : 0 ≤ f.toInt ∧ f.toInt < 9) (hs : 0 ≤ s.toInt ∧ s.toInt < 9) (hn : f ≠ s) (hu : 0 ≤ u.toInt ∧ u.toInt ≤ 9) (hv : 0 ≤ v.toInt ∧ v.toInt ≤ 9) : ∀ (n : Nat) (a k : Int32), 0 ≤ k.toInt → 0 ≤ a.toInt → lp_X3_leastApart_7 S f s u v n a k = lp_X4_leastFar_7 τ f s u v n a k ∧ 0 ≤ (lp_X4_leastFar_7 τ f s u v n a k).toInt := by
  intro n
  induction n with
  | zero => intro a k h0 ha; exact ⟨rfl, ha⟩
  | succ n ih =>
    intro a k h0 ha
    have z0 : (0 : Int32).toInt = 0 := by decide
    rw [lp_X3_leastApart_7, lp_X4_leastFar_7, hc]
    by_cases c : τ 0 1 ≤ k
    · rw [if_pos c, if_pos c]; exact ⟨rfl, ha⟩
    have c' := qt_nle c
    have k1 := inc_toInt (a := k) h0 (by omega)
    obtain ⟨o1, o2, o3⟩ := la_one (a5 := a) (N := 200) (by decide) ⟨h0, by omega⟩ (hr k h0 c') hf hs hn hu hv
    rw [if_neg c, if_neg c, if_neg (show ¬ a < 0 from qm_nlt (by omega)), o1]
    generalize lp_X4_leastFar_22 τ f s u v a k 200 0 0 = d at o2 o3 ⊢
    unfold jmin
    by_cases w : a ≤ d
    · have w' := qt_le w
      rw [if_pos w, if_neg (show ¬ d < a from qm_nlt w')]
      exact ih _ _ (by omega) ha
    · have w' := qt_nle w
      rw [if_neg w, if_pos (show d < a from qm_lt w')]
      exact ih _ _ (by omega) o2
theorem la_eq (hc : S 0 4 = τ 0 1) (h1 : 0 < (τ 0 1).toInt) (h8 : (τ 0 1).toInt ≤ 8) (hr : ∀ x : Int32, 0 ≤ x.toInt → x.toInt < (τ 0 1).toInt → Rsign S τ (ix x)) (hf : 0 ≤ f.toInt ∧ f.toInt < 9) (hs : 0 ≤ s.toInt ∧ s.toInt < 9) (hn : f ≠ s) (hu : 0 ≤ u.toInt ∧ u.toInt ≤ 9) (hv : 0 ≤ v.toInt ∧ v.toInt ≤ 9) : f_X3_leastApart S f s u v = f_X4_leastFar τ f s u v ∧ 0 ≤ (f_X4_leastFar τ f s u v).toInt := by
  have key : ∀ n : Nat, lp_X3_leastApart_7 S f s u v (n + 1) 2147483647 0 = lp_X4_leastFar_7 τ f s u v (n + 1) (-9) 0 ∧ 0 ≤ (lp_X4_leastFar_7 τ f s u v (n + 1) (-9) 0).toInt := by
    intro n
    have z0 : (0 : Int32).toInt = 0 := by decide
    have zm : (2147483647 : Int32).toInt = 2147483647 := by decide
    have k1 := inc_toInt (a := 0) (by decide) (by decide)
    rw [lp_X3_leastApart_7, lp_X4_leastFar_7, hc]
    have c : ¬ τ 0 1 ≤ 0 := qm_nle (by omega)
    obtain ⟨o1, o2, o3⟩ := la_one (a5 := -9) (N := 200) (by decide) (x := 0) ⟨by decide, by decide⟩ (hr 0 (by decide) (by omega)) hf hs hn hu hv
    rw [if_neg c, if_neg c, if_pos (show (-9 : Int32) < 0 by decide), o1]
    generalize lp_X4_leastFar_22 τ f s u v (-9) 0 200 0 0 = d at o2 o3 ⊢
    unfold jmin
    rw [if_pos (show d < 2147483647 from qm_lt (by omega))]
    exact la_7 hc h8 hr hf hs hn hu hv n d (0 + 1) (by omega) o2
  exact key 199
/-- the best so far: five numbers of the class, two of the check -/
def FR (S : St) (a2 a3 : Int32) : Prop := (S 8 (ix 0) = -1 ∧ a2 = -9) ∨ (0 ≤ a2.toInt ∧ S 8 (ix 0) = a2 ∧ ∃ f s u v : Int32, (0 ≤ f.toInt ∧ f.toInt < 9) ∧ (0 ≤ s.toInt ∧ s.toInt < 9) ∧ (0 ≤ u.toInt ∧ u.toInt ≤ 9) ∧ (0 ≤ v.toInt ∧ v.toInt ≤ 9) ∧ a3.toInt = 1000 * f.toInt + 100 * s.toInt + 10 * u.toInt + v.toInt ∧ S 8 (ix 1) = f ∧ S 8 (ix 2) = s ∧ S 8 (ix 3) = u ∧ S 8 (ix 4) = v)
theorem FR_new {S : St} {l f s u v a6 : Int32} (hl : 0 ≤ l.toInt) (hf : 0 ≤ f.toInt ∧ f.toInt < 9) (hs : 0 ≤ s.toInt ∧ s.toInt < 9) (hu : 0 ≤ u.toInt ∧ u.toInt ≤ 9) (hv : 0 ≤ v.toInt ∧ v.toInt ≤ 9) (h6 : a6.toInt = 10 * u.toInt + v.toInt) : FR (u2 (u2 (u2 (u2 (u2 S 8 (ix 0) l) 8 (ix 1) f) 8 (ix 2) s) 8 (ix 3) u) 8 (ix 4) v) l (((1000 * f) + (100 * s)) + a6) := by
  have o0 : ix (0 : Int32) = 0 := by decide
  have o1 : ix (1 : Int32) = 1 := by decide
  have o2 : ix (2 : Int32) = 2 := by decide
  have o3 : ix (3 : Int32) = 3 := by decide
  have o4 : ix (4 : Int32) = 4 := by decide
  have e1 := km_toInt (a := f) (k := 1000) (z := 1000) (by decide) (by omega) (by omega)
  have e2 := km_toInt (a := s) (k := 100) (z := 100) (by decide) (by omega) (by omega)
  have e3 := a_toInt (a := 1000 * f) (b := 100 * s) (by omega) (by omega)
  have e4 := a_toInt (a := 1000 * f + 100 * s) (b := a6) (by omega) (by omega)
  rw [o0, o1, o2, o3, o4]
  refine Or.inr ⟨hl, ?_, f, s, u, v, hf, hs, hu, hv, by omega, ?_, ?_, ?_, ?_⟩
  · rw [o0, u2_nk (by decide), u2_nk (by decide), u2_nk (by decide), u2_nk (by decide), u2_self]
  · rw [o1, u2_nk (by decide), u2_nk (by decide), u2_nk (by decide), u2_self]
  · rw [o2, u2_nk (by decide), u2_nk (by decide), u2_self]
  · rw [o3, u2_nk (by decide), u2_self]
  · rw [o4, u2_self]
theorem FR_le {S : St} {a2 a3 l : Int32} (h : FR S a2 a3) (hl : 0 ≤ l.toInt) : l ≤ S 8 (ix 0) ↔ l ≤ a2 := by
  rcases h with ⟨q1, q2⟩ | ⟨q1, q2, _⟩
  · rw [q1, q2]
    have z1 : (-1 : Int32).toInt = -1 := by decide
    have z9 : (-9 : Int32).toInt = -9 := by decide
    exact ⟨fun q => absurd (qt_le q) (by omega), fun q => absurd (qt_le q) (by omega)⟩
  · rw [q2]
end FRESH
