/-! small facts that the walk of the law's body asks for -/
theorem low_lt {v n : Int32} {z : Int} (hz : n.toInt = z) (h0 : 0 < z) : 0 ≤ (f_L_low v n).toInt ∧ (f_L_low v n).toInt < z := by
  have q := low_bd (v := v) (n := n) (by omega)
  omega
theorem low1 {v : Int32} : 1 ≤ (1 + f_L_low v 9).toInt ∧ (1 + f_L_low v 9).toInt ≤ 9 := by
  have q := low_lt (v := v) (n := 9) (z := 9) (by decide) (by decide)
  have z1 : (1 : Int32).toInt = 1 := by decide
  rw [a_toInt (by omega) (by omega)]
  omega
theorem y_bd {x n v : Int32} (x0 : 0 ≤ x.toInt) (x1 : x.toInt < n.toInt) (n2 : 2 ≤ n.toInt) (n8 : n.toInt ≤ 8) : (0 ≤ ((x + 1 + f_L_low v (n - 1)) - (x + 1 + f_L_low v (n - 1)) / n * n).toInt ∧ ((x + 1 + f_L_low v (n - 1)) - (x + 1 + f_L_low v (n - 1)) / n * n).toInt < n.toInt) ∧ x ≠ (x + 1 + f_L_low v (n - 1)) - (x + 1 + f_L_low v (n - 1)) / n * n := by
  have z1 : (1 : Int32).toInt = 1 := by decide
  have e := s_toInt (a := n) (b := 1) (by omega) (by omega)
  have q := low_bd (v := v) (n := n - 1) (by omega)
  generalize f_L_low v (n - 1) = w at q
  have e1 := a_toInt (a := x) (b := 1) (by omega) (by omega)
  have e2 := a_toInt (a := x + 1) (b := w) (by omega) (by omega)
  have r := irem_toInt (a := x + 1 + w) (b := n) (by omega) (by omega)
  have hb := rem_bd (a := x + 1 + w) (b := n) (by omega) (by omega)
  refine ⟨hb, fun h => ?_⟩
  have h2 := congrArg Int32.toInt h
  rw [r] at h2
  rcases (show n.toInt = 2 ∨ n.toInt = 3 ∨ n.toInt = 4 ∨ n.toInt = 5 ∨ n.toInt = 6 ∨ n.toInt = 7 ∨ n.toInt = 8 by omega) with c | c | c | c | c | c | c <;> rw [c] at h2 <;> omega
section PT
variable {σ τ : St} {v5 v6 : Int32}
def b3 (c : Nat) : Prop := c = 6 ∨ c = 7 ∨ c = 14
theorem s1_put (h : s1 σ) {k : Nat} {v w : Int32} : s1 (u2 (u2 σ 0 9 w) 14 k v) := by
  unfold s1
  rw [u2_nc (show (10 : Nat) ≠ 14 by omega), u2_nc (show (10 : Nat) ≠ 0 by omega)]
  exact h
theorem Fx_put {k : Nat} {v w : Int32} : Fx b3 σ (u2 (u2 σ 0 9 w) 14 k v) := Fx.tr (Fx.flt w) (Fx.put (Or.inr (Or.inr rfl)) (by omega))
theorem Bs.b3 {σ' : St} (h : Bs σ τ v5 v6) (hF : Fx b3 σ σ') : Bs σ' τ v5 v6 := h.fx hF
theorem Bs.fo {σ' : St} {k : Nat} (h : Bs σ τ v5 v6) (hk : k = 6 ∨ k = 7 ∨ k = 14) (hF : Fx (only k) σ σ') : Bs σ' τ v5 v6 := h.fx (hF.mo (fun c hc => by have e : c = k := hc; omega))
theorem Bs.flt (h : Bs σ τ v5 v6) (v : Int32) : Bs (u2 σ 0 9 v) τ v5 v6 := h.fx (Fx.flt v)
theorem ix2m {j : Int32} (h0 : 0 ≤ j.toInt) (h1 : j.toInt < 10) : ix (2 * j) = 2 * ix j ∧ ix (2 * j + 1) = 2 * ix j + 1 ∧ (2 * j).toInt = 2 * j.toInt ∧ (2 * j + 1).toInt = 2 * j.toInt + 1 := by
  have e0 := ix_toInt h0
  have e := km_toInt (a := j) (k := 2) (z := 2) (by decide) (by omega) (by omega)
  have z1 : (1 : Int32).toInt = 1 := by decide
  have e2 := a_toInt (a := 2 * j) (b := 1) (by omega) (by omega)
  have e3 := ix_toInt (x := 2 * j) (by omega)
  have e4 := ix_toInt (x := 2 * j + 1) (by omega)
  refine ⟨by omega, by omega, e, by omega⟩
theorem Stp_put {j : Nat} {w1 w2 : Int32} (h : Stq σ j) (a0 : 0 ≤ w1.toInt) (a1 : w1.toInt < 9) (b0 : 1 ≤ w2.toInt) (b1 : w2.toInt ≤ 9) : Stq (u2 (u2 (u2 (u2 σ 0 9 0) 14 (2 * j) w1) 0 9 0) 14 (2 * j + 1) w2) (j + 1) := by
  intro i hi
  by_cases c : i = j
  · rw [c, u2_nk (by omega), u2_nc (show (14 : Nat) ≠ 0 by omega), u2_self, u2_self]
    exact ⟨⟨a0, a1⟩, b0, b1⟩
  · rw [u2_nk (by omega), u2_nc (show (14 : Nat) ≠ 0 by omega), u2_nk (by omega), u2_nc (show (14 : Nat) ≠ 0 by omega), u2_nk (show 2 * i + 1 ≠ 2 * j + 1 by omega), u2_nc (show (14 : Nat) ≠ 0 by omega), u2_nk (show 2 * i + 1 ≠ 2 * j by omega), u2_nc (show (14 : Nat) ≠ 0 by omega)]
    exact h i (by omega)
theorem Stp_same {σ' : St} {s : Nat} (h : Stq σ s) (e : σ' 14 = σ 14) : Stq σ' s := fun j hj => by rw [e]; exact h j hj
theorem tk_same {σ' : St} {x y s : Nat} (h7 : σ' 0 7 = σ 0 7) (h14 : σ' 14 = σ 14) (hx : σ' (25 + x) = σ (25 + x)) (hy : σ' (25 + y) = σ (25 + y)) : tk σ' x y s = tk σ x y s := by
  funext u
  unfold tk tkS
  rw [h7, h14, hx, hy]
theorem thenF_bd {base Z : Nat → Int32} {S : Int32} (hb : ∀ i, i < 9 → 0 ≤ (base i).toInt ∧ (base i).toInt ≤ 9) : ∀ s : Nat, s ≤ 7 → (∀ j, j < s → (0 ≤ (Z (2 * j)).toInt ∧ (Z (2 * j)).toInt < 9) ∧ 1 ≤ (Z (2 * j + 1)).toInt ∧ (Z (2 * j + 1)).toInt ≤ 9) → ∀ i, i < 9 → 0 ≤ (thenF base Z S s i).toInt ∧ (thenF base Z S s i).toInt ≤ 9 + 9 * s := by
  intro s
  induction s with
  | zero =>
    intro _ _ i hi
    have q := hb i hi
    show 0 ≤ (base i).toInt ∧ (base i).toInt ≤ 9 + 9 * ((0 : Nat) : Int)
    omega
  | succ s ih =>
    intro hs hZ i hi
    have q := ih (by omega) (fun j hj => hZ j (by omega))
    have z := hZ s (by omega)
    show 0 ≤ (addF Z S (thenF base Z S s) s i).toInt ∧ (addF Z S (thenF base Z S s) s i).toInt ≤ 9 + 9 * ((s + 1 : Nat) : Int)
    unfold addF
    by_cases c : ((S >>> (nI s &&& 31)) &&& 1) = 0
    · rw [if_pos c]; have := q i hi; omega
    · rw [if_neg c]
      have ez := ix_toInt z.1.1
      have qz := q (ix (Z (2 * s))) (by omega)
      by_cases c2 : i = ix (Z (2 * s))
      · rw [c2, upd_at, a_toInt (by omega) (by omega)]; omega
      · rw [upd_ne _ _ c2]; have := q i hi; omega
end PT
theorem LSt_0 {P : Nat → Prop} : LSt P ((10 : Int32).toInt + 1).toNat (-9) := Or.inl ⟨rfl, fun u hu h10 => absurd hu (by rw [show ((10 : Int32).toInt + 1).toNat = 11 from by decide]; omega)⟩
theorem u2u2 {σ : St} {c k : Nat} {a b : Int32} : u2 (u2 σ c k a) c k b = u2 σ c k b := by
  funext c' k'
  by_cases h : c' = c
  · subst h
    by_cases h2 : k' = k
    · subst h2; rw [u2_self, u2_self]
    · rw [u2_nk h2, u2_nk h2, u2_nk h2]
  · rw [u2_nc h, u2_nc h, u2_nc h]
theorem u2_id (σ : St) {c k : Nat} : u2 σ c k (σ c k) = σ := by
  funext c' k'
  by_cases h : c' = c
  · subst h
    by_cases h2 : k' = k
    · subst h2; rw [u2_self]
    · rw [u2_nk h2]
  · rw [u2_nc h]
theorem s1_f {σ : St} (h : s1 σ) {v : Int32} : s1 (u2 σ 0 9 v) := by
  unfold s1
  rw [u2_nc (show (10 : Nat) ≠ 0 by omega)]
  exact h
theorem bit0 {x : Int32} (h : ¬ (x &&& 1) = 1) : (x &&& 1) = 0 := by
  obtain ⟨j, hj, e⟩ := pk_andE x (m := 1) 1 (by decide)
  rw [e] at h ⊢
  rcases (show j = 0 ∨ j = 1 by omega) with q | q
  · rw [q]; rfl
  · rw [q] at h; exact absurd rfl h
theorem sh_m1 {s : Int32} (h0 : 0 ≤ s.toInt) (h1 : s.toInt < 8) : (((1 : Int32) <<< (s &&& 31)) - 1).toInt + 1 = ((2 ^ ix s : Nat) : Int) := by
  have T : ∀ k : Nat, k < 8 → (((1 : Int32) <<< (nI k &&& 31)) - 1).toInt + 1 = ((2 ^ k : Nat) : Int) := by decide +kernel
  have e := ix_toInt h0
  have q := T (ix s) (by omega)
  rw [← nI_ix h0] at q
  exact q
theorem zg1 {σ τ : St} (h : Rl σ τ) {z k w : Int32} {a b : Nat} {u v : Int32} (z0 : 0 ≤ z.toInt) (z1 : z.toInt < (σ 0 4).toInt) (k0 : 0 ≤ k.toInt) (k1 : k.toInt < 9) (hw : w = if ix k = a then u else if ix k = b then v else 0) (hr : (0 ≤ u.toInt ∧ u.toInt ≤ 9) ∧ 0 ≤ v.toInt ∧ v.toInt ≤ 9) : f_L_off (f_L_get τ z (1 + k)) w = zG σ (ix z) a b u v (ix k) := by
  have q := h.st z0 z1 k0 k1
  have zz : (0 : Int32).toInt = 0 := by decide
  have hb : 0 ≤ w.toInt ∧ w.toInt ≤ 9 := by
    rw [hw]
    split
    · exact hr.1
    · split
      · exact hr.2
      · omega
  unfold zG
  rw [q.1, ← hw]
  exact off_eq (by omega) (by omega) (by omega) (by omega)
theorem FD_0 {σ : St} : FD σ (100 * ((80 : Int32).toInt + 1).toNat) (-1) 0 := Or.inl ⟨rfl, rfl, fun u hu hV => by
  have z : ((80 : Int32).toInt + 1).toNat = 81 := by decide
  rw [z] at hu
  have := hV.1
  omega⟩
theorem yr_bd {a w : Int32} (a0 : 0 ≤ a.toInt) (a1 : a.toInt ≤ 9) (w0 : 0 ≤ w.toInt) (w1 : w.toInt ≤ 3) : 0 ≤ (a + a * w).toInt ∧ (a + a * w).toInt ≤ 36 := by
  have h : (a * w).toInt = a.toInt * w.toInt := x_toInt (by rcases (show w.toInt = 0 ∨ w.toInt = 1 ∨ w.toInt = 2 ∨ w.toInt = 3 by omega) with q | q | q | q <;> rw [q] <;> omega) (by rcases (show w.toInt = 0 ∨ w.toInt = 1 ∨ w.toInt = 2 ∨ w.toInt = 3 by omega) with q | q | q | q <;> rw [q] <;> omega)
  rcases (show w.toInt = 0 ∨ w.toInt = 1 ∨ w.toInt = 2 ∨ w.toInt = 3 by omega) with q | q | q | q <;> rw [q] at h <;> rw [a_toInt (by omega) (by omega)] <;> omega
theorem yr_eq {t w : Int32} : t * (1 + w) = t + t * w := by rw [Int32.mul_add, Int32.mul_one]
theorem h4_10 {σ τ : St} {wd : Int32} {z : Nat} (h : ∀ x, x < 8 → τ 4 x = if x < z then nI (hc σ wd x 10) else if x = z then nI (hc σ wd x 10) else 0) : ∀ x, x < 8 → τ 4 x = if x < z + 1 then nI (hc σ wd x 10) else 0 := fun x hx => by
  rw [h x hx]
  by_cases c : x < z
  · rw [if_pos c, if_pos (by omega)]
  · rw [if_neg c]
    by_cases c2 : x = z
    · rw [if_pos c2, if_pos (by omega)]
    · rw [if_neg c2, if_neg (by omega)]
theorem h4_0 {σ τ : St} {wd : Int32} {z : Nat} (h : ∀ x, x < 8 → τ 4 x = if x < z then nI (hc σ wd x 10) else 0) : ∀ x, x < 8 → τ 4 x = if x < z then nI (hc σ wd x 10) else if x = z then nI (hc σ wd x (ix 0)) else 0 := fun x hx => by
  rw [h x hx]
  by_cases c : x < z
  · rw [if_pos c, if_pos c]
  · rw [if_neg c, if_neg c]
    by_cases c2 : x = z
    · rw [if_pos c2]
      rfl
    · rw [if_neg c2]
theorem hSum_fx {σ σ' : St} (h : Fx (only 7) σ σ') {x : Nat} {wd t : Int32} : hSum σ' x wd t = hSum σ x wd t := by
  have n7 : ∀ c, c ≠ 7 → ¬ only 7 c := fun c q z => q z
  refine sm_congr 9 (fun k _ => ?_)
  have ef : f_X3_fade σ' x (nI k) (8 * σ' (25 + x) k) (t + t * wd) = f_X3_fade σ x (nI k) (8 * σ (25 + x) k) (t + t * wd) := by
    unfold f_X3_fade
    rw [h.2 (17 + x) (by omega) (n7 _ (by omega)), h.2 (25 + x) (by omega) (n7 _ (by omega)), h.2 4 (by omega) (n7 _ (by omega))]
  show jabs (f_X3_fade σ' x (nI k) (8 * σ' (25 + x) k) (t + t * wd) - σ' 14 (10 + k)) = jabs (f_X3_fade σ x (nI k) (8 * σ (25 + x) k) (t + t * wd) - σ 14 (10 + k))
  rw [ef, h.2 14 (by omega) (n7 _ (by omega))]
theorem hc_fx {σ σ' : St} (h : Fx (only 7) σ σ') {wd : Int32} {x t : Nat} : hc σ' wd x t = hc σ wd x t := by
  induction t with
  | zero => rfl
  | succ t ih =>
    show hc σ' wd x t + (if σ' 0 7 < hSum σ' x wd (nI t) then 0 else 1) = hc σ wd x t + (if σ 0 7 < hSum σ x wd (nI t) then 0 else 1)
    rw [ih, hSum_fx h, h.1 7 (by omega)]
theorem hall_fx {σ σ' : St} (h : Fx (only 7) σ σ') {wd : Int32} {x : Nat} : hall σ' wd x = hall σ wd x := by
  induction x with
  | zero => rfl
  | succ x ih =>
    show hall σ' wd x + hc σ' wd x 10 = hall σ wd x + hc σ wd x 10
    rw [ih, hc_fx h]
theorem Dr_fx {σ σ' : St} {g : Nat → Int32} (h : Fx (only 7) σ σ') (hD : Dr σ g) : Dr σ' g := fun k hk => by
  rw [h.2 14 (by omega) (fun q => by have e : (14 : Nat) = 7 := q; omega)]
  exact hD k hk
theorem hall_z {n : Nat} (h : nI n = 0) (hn : n ≤ 1000) : n = 0 := by
  have e := congrArg Int32.toInt h
  rw [nI_toInt (by omega)] at e
  have z0 : (0 : Int32).toInt = 0 := by decide
  omega
theorem lgc_self (x : Int64) : lg_cmp x x = 0 := by
  have h : ¬ x < x := fun q => by
    have := Int64.lt_iff_toInt_lt.mp q
    omega
  simp [lg_cmp, h]
theorem dn {v : Int32} (h0 : 0 ≤ v.toInt) : (v + (-1)).toInt = v.toInt - 1 ∧ ((v + (-1)).toInt + 1).toNat = ix v ∧ (v.toInt + 1).toNat = ix v + 1 ∧ nI (ix v) = v ∧ (ix v : Int) = v.toInt ∧ -1 ≤ (v + (-1)).toInt ∧ (v + (-1)).toInt ≤ v.toInt := by
  have hb := lb v
  have e := dec_toInt (a := v) (by omega) (by omega)
  have j := ix_toInt h0
  refine ⟨e, by rw [e]; omega, by omega, (nI_ix h0).symm, j, by rw [e]; omega, by rw [e]; omega⟩
theorem dn1 {v : Int32} (h0 : -1 ≤ v.toInt) (h1 : v.toInt < 0) : (v.toInt + 1).toNat = 0 := by omega
theorem FD_row {σ : St} {a w : Nat} {m f : Int32} (h : FD σ (100 * a + w) m f) (hw : w ≤ 100) (hc : w = 0 ∨ a % 9 ≤ a / 9) : FD σ (100 * a) m f := FD_skip h (fun u h1 h2 q => by
  have q2 := q.2
  omega) (by omega)
theorem w100 {v : Int32} (h0 : v.toInt ≤ 99) : (v.toInt + 1).toNat ≤ 100 := by omega
theorem ar1 {ns w N : Nat} (h : ns + 9 * (w + 1) ≤ N) : ns + 9 + 9 * w ≤ N := by omega
theorem ar2 {nc w N : Nat} (h : nc + (w + 1) ≤ N) : nc + 1 + w ≤ N := by omega
theorem ar3 {w k : Nat} (h : w + 1 < k + 1) : w < k := by omega
theorem ar4 {v : Int32} {M : Nat} (h0 : 0 ≤ v.toInt) (h : ix v + 1 ≤ M) (hM : M ≤ 128) : 0 ≤ v.toInt ∧ v.toInt ≤ 1024 := by
  have j := ix_toInt h0
  omega
theorem ar5 {r : Int} (hg : r = -9 ∨ (0 ≤ r ∧ r < 128)) (h : 0 ≤ r) : 0 ≤ r ∧ r ≤ 1024 := by omega
theorem code_w {w : Int32} (w0 : 0 ≤ w.toInt) (w1 : w.toInt ≤ 99) : (0 ≤ (w / 10).toInt ∧ (w / 10).toInt ≤ 9) ∧ 0 ≤ (w - w / 10 * 10).toInt ∧ (w - w / 10 * 10).toInt ≤ 9 := by
  have z10 : (10 : Int32).toInt = 10 := by decide
  have dU := dv_toInt (a := w) (b := 10) (by omega) (by omega)
  have dV := irem_toInt (a := w) (b := 10) (by omega) (by omega)
  rw [z10] at dU dV
  omega
theorem code_d {v : Int32} (v0 : 0 ≤ v.toInt) (v1 : v.toInt ≤ 80) : v / 9 = nI (ix v / 9) ∧ v - v / 9 * 9 = nI (ix v % 9) ∧ ix v / 9 < 9 ∧ ix v % 9 < 9 ∧ (v / 9).toInt = ((ix v / 9 : Nat) : Int) ∧ (v - v / 9 * 9).toInt = ((ix v % 9 : Nat) : Int) := by
  have z9 : (9 : Int32).toInt = 9 := by decide
  have j := ix_toInt v0
  have dA := dv_toInt (a := v) (b := 9) (by omega) (by omega)
  have dB := irem_toInt (a := v) (b := 9) (by omega) (by omega)
  rw [z9] at dA dB
  refine ⟨qm_eq (by rw [nI_toInt (by omega)]; omega), qm_eq (by rw [nI_toInt (by omega)]; omega), by omega, by omega, by omega, by omega⟩
theorem code_e {σ τ : St} (h : Rl σ τ) {v w : Int32} (v0 : 0 ≤ v.toInt) (v1 : v.toInt ≤ 80) (w0 : 0 ≤ w.toInt) (w1 : w.toInt ≤ 99) (hlt : ix v / 9 < ix v % 9) : Vc (100 * ix v + ix w) ∧ nI (100 * ix v + ix w) = 100 * v + w ∧ lmin (fun z => zq σ z (ix v / 9) (ix v % 9) (w / 10) (w - w / 10 * 10)) (ix (σ 0 4)) = vl σ (100 * ix v + ix w) := by
  have j := ix_toInt v0
  have k := ix_toInt w0
  have z10 : (10 : Int32).toInt = 10 := by decide
  have z100 : (100 : Int32).toInt = 100 := by decide
  have dU := dv_toInt (a := w) (b := 10) (by omega) (by omega)
  have dV := irem_toInt (a := w) (b := 10) (by omega) (by omega)
  rw [z10] at dU dV
  have hU : w / 10 = nI ((100 * ix v + ix w) / 10 % 10) := qm_eq (by rw [nI_toInt (by omega)]; omega)
  have hV2 : w - w / 10 * 10 = nI ((100 * ix v + ix w) % 10) := qm_eq (by rw [nI_toInt (by omega)]; omega)
  refine ⟨⟨by omega, by omega⟩, ?_, ?_⟩
  · have e1 := km_toInt (a := v) (k := 100) (z := 100) (by decide) (by omega) (by omega)
    refine qm_eq ?_
    rw [nI_toInt (by omega), a_toInt (by omega) (by omega), e1]
    omega
  · unfold vl
    rw [show (100 * ix v + ix w) / 900 = ix v / 9 by omega, show (100 * ix v + ix w) / 100 % 9 = ix v % 9 by omega, ← hU, ← hV2]
    exact (la_eq h (by omega) (by omega) (by omega) (by omega) (by omega)).1.symm
theorem hc11 {σ : St} {wd : Int32} {x : Nat} : hc σ wd x 10 < 11 := Nat.lt_succ_of_le (hc_le 10)
theorem hall81 {σ : St} {wd : Int32} {n : Nat} (h : n ≤ 8) : hall σ wd n < 81 := by
  have q := hall_le (σ := σ) (wd := wd) n
  omega
theorem lt4 {x : Int} (h : x < 4) : x ≤ 3 := by omega
theorem ixlt {v n : Int32} (v0 : 0 ≤ v.toInt) (h : v.toInt < n.toInt) : ix v < ix n := by
  have a := ix_toInt v0
  have b := ix_toInt (x := n) (by omega)
  omega
theorem c4 {x : Int32} {n : Nat} (e : x = nI n) (hn : n < 11) : x.toInt = (n : Int) := by rw [e]; exact nI_toInt (by omega)
theorem ze1 {x : Int32} {n : Nat} (e : x.toInt = (n : Int)) (h : x.toInt ≤ 0) : n = 0 := by omega
theorem ze2 {x : Int32} {n : Nat} (e : x.toInt = (n : Int)) (h : 0 < x.toInt) : 0 < n := by omega
theorem ze3 {x y : Int32} {n m : Nat} (e : x.toInt = (n : Int)) (e2 : y.toInt = (m : Int)) (h : x.toInt < y.toInt) : n < m := by omega
theorem ze4 {x y : Int32} {n m : Nat} (e : x.toInt = (n : Int)) (e2 : y.toInt = (m : Int)) (h : x.toInt ≤ y.toInt) : n ≤ m := by omega
theorem ze5 {r : Int32} {N : Nat} (hg : r.toInt = -9 ∨ (0 ≤ r.toInt ∧ r.toInt < N)) (h : 0 ≤ r.toInt) : ix r < N := by
  have a := ix_toInt h
  omega
theorem hz1000 {n : Nat} (h : n < 81) : n ≤ 1000 := by omega
theorem od0 {v : Int32} (h2 : 2 ≤ v.toInt) (h8 : v.toInt ≤ 8) : -1 ≤ (v - 1).toInt ∧ (v - 1).toInt < v.toInt ∧ ((v - 1).toInt + 1).toNat = ix v ∧ ix v < 100 := by
  have z1 : (1 : Int32).toInt = 1 := by decide
  have e := s_toInt (a := v) (b := 1) (by omega) (by omega)
  have j := ix_toInt (x := v) (by omega)
  refine ⟨by omega, by omega, by omega, by omega⟩
theorem vp8 {v n : Int32} (h0 : 0 ≤ v.toInt) (h : v.toInt < n.toInt) (h8 : n.toInt ≤ 8) : vp_in v 8 := vpi h0 (by omega)
theorem vp8N {r : Int32} {N : Nat} (hg : r.toInt = -9 ∨ (0 ≤ r.toInt ∧ r.toInt < N)) (h : 0 ≤ r.toInt) (hN : N ≤ 8) : vp_in r 8 := vpi h (by omega)
