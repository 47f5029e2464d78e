/-! register, in step -/
def Gt (τ : St) (b i : Nat) : Int32 := τ 16 (b + i)
theorem Good.at {G : Nat → Int32} {n e : Int32} (h : Good G n e) {i : Nat} (hi : (i : Int) < e.toInt) : ¬ f_X3_goesOn (G i) (nI i) = 0 ∧ (nI i).toInt = i := by
  have b := lb e
  have e1 : (nI i).toInt = i := nI_toInt (by omega)
  have e2 : ix (nI i) = i := nI_clamp (by omega)
  have o := h.2 (nI i) (by omega) (by omega)
  unfold okp at o
  rw [e2] at o
  exact ⟨o, e1⟩
theorem R_taken1 {j : Nat} {σ τ W : St} {q c : Nat} {a2 n : Int32} {G : Nat → Int32} (h : R j σ τ) (hq : q < 4) (hn : 0 ≤ n.toInt ∧ n.toInt ≤ 90) (ha : 0 ≤ a2.toInt ∧ a2.toInt ≤ 90) (c2 : 2 ≤ c) (hc : ∀ p : Int32, 0 ≤ p.toInt → p.toInt < n.toInt → u2 σ 0 9 0 (13 + q) (ix (a2 + p)) = G (ix p)) (hi : InvT τ G n W c) (hp : (W 0 7).toInt = n.toInt) : f_X3_startAnew (f_X3_takeText (u2 σ 0 9 0) q a2 n) 0 4 = u2 (u2 (u2 (lp_X4_register_120 200 0 (lp_X4_register_90 200 0 (lp_X4_register_58 200 0 (u2 W 0 1 (W 0 8))))) 0 11 0) 0 2 0) 0 3 40 0 1 ∧ R j (f_X3_startAnew (f_X3_takeText (u2 σ 0 9 0) q a2 n)) (u2 (u2 (u2 (u2 (lp_X4_register_120 200 0 (lp_X4_register_90 200 0 (lp_X4_register_58 200 0 (u2 W 0 1 (W 0 8))))) 0 11 0) 0 2 0) 0 3 40) 0 0 0) := by
  obtain ⟨h8, c8, h7, hg, hF, hC⟩ := hi
  have z0 : (0 : Int32).toInt = 0 := by decide
  have z11 : (11 : Int32).toInt = 11 := by decide
  have o0 : ix (0 : Int32) = 0 := by decide
  have hc7 : (W 0 7).toInt = 11 * c - 1 := by omega
  have d1 := dv_toInt (a := n) (b := 11) hn.1 (by decide)
  rw [z11] at d1
  have d2 := inc_toInt (a := n / 11) (by omega) (by omega)
  have hcnt : (n / 11 + 1).toInt = c := by omega
  -- the class's side
  unfold f_X3_takeText
  have eS : u2 (u2 σ 0 9 0) 0 4 (n / 11 + 1) (13 + q) = u2 σ 0 9 0 (13 + q) := u2_nc (by omega)
  have ts := tt_13 (G := G) (C := u2 σ 0 9 0 (13 + q)) hq (p2 := a2) (cnt := n / 11 + 1) (by omega) (fun x x0 x1 => by
    have ex := ix_toInt x0
    have e1 := mk_toInt (a := x) (k := 11) (z := 11) (by decide) (by omega) (by omega)
    have ex1 := ix_toInt (x := x * 11) (by omega)
    refine ⟨?_, fun m m0 m1 => ?_⟩
    · rw [hc (x * 11) (by omega) (by omega), show ix (x * 11) = 11 * ix x by omega]
    · have em := ix_toInt m0
      have z1 : (1 : Int32).toInt = 1 := by decide
      have e2 := a_toInt (a := x * 11) (b := 1) (by omega) (by omega)
      have e3 := a_toInt (a := x * 11 + 1) (b := m) (by omega) (by omega)
      have ex2 := ix_toInt (x := x * 11 + 1 + m) (by omega)
      rw [show a2 + x * 11 + 1 + m = a2 + (x * 11 + 1 + m) by rw [Int32.add_assoc, Int32.add_assoc, Int32.add_assoc], hc (x * 11 + 1 + m) (by omega) (by omega), show ix (x * 11 + 1 + m) = 11 * ix x + 1 + ix m by omega]) 200 0 (u2 (u2 σ 0 9 0) 0 4 (n / 11 + 1)) (by decide) (by omega) (by rw [u2_self]) eS
  generalize lp_X3_takeText_13 q a2 200 0 (u2 (u2 σ 0 9 0) 0 4 (n / 11 + 1)) = A at ts ⊢
  obtain ⟨ts1, _, ts3⟩ := ts
  -- the check's side
  have b1 := cp_58 200 0 (u2 W 0 1 (W 0 8)) (by decide) (by rw [u2_self]; omega)
  rw [u2_self, u2_nc (show (4 : Nat) ≠ 0 by decide)] at b1
  generalize lp_X4_register_58 200 0 (u2 W 0 1 (W 0 8)) = B1 at b1 ⊢
  have b2 := cp_90 200 0 B1 (by decide) (by decide)
  generalize lp_X4_register_90 200 0 B1 = B2 at b2 ⊢
  have b3 := cp_120 200 0 B2 (by decide) (by decide)
  generalize lp_X4_register_120 200 0 B2 = B3 at b3 ⊢
  have B0 : B3 0 = u2 W 0 1 (W 0 8) 0 := by rw [b3.1 0 (by decide), b2.1 0 (by decide), b1.1 0 (by decide)]
  have A0 : A 0 = u2 (u2 σ 0 9 0) 0 4 (n / 11 + 1) 0 := ts1 0 (by omega)
  have n4 : f_X3_startAnew A 0 4 = n / 11 + 1 := by
    unfold f_X3_startAnew
    rw [u2_nc (by decide), u1_ne _ (by decide), u2_nk (by decide), u2_nk (by decide), u2_nk (by decide), A0, u2_self]
  have m1 : u2 (u2 (u2 B3 0 11 0) 0 2 0) 0 3 40 0 1 = W 0 8 := by
    rw [u2_nk (by decide), u2_nk (by decide), u2_nk (by decide), B0, u2_self]
  have eq1 : n / 11 + 1 = W 0 8 := qm_eq (by omega)
  have kd : ∀ x, x < c → 0 ≤ (f_X3_kindOf (G (11 * x))).toInt ∧ (f_X3_kindOf (G (11 * x))).toInt ≤ 2 := fun x hx => by
    obtain ⟨o1, o2⟩ := hg.at (i := 11 * x) (by omega)
    exact (kindOf_y ((ok_0 (by omega) (by omega)).mp o1)).2
  have dg : ∀ x, x < c → ∀ m, m < 9 → 0 ≤ (G (11 * x + 1 + m) - 48).toInt ∧ (G (11 * x + 1 + m) - 48).toInt ≤ 9 := fun x hx m hm => by
    obtain ⟨o1, o2⟩ := hg.at (i := 11 * x + 1 + m) (by omega)
    exact dig_iff.mpr ((ok_d (by omega) (by omega) (by omega)).mp o1)
  refine ⟨by rw [n4, m1, eq1], R_new h c2 c8 (by rw [n4]; exact hcnt) (by rw [u2_nk (by decide), m1, n4, eq1]) ⟨?_, ?_, ?_, ?_, ?_⟩ ⟨?_, ?_, ?_, ?_, ?_⟩ (fun d hd => ?_) (fun d hd => ?_) (fun m hm => ?_) (fun m hm => ?_) ?_ (fun x hx => ?_)⟩
  · unfold f_X3_startAnew
    rw [u2_nc (by decide), u1_ne _ (by decide), u2_nk (by decide), u2_nk (by decide), u2_self]
  · unfold f_X3_startAnew
    rw [u2_nc (by decide), u1_ne _ (by decide), u2_nk (by decide), u2_self]
  · unfold f_X3_startAnew
    rw [u2_nc (by decide), u1_ne _ (by decide), u2_self]
  · unfold f_X3_startAnew
    rw [u2_nc (by decide), u1_ne _ (by decide), u2_nk (by decide), u2_nk (by decide), u2_nk (by decide), A0, u2_nk (by decide), u2_nk (by decide)]
  · unfold f_X3_startAnew
    rw [u2_nc (by decide), u1_ne _ (by decide), u2_nk (by decide), u2_nk (by decide), u2_nk (by decide), A0, u2_nk (by decide), u2_self]
  · rw [u2_nk (by decide), u2_nk (by decide), u2_nk (by decide), u2_self]
  · rw [u2_nk (by decide), u2_nk (by decide), u2_self]
  · rw [u2_nk (by decide), u2_self]
  · rw [u2_nk (by decide), u2_nk (by decide), u2_nk (by decide), u2_nk (by decide), B0, u2_nk (by decide)]
    exact hF.2 24 (by decide) (by decide)
  · rw [u2_self]
  · unfold f_X3_startAnew
    rw [u2_nc (by omega), u1_ne _ (by omega), u2_nc (by omega), u2_nc (by omega), u2_nc (by omega), ts1 d (by omega), u2_nc (by omega), u2_nc (by omega)]
  · rw [u2_nc (by omega), u2_nc (by omega), u2_nc (by omega), u2_nc (by omega), b3.1 d (by omega), b2.1 d (by omega), b1.1 d (by omega), u2_nc (by omega)]
    exact hF.1 d (by omega) (by omega) (by omega)
  · unfold f_X3_startAnew
    rw [u2_nc (by decide), u1_same]
    show (if m < 9 then (5 : Int32) else _) = 5
    rw [if_pos hm]
  · rw [u2_nc (by decide), u2_nc (by decide), u2_nc (by decide), u2_nc (by decide), b3.2 m, if_pos ⟨by rw [z0]; omega, hm⟩]
  · unfold f_X3_startAnew
    rw [o0, u2_self]
  · have T1 : u2 (u2 (u2 (u2 B3 0 11 0) 0 2 0) 0 3 40) 0 0 0 1 x = f_X3_kindOf (G (11 * x)) := by
      rw [u2_nc (by decide), u2_nc (by decide), u2_nc (by decide), u2_nc (by decide), b3.1 1 (by decide), b2.1 1 (by decide), b1.2 x, if_pos ⟨by rw [z0]; omega, by omega⟩]
      exact (hC x hx).1
    have T2 : ∀ m, m < 9 → u2 (u2 (u2 (u2 B3 0 11 0) 0 2 0) 0 3 40) 0 0 0 2 (9 * x + m) = G (11 * x + 1 + m) - 48 := fun m hm => by
      rw [u2_nc (by decide), u2_nc (by decide), u2_nc (by decide), u2_nc (by decide), b3.1 2 (by decide), b2.2 (9 * x + m), if_pos ⟨by rw [z0]; omega, by omega⟩, b1.1 5 (by decide), u2_nc (by decide)]
      exact (hC x hx).2 m hm
    have SA : ∀ d, 17 ≤ d → f_X3_startAnew A d = A d := fun d hd => by
      unfold f_X3_startAnew
      rw [u2_nc (by omega), u1_ne _ (by omega), u2_nc (by omega), u2_nc (by omega), u2_nc (by omega)]
    obtain ⟨w1, w2, w3⟩ := ts3 x (by rw [z0]; omega) (by omega)
    unfold Rsign
    rw [SA (17 + x) (by omega), SA (25 + x) (by omega), T1, w1, w2]
    refine ⟨rfl, kd x hx, (isum_congr 9 T2).symm, fun m hm => ?_⟩
    rw [w3 m hm, T2 m hm]
    exact ⟨rfl, dg x hx m hm⟩
theorem q_register {j : Nat} {σ τ : St} (h : R j σ τ) (hj : j < 512) (a0 a1 a2 a3 : Int32) : (f_X3_register σ a0 a1 a2 a3).1 = (f_X4_register τ a0 a1 a2 a3).1 ∧ R (j + 1) (f_X3_register σ a0 a1 a2 a3).2 (f_X4_register τ a0 a1 a2 a3).2 := by
  unfold f_X3_register f_X4_register
  have l3 : a3.toInt64.toInt = a3.toInt := Int32.toInt_toInt64 a3
  have lb3 := lb a3
  rcases R_span h (k := a0) (lane := a1) (i := a2) (n := a3.toInt64) (by omega) with ⟨ex, ey⟩ | ⟨n1, n2, n3, v, v1, v2⟩
  case inr =>
    rw [if_neg n1, if_neg n2]
    refine ⟨n3, ?_⟩
    show R (j + 1) (f_X3_spanRefusal σ a0 a1 a2 a3.toInt64).2 (f_X4_barred τ a0 a1 a2 a3.toInt64).2
    rw [v1, v2]
    exact R_up (R_fault h v)
  have z : (f_X3_spanRefusal σ a0 a1 a2 a3.toInt64).1 = 0 := by rw [ex]
  obtain ⟨hk, p1, p2, p3⟩ := sp_z z
  have has := sp_has z
  have E1 : (f_X3_spanRefusal σ a0 a1 a2 a3.toInt64).2 = u2 σ 0 9 0 := by rw [ex]
  have E2 : (f_X4_barred τ a0 a1 a2 a3.toInt64).1 = 0 := by rw [ey]
  have E3 : (f_X4_barred τ a0 a1 a2 a3.toInt64).2 = τ := by rw [ey]
  rw [if_pos z, E1, E2, E3, if_pos (show (0 : Int32) ≤ 0 by decide)]
  clear ex ey z E1 E2 E3
  rcases R_Rsh h hk with ⟨q1, q2⟩ | ⟨q1, q2, q3, q4, q5, q6⟩
  · exact absurd q1 has
  have p4 := p3 (by omega)
  rw [l3, q2] at p4
  rw [l3] at p2
  have e0 := ix_toInt hk.1
  have e2 := ix_toInt p1
  have k1 := km_toInt (a := a0) (k := 90) (z := 90) (by decide) (by omega) (by omega)
  have k2 := a_toInt (a := 90 * a0) (b := a2) (by omega) (by omega)
  have hcX : ∀ p : Int32, 0 ≤ p.toInt → p.toInt < a3.toInt → u2 σ 0 9 0 (13 + ix a0) (ix (a2 + p)) = Gt τ (90 * ix a0 + ix a2) (ix p) := fun p p0 p1' => by
    have ep := ix_toInt p0
    rw [u2_nc (by omega), ix_add p1 p0 (by omega), q6 _ (by omega)]
    unfold Gt
    rw [Nat.add_assoc]
  have hcM : ∀ p : Int32, 0 ≤ p.toInt → p.toInt < a3.toInt → τ 16 (ix (90 * a0 + a2 + p)) = Gt τ (90 * ix a0 + ix a2) (ix p) := fun p p0 p1' => by
    unfold Gt
    rw [ix_add (by omega) p0 (by omega), ix_90 hk ⟨p1, by omega⟩]
  have hn : 0 ≤ a3.toInt ∧ a3.toInt ≤ 90 := by omega
  have t := R_reads (f := 90 * a0 + a2) hn.1 hcM
  generalize f_X4_readsRegister τ (90 * a0 + a2) a3 = W at t ⊢
  rcases t with ⟨t1, t2, t3⟩ | ⟨t1, c, c2, hi, hp⟩
  · have g := t2.1.1
    rw [tf_fail hn hcX t2, if_neg (show ¬ W.2 0 7 < 0 from qm_nlt (x := W.2 0 7) (y := 0) g.1), if_pos t1]
    refine ⟨rfl, ?_⟩
    show R (j + 1) (u2 σ 0 9 0) (u2 W.2 0 0 0)
    exact R_up (R_fs h (fun k hk => u2_nk hk) (fun k k0 k7 k8 => by rw [u2_nk k0]; exact t3.2 k k7 k8) (by rw [u2_self, u2_self]) (fun c h0 _ _ _ => u2_nc h0) (fun c h0 h4 h5 _ _ _ => by rw [u2_nc h0]; exact t3.1 c h0 h4 h5))
  · have hw : Whole a3 := by
      have h7 := hi.2.2.1
      unfold Whole
      omega
    have hgn : Good (Gt τ (90 * ix a0 + ix a2)) a3 a3 := by
      have hg := hi.2.2.2.1
      have e : W.2 0 7 = a3 := qm_eq hp
      rw [e] at hg
      exact hg
    obtain ⟨f1, f2⟩ := R_taken1 h (q := ix a0) (a2 := a2) (by omega) hn (by omega) c2 hcX hi hp
    rw [tf_whole hn hcX hgn hw, if_pos (show (-1 : Int32) < 0 by decide), if_neg (by rw [t1]; decide)]
    generalize f_X3_startAnew (f_X3_takeText (u2 σ 0 9 0) (ix a0) a2 a3) = S at f1 f2 ⊢
    generalize lp_X4_register_58 200 0 (u2 W.2 0 1 (W.2 0 8)) = B1 at f1 f2 ⊢
    generalize lp_X4_register_90 200 0 B1 = B2 at f1 f2 ⊢
    generalize lp_X4_register_120 200 0 B2 = B3 at f1 f2 ⊢
    generalize u2 (u2 (u2 B3 0 11 0) 0 2 0) 0 3 40 = T at f1 f2 ⊢
    exact ⟨f1, R_up f2⟩
