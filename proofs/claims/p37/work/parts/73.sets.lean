/-! the law's walk: sets of stoppers -/
set_option maxHeartbeats 8000000 in
set_option maxRecDepth 100000 in
theorem l_481 {p : Program} {l : Launch} {e : Env} {s : State} {m : MethodId} {below : List Frame} {meth : Method} {c : Code} {D : va_G} {b L : Nat} {xs : Nat → Int32} {adC : Nat → Nat} (hC : LC p s m meth c D b L xs adC) {adL : Nat → Nat} {nc ns : Nat} (hnc : nc ≤ 1000) (hns : ns ≤ 10000) {σ : St} {v5 v6 v10 v12 v13 v14 v15 v16 : Int32} (h12 : 0 ≤ v12.toInt ∧ v12.toInt < v5.toInt)
    (hex : ∀ τ' : St, Bs σ τ' v5 v6 → (∀ i, i < 9 → τ' 3 i = σ (25 + ix v12) i) → LG p l e s m below meth c D b adC adL 4 σ τ' nc ns 511 [(0, .ref b), (1, .ref (adC 0)), (2, .ref (adL 0)), (3, .ref (adL 1)), (4, .ref (adL 2)), (5, .int v5), (6, .int v6), (10, .int v10), (12, .int v12), (13, .int v13), (14, .int v14), (15, .int v15), (16, .int v16), (17, .ref (adL 3))] []) : ∀ (k : Nat) (v18 : Int32) (τ : St), Bs σ τ v5 v6 → (∀ i, i < ix v18 → τ 3 i = σ (25 + ix v12) i) → 0 ≤ v18.toInt → v18.toInt ≤ 9 → 9 < v18.toInt + k → LG p l e s m below meth c D b adC adL 4 σ τ nc ns 481 [(0, .ref b), (1, .ref (adC 0)), (2, .ref (adL 0)), (3, .ref (adL 1)), (4, .ref (adL 2)), (5, .int v5), (6, .int v6), (10, .int v10), (12, .int v12), (13, .int v13), (14, .int v14), (15, .int v15), (16, .int v16), (17, .ref (adL 3)), (18, .int v18)] [] := by
  intro k
  induction k with
  | zero => intro v18 τ b1 b2 a1 a2 a3; exact absurd a3 (by omega)
  | succ k ih =>
  intro v18 τ hB h3 a1 a2 a3
  intro h100 hdis H locs wC wL ls hl
  obtain ⟨hL, C0, hKC⟩ := id hC
  obtain ⟨hx, hb, hr, hml, hown, hts, hX, hbl, hlocks, hgv⟩ := C0
  have hN : NW s := NW_of hts
  have S : CallFix p m c cL_law 30 s #[Value.ref b] wsL_law RL := ⟨hx, hb, hml, hown, fun w h => hts w (wsL_law_in w h)⟩
  have hbA : ¬ (fun q : Nat => s.heap.size ≤ q) b := Nat.not_le.mpr hbl
  have hKL := KL_of hKC h100
  have z0 : (0 : Int32).toInt = 0 := by decide
  have z1 : (1 : Int32).toInt = 1 := by decide
  have hR := hB.1
  have hn := hB.n
  have j18 := ix_toInt (x := v18) (by omega)
  refine lv_iload hx hb dL_law_481 (lv_at hl 14 rfl) ?_
  refine lv_bipush (v := 9) hx hb dL_law_483 (by decide) ?_
  refine lv_icmp_ge (tgt := 511) hx hb dL_law_485 (by decide) (fun c485 => ?_) (fun c485 => ?_)
  · have t485 : 9 ≤ v18.toInt := qt_le c485
    have e9 : ix v18 = 9 := by omega
    rw [e9] at h3
    exact (hex τ hB h3) h100 hdis H locs wC wL ls (lv_sub hl [0, 1, 2, 3, 4, 5, 6, 7, 8, 9, 10, 11, 12, 13] rfl)
  · have t485 : v18.toInt < 9 := qt_nle c485
    have e500 := a_toInt (a := 1) (b := v18) (by omega) (by omega)
    refine lv_aload hx hb dL_law_488 (lv_at hl 13 rfl) ?_
    refine lv_iload hx hb dL_law_490 (lv_at hl 14 rfl) ?_
    refine lv_aload_n hx hb dL_law_492 rfl (lv_at hl 3 rfl) ?_
    refine lv_aload hx hb dL_law_493 (lv_at hl 4 rfl) ?_
    refine lv_iload hx hb dL_law_495 (lv_at hl 8 rfl) ?_
    refine lv_iconst (v := 1) hx hb dL_law_497 (by decide) ?_
    refine lv_iload hx hb dL_law_498 (lv_at hl 14 rfl) ?_
    refine lv_iadd hx hb dL_law_500 ?_
    refine call0i (va_runS (As := [.ref (adL 1), .ref (adL 2), .int v12, .int (1 + v18)]) (rest := [.int v18, .ref (adL 3)]) S (c_L_get l adL D H.size τ v12 (1 + v18) (by omega) (by omega)) (va_cwS 4 S.2.2.2.2 gL_law_L_get rfl rfl rfl hd_L_get ⟨Nat.le_of_ble_eq_true rfl, Nat.le_of_ble_eq_true rfl⟩) (preS hKL hN (wL.take (k := 3) (by decide))) rfl rfl hl.1 rfl (lv_room (Nat.le_of_ble_eq_true rfl)) dL_law_501 (rm_ok hnc hns)) ?_
    have q501 : (f_L_get τ v12 (1 + v18)) = σ (25 + ix v12) (ix v18) := (hR.st (by omega) (by omega) (by omega) (by omega)).1
    generalize (f_L_get τ v12 (1 + v18)) = w1 at hl q501 ⊢
    have g504 : vp_in v18 9 := vpi (by omega) (by omega)
    refine iast2 S hKL wC wL hdis (k := 3) (by decide) (cA := adL 100) (N := 9) (fun f => rfl) rfl g504 dL_law_504 (fun H locs wC wL => ?_)
    refine lv_iinc (v := (v18 + 1)) (lv' := [(18, .int (v18 + 1)), (0, .ref b), (1, .ref (adC 0)), (2, .ref (adL 0)), (3, .ref (adL 1)), (4, .ref (adL 2)), (5, .int v5), (6, .int v6), (10, .int v10), (12, .int v12), (13, .int v13), (14, .int v14), (15, .int v15), (16, .int v16), (17, .ref (adL 3))]) hx hb dL_law_505 hl (k := 14) rfl rfl (by decide) rfl (fun ls hl => ?_)
    refine lv_goto (tgt := 481) hx hb dL_law_508 (by decide) ?_
    have e18 := inc_toInt (a := v18) (by omega) (by omega)
    have k18 := ix_toInt (x := v18 + 1) (by omega)
    have hB1 := hB.tau (τ' := u2 τ 3 (ix v18) w1) (u2_nc (by omega)) (u2_nc (by omega)) (u2_nc (by omega))
    have h31 : ∀ i, i < ix (v18 + 1) → u2 τ 3 (ix v18) w1 3 i = σ (25 + ix v12) i := fun i hi => by
        by_cases ci : i = ix v18
        · rw [ci, u2_self, q501]
        · rw [u2_nk ci]; exact h3 i (by omega)
    exact (ih (v18 + 1) _ hB1 h31 (by omega) (by omega) (by omega)) h100 hdis H locs wC wL ls (lv_sub hl [1, 2, 3, 4, 5, 6, 7, 8, 9, 10, 11, 12, 13, 14, 0] rfl)
set_option maxHeartbeats 8000000 in
set_option maxRecDepth 100000 in
theorem l_514 {p : Program} {l : Launch} {e : Env} {s : State} {m : MethodId} {below : List Frame} {meth : Method} {c : Code} {D : va_G} {b L : Nat} {xs : Nat → Int32} {adC : Nat → Nat} (hC : LC p s m meth c D b L xs adC) {adL : Nat → Nat} {nc ns : Nat} (hnc : nc ≤ 1000) (hns : ns ≤ 10000) {σ0 : St} {v5 v6 v10 v12 v13 v14 v15 v16 : Int32} (h14 : 0 ≤ v14.toInt ∧ v14.toInt < 8) (hst : Stq σ0 (ix v14))
    (hex : ∀ σ' τ' : St, Bs σ' τ' v5 v6 → v10 = σ' 0 7 → (∃ f, σ' = u2 σ0 0 9 f) → (∀ i, i < 9 → τ' 3 i = thenF (σ0 (25 + ix v12)) (σ0 14) v16 (ix v14) i) → LG p l e s m below meth c D b adC adL 4 σ' τ' nc ns 568 [(0, .ref b), (1, .ref (adC 0)), (2, .ref (adL 0)), (3, .ref (adL 1)), (4, .ref (adL 2)), (5, .int v5), (6, .int v6), (10, .int v10), (12, .int v12), (13, .int v13), (14, .int v14), (15, .int v15), (16, .int v16), (17, .ref (adL 3))] []) : ∀ (k : Nat) (v18 : Int32) (σ τ : St), Bs σ τ v5 v6 → v10 = σ 0 7 → (∃ f, σ = u2 σ0 0 9 f) → (∀ i, i < 9 → τ 3 i = thenF (σ0 (25 + ix v12)) (σ0 14) v16 (ix v18) i) → 0 ≤ v18.toInt → v18.toInt ≤ v14.toInt → v14.toInt < v18.toInt + k → LG p l e s m below meth c D b adC adL 4 σ τ nc ns 514 [(0, .ref b), (1, .ref (adC 0)), (2, .ref (adL 0)), (3, .ref (adL 1)), (4, .ref (adL 2)), (5, .int v5), (6, .int v6), (10, .int v10), (12, .int v12), (13, .int v13), (14, .int v14), (15, .int v15), (16, .int v16), (17, .ref (adL 3)), (18, .int v18)] [] := by
  intro k
  induction k with
  | zero => intro v18 σ τ b1 b2 b3 b4 a1 a2 a3; exact absurd a3 (by omega)
  | succ k ih =>
  intro v18 σ τ hB h10 hf h3 a1 a2 a3
  obtain ⟨f0, rfl⟩ := hf
  intro h100 hdis H locs wC wL ls hl
  obtain ⟨hL, C0, hKC⟩ := id hC
  obtain ⟨hx, hb, hr, hml, hown, hts, hX, hbl, hlocks, hgv⟩ := C0
  have hN : NW s := NW_of hts
  have S : CallFix p m c cL_law 30 s #[Value.ref b] wsL_law RL := ⟨hx, hb, hml, hown, fun w h => hts w (wsL_law_in w h)⟩
  have hbA : ¬ (fun q : Nat => s.heap.size ≤ q) b := Nat.not_le.mpr hbl
  have hKL := KL_of hKC h100
  have z0 : (0 : Int32).toInt = 0 := by decide
  have z1 : (1 : Int32).toInt = 1 := by decide
  have hR := hB.1
  have hn := hB.n
  have z2 : (2 : Int32).toInt = 2 := by decide
  refine lv_iload hx hb dL_law_514 (lv_at hl 14 rfl) ?_
  refine lv_iload hx hb dL_law_516 (lv_at hl 10 rfl) ?_
  refine lv_icmp_ge (tgt := 568) hx hb dL_law_518 (by decide) (fun c518 => ?_) (fun c518 => ?_)
  · have t518 : v14.toInt ≤ v18.toInt := qt_le c518
    have e18 : ix v18 = ix v14 := congrArg ix (qm_eq (by omega))
    rw [e18] at h3
    exact (hex _ τ hB h10 ⟨f0, rfl⟩ h3) h100 hdis H locs wC wL ls (lv_sub hl [0, 1, 2, 3, 4, 5, 6, 7, 8, 9, 10, 11, 12, 13] rfl)
  · have t518 : v18.toInt < v14.toInt := qt_nle c518
    refine lv_iload hx hb dL_law_521 (lv_at hl 12 rfl) ?_
    refine lv_iload hx hb dL_law_523 (lv_at hl 14 rfl) ?_
    refine lv_ishr hx hb dL_law_525 ?_
    refine lv_iconst (v := 1) hx hb dL_law_526 (by decide) ?_
    refine lv_iand hx hb dL_law_527 ?_
    refine lv_iconst (v := 1) hx hb dL_law_528 (by decide) ?_
    refine lv_icmp_ne (tgt := 562) hx hb dL_law_529 (by decide) (fun c529 => ?_) (fun c529 => ?_)
    · have t529 : ((v16 >>> (v18 &&& 31)) &&& 1).toInt ≠ 1 := qt_ne c529
      refine lv_iinc (v := (v18 + 1)) (lv' := [(18, .int (v18 + 1)), (0, .ref b), (1, .ref (adC 0)), (2, .ref (adL 0)), (3, .ref (adL 1)), (4, .ref (adL 2)), (5, .int v5), (6, .int v6), (10, .int v10), (12, .int v12), (13, .int v13), (14, .int v14), (15, .int v15), (16, .int v16), (17, .ref (adL 3))]) hx hb dL_law_562 hl (k := 14) rfl rfl (by decide) rfl (fun ls hl => ?_)
      refine lv_goto (tgt := 514) hx hb dL_law_565 (by decide) ?_
      have e18 := inc_toInt (a := v18) (by omega) (by omega)
      have j18 := ix_toInt (x := v18) (by omega)
      have k18 := ix_toInt (x := v18 + 1) (by omega)
      have ei : ix (v18 + 1) = ix v18 + 1 := by omega
      have en : nI (ix v18) = v18 := (nI_ix (by omega)).symm
      have h31 : ∀ i, i < 9 → τ 3 i = thenF (σ0 (25 + ix v12)) (σ0 14) v16 (ix (v18 + 1)) i := fun i hi => by
        rw [ei]
        show _ = addF (σ0 14) v16 (thenF (σ0 (25 + ix v12)) (σ0 14) v16 (ix v18)) (ix v18) i
        unfold addF
        rw [en, if_pos (bit0 c529)]
        exact h3 i hi
      exact (ih (v18 + 1) _ τ hB h10 ⟨f0, rfl⟩ h31 (by omega) (by omega) (by omega)) h100 hdis H locs wC wL ls (lv_sub hl [1, 2, 3, 4, 5, 6, 7, 8, 9, 10, 11, 12, 13, 14, 0] rfl)
    · have t529 : ((v16 >>> (v18 &&& 31)) &&& 1).toInt = 1 := qt_eq c529
      have x18 := ix2m (j := v18) (by omega) (by omega)
      have hj := hst (ix v18) (by have := ix_toInt (x := v18) (by omega); have := ix_toInt (x := v14) (by omega); omega)
      rw [← x18.2.1, ← x18.1] at hj
      refine lv_aload hx hb dL_law_532 (lv_at hl 13 rfl) ?_
      refine lv_aload_n hx hb dL_law_534 rfl (lv_at hl 1 rfl) ?_
      refine lv_iconst (v := 1) hx hb dL_law_535 (by decide) ?_
      refine lv_iconst (v := 2) hx hb dL_law_536 (by decide) ?_
      refine lv_iload hx hb dL_law_537 (lv_at hl 14 rfl) ?_
      refine lv_imul hx hb dL_law_539 ?_
      refine lv_iconst (v := 1) hx hb dL_law_540 (by decide) ?_
      refine callWl2 wC wL hdis (va_runV (As := [.int 1, .int (2 * v18), .int 1]) (rest := [.ref (adL 3)]) S (c_X3_cell l adC D H.size (u2 σ0 0 9 f0) 1 (2 * v18) 1 hR.ok) (cwV 3 S.2.2.2.2 gL_law_X3_cell rfl rfl rfl ⟨rfl, hd_X3_cell⟩ ⟨Nat.le_of_ble_eq_true rfl, Nat.le_of_ble_eq_true rfl⟩) (preV hKC hN wC (k := 0) (by decide) (eC_0 adC _) (q := (RX3, TX3, 14)) rfl) rfl rfl hl.1 rfl (lv_room (Nat.le_of_ble_eq_true rfl)) dL_law_541 (rm_ok hnc hns)) (fun H locs wC wL => ?_)
      have q541 := q_cell1 (σ := (u2 σ0 0 9 f0)) (i := (2 * v18)) hR.sh (by omega) (by omega)
      rw [pr1 q541]
      rw [pr2 q541] at wC
      rw [show (u2 σ0 0 9 f0) 14 = σ0 14 from by rw [u2_nc (by omega)]]
      refine lv_l2i hx hb dL_law_544 rfl ?_
      rw [show (σ0 14 (ix (2 * v18))).toInt64.toInt32 = (σ0 14 (ix (2 * v18))) from by simp]
      refine lv_dup2_11 hx hb dL_law_545 rfl rfl ?_
      have g546 : vp_in (σ0 14 (ix (2 * v18))) 9 := vpi (by omega) (by omega)
      refine r_iald (cA := adL 100) (N := 9) S hKL wL (k := 3) (by decide) (fun f => rfl) rfl g546 dL_law_546 ?_
      refine lv_aload_n hx hb dL_law_547 rfl (lv_at hl 1 rfl) ?_
      refine lv_iconst (v := 1) hx hb dL_law_548 (by decide) ?_
      refine lv_iconst (v := 2) hx hb dL_law_549 (by decide) ?_
      refine lv_iload hx hb dL_law_550 (lv_at hl 14 rfl) ?_
      refine lv_imul hx hb dL_law_552 ?_
      refine lv_iconst (v := 1) hx hb dL_law_553 (by decide) ?_
      refine lv_iadd hx hb dL_law_554 ?_
      refine lv_iconst (v := 1) hx hb dL_law_555 (by decide) ?_
      refine callWl2 wC wL hdis (va_runV (As := [.int 1, .int ((2 * v18) + 1), .int 1]) (rest := [.int (τ 3 (ix (σ0 14 (ix (2 * v18))))), .int (σ0 14 (ix (2 * v18))), .ref (adL 3)]) S (c_X3_cell l adC D H.size (u2 (u2 σ0 0 9 f0) 0 9 0) 1 ((2 * v18) + 1) 1 (okC_obj (by omega) hR.ok)) (cwV 3 S.2.2.2.2 gL_law_X3_cell rfl rfl rfl ⟨rfl, hd_X3_cell⟩ ⟨Nat.le_of_ble_eq_true rfl, Nat.le_of_ble_eq_true rfl⟩) (preV hKC hN wC (k := 0) (by decide) (eC_0 adC _) (q := (RX3, TX3, 14)) rfl) rfl rfl hl.1 rfl (lv_room (Nat.le_of_ble_eq_true rfl)) dL_law_556 (rm_ok hnc hns)) (fun H locs wC wL => ?_)
      have q556 := q_cell1 (σ := (u2 (u2 σ0 0 9 f0) 0 9 0)) (i := (2 * v18 + 1)) (s1_f hR.sh) (by omega) (by omega)
      rw [pr1 q556]
      rw [pr2 q556] at wC
      rw [show (u2 (u2 σ0 0 9 f0) 0 9 0) 14 = σ0 14 from by rw [u2_nc (by omega), u2_nc (by omega)]]
      refine lv_l2i hx hb dL_law_559 rfl ?_
      rw [show (σ0 14 (ix (2 * v18 + 1))).toInt64.toInt32 = (σ0 14 (ix (2 * v18 + 1))) from by simp]
      refine lv_iadd hx hb dL_law_560 ?_
      have g561 : vp_in (σ0 14 (ix (2 * v18))) 9 := vpi (by omega) (by omega)
      refine iast2 S hKL wC wL hdis (k := 3) (by decide) (cA := adL 100) (N := 9) (fun f => rfl) rfl g561 dL_law_561 (fun H locs wC wL => ?_)
      refine lv_iinc (v := (v18 + 1)) (lv' := [(18, .int (v18 + 1)), (0, .ref b), (1, .ref (adC 0)), (2, .ref (adL 0)), (3, .ref (adL 1)), (4, .ref (adL 2)), (5, .int v5), (6, .int v6), (10, .int v10), (12, .int v12), (13, .int v13), (14, .int v14), (15, .int v15), (16, .int v16), (17, .ref (adL 3))]) hx hb dL_law_562 hl (k := 14) rfl rfl (by decide) rfl (fun ls hl => ?_)
      refine lv_goto (tgt := 514) hx hb dL_law_565 (by decide) ?_
      have e18 := inc_toInt (a := v18) (by omega) (by omega)
      have j18 := ix_toInt (x := v18) (by omega)
      have k18 := ix_toInt (x := v18 + 1) (by omega)
      have ei : ix (v18 + 1) = ix v18 + 1 := by omega
      have en : nI (ix v18) = v18 := (nI_ix (by omega)).symm
      have hb3 : Bs (u2 (u2 (u2 σ0 0 9 f0) 0 9 0) 0 9 0) τ v5 v6 := (hB.flt 0).flt 0
      have hB1 := hb3.tau (τ' := (u2 τ 3 (ix (σ0 14 (ix (2 * v18)))) ((τ 3 (ix (σ0 14 (ix (2 * v18))))) + (σ0 14 (ix (2 * v18 + 1)))))) (u2_nc (by omega)) (u2_nc (by omega)) (u2_nc (by omega))
      have hs1 : ∃ f, u2 (u2 (u2 σ0 0 9 f0) 0 9 0) 0 9 0 = u2 σ0 0 9 f := ⟨0, by rw [u2u2, u2u2]⟩
      have h31 : ∀ i, i < 9 → (u2 τ 3 (ix (σ0 14 (ix (2 * v18)))) ((τ 3 (ix (σ0 14 (ix (2 * v18))))) + (σ0 14 (ix (2 * v18 + 1))))) 3 i = thenF (σ0 (25 + ix v12)) (σ0 14) v16 (ix (v18 + 1)) i := fun i hi => by
        rw [ei]
        show _ = addF (σ0 14) v16 (thenF (σ0 (25 + ix v12)) (σ0 14) v16 (ix v18)) (ix v18) i
        unfold addF
        rw [en, if_neg (fun q => by rw [q] at t529; revert t529; decide), ← x18.2.1, ← x18.1]
        by_cases ci : i = ix (σ0 14 (ix (2 * v18)))
        · rw [ci, u2_self, upd_at, h3 _ (by have := ix_toInt (x := σ0 14 (ix (2 * v18))) (by omega); omega)]
        · rw [u2_nk ci, upd_ne _ _ ci]; exact h3 i hi
      exact (ih (v18 + 1) _ _ hB1 (by rw [u2_nk (by omega), u2_nk (by omega)]; exact h10) hs1 h31 (by omega) (by omega) (by omega)) h100 hdis H locs wC wL ls (lv_sub hl [1, 2, 3, 4, 5, 6, 7, 8, 9, 10, 11, 12, 13, 14, 0] rfl)
set_option maxHeartbeats 8000000 in
set_option maxRecDepth 100000 in
theorem l_574 {p : Program} {l : Launch} {e : Env} {s : State} {m : MethodId} {below : List Frame} {meth : Method} {c : Code} {D : va_G} {b L : Nat} {xs : Nat → Int32} {adC : Nat → Nat} (hC : LC p s m meth c D b L xs adC) {adL : Nat → Nat} {nc ns : Nat} (hnc : nc ≤ 1000) (hns : ns ≤ 10000) {σ τ : St} {v5 v6 v10 v12 v13 v14 v15 v16 : Int32} (hB : Bs σ τ v5 v6) (h13 : 0 ≤ v13.toInt ∧ v13.toInt < v5.toInt) (h3 : ∀ i, i < 9 → 0 ≤ (τ 3 i).toInt ∧ (τ 3 i).toInt ≤ 1000)
    (hex : LG p l e s m below meth c D b adC adL 4 σ τ nc ns 615 [(0, .ref b), (1, .ref (adC 0)), (2, .ref (adL 0)), (3, .ref (adL 1)), (4, .ref (adL 2)), (5, .int v5), (6, .int v6), (10, .int v10), (12, .int v12), (13, .int v13), (14, .int v14), (15, .int v15), (16, .int v16), (17, .ref (adL 3)), (18, .int (8 * sm (fun k => jabs (τ 3 k - σ (25 + ix v13) k)) 9))] []) : ∀ (k : Nat) (v19 : Int32), 0 ≤ v19.toInt → v19.toInt ≤ 9 → 9 < v19.toInt + k → LG p l e s m below meth c D b adC adL 4 σ τ nc ns 574 [(0, .ref b), (1, .ref (adC 0)), (2, .ref (adL 0)), (3, .ref (adL 1)), (4, .ref (adL 2)), (5, .int v5), (6, .int v6), (10, .int v10), (12, .int v12), (13, .int v13), (14, .int v14), (15, .int v15), (16, .int v16), (17, .ref (adL 3)), (18, .int (sm (fun k => 8 * jabs (τ 3 k - σ (25 + ix v13) k)) (ix v19))), (19, .int v19)] [] := by
  intro k
  induction k with
  | zero => intro v19 a1 a2 a3; exact absurd a3 (by omega)
  | succ k ih =>
  intro v19 a1 a2 a3
  intro h100 hdis H locs wC wL ls hl
  obtain ⟨hL, C0, hKC⟩ := id hC
  obtain ⟨hx, hb, hr, hml, hown, hts, hX, hbl, hlocks, hgv⟩ := C0
  have hN : NW s := NW_of hts
  have S : CallFix p m c cL_law 30 s #[Value.ref b] wsL_law RL := ⟨hx, hb, hml, hown, fun w h => hts w (wsL_law_in w h)⟩
  have hbA : ¬ (fun q : Nat => s.heap.size ≤ q) b := Nat.not_le.mpr hbl
  have hKL := KL_of hKC h100
  have z0 : (0 : Int32).toInt = 0 := by decide
  have z1 : (1 : Int32).toInt = 1 := by decide
  have hR := hB.1
  have hn := hB.n
  have j19 := ix_toInt (x := v19) (by omega)
  refine lv_iload hx hb dL_law_574 (lv_at hl 15 rfl) ?_
  refine lv_bipush (v := 9) hx hb dL_law_576 (by decide) ?_
  refine lv_icmp_ge (tgt := 615) hx hb dL_law_578 (by decide) (fun c578 => ?_) (fun c578 => ?_)
  · have t578 : 9 ≤ v19.toInt := qt_le c578
    have e19 : ix v19 = 9 := by omega
    rw [e19, sm_mul] at hl
    exact hex h100 hdis H locs wC wL ls (lv_sub hl [0, 1, 2, 3, 4, 5, 6, 7, 8, 9, 10, 11, 12, 13, 14] rfl)
  · have t578 : v19.toInt < 9 := qt_nle c578
    have e598 := a_toInt (a := 1) (b := v19) (by omega) (by omega)
    have hs := hR.st (x := v13) (k := v19) (by omega) (by omega) (by omega) (by omega)
    have ht := h3 (ix v19) (by omega)
    refine lv_iload hx hb dL_law_581 (lv_at hl 14 rfl) ?_
    refine lv_bipush (v := 8) hx hb dL_law_583 (by decide) ?_
    refine lv_aload hx hb dL_law_585 (lv_at hl 13 rfl) ?_
    refine lv_iload hx hb dL_law_587 (lv_at hl 15 rfl) ?_
    have g589 : vp_in v19 9 := vpi (by omega) (by omega)
    refine r_iald (cA := adL 100) (N := 9) S hKL wL (k := 3) (by decide) (fun f => rfl) rfl g589 dL_law_589 ?_
    refine lv_aload_n hx hb dL_law_590 rfl (lv_at hl 3 rfl) ?_
    refine lv_aload hx hb dL_law_591 (lv_at hl 4 rfl) ?_
    refine lv_iload hx hb dL_law_593 (lv_at hl 9 rfl) ?_
    refine lv_iconst (v := 1) hx hb dL_law_595 (by decide) ?_
    refine lv_iload hx hb dL_law_596 (lv_at hl 15 rfl) ?_
    refine lv_iadd hx hb dL_law_598 ?_
    refine call0i (va_runS (As := [.ref (adL 1), .ref (adL 2), .int v13, .int (1 + v19)]) (rest := [.int (τ 3 (ix v19)), .int 8, .int (sm (fun k => 8 * jabs (τ 3 k - σ (25 + ix v13) k)) (ix v19))]) S (c_L_get l adL D H.size τ v13 (1 + v19) (by omega) (by omega)) (va_cwS 4 S.2.2.2.2 gL_law_L_get rfl rfl rfl hd_L_get ⟨Nat.le_of_ble_eq_true rfl, Nat.le_of_ble_eq_true rfl⟩) (preS hKL hN (wL.take (k := 3) (by decide))) rfl rfl hl.1 rfl (lv_room (Nat.le_of_ble_eq_true rfl)) dL_law_599 (rm_ok hnc hns)) ?_
    refine call0i (va_runS (As := [.int (τ 3 (ix v19)), .int (f_L_get τ v13 (1 + v19))]) (rest := [.int 8, .int (sm (fun k => 8 * jabs (τ 3 k - σ (25 + ix v13) k)) (ix v19))]) S (c_L_off l (τ 3 (ix v19)) (f_L_get τ v13 (1 + v19))) (va_cwS 2 S.2.2.2.2 gL_law_L_off rfl rfl rfl hd_L_off ⟨Nat.le_of_ble_eq_true rfl, Nat.le_of_ble_eq_true rfl⟩) pre0S rfl rfl hl.1 rfl (lv_room (Nat.le_of_ble_eq_true rfl)) dL_law_602 (rm_ok hnc hns)) ?_
    have q602 : (f_L_off (τ 3 (ix v19)) (f_L_get τ v13 (1 + v19))) = jabs (τ 3 (ix v19) - σ (25 + ix v13) (ix v19)) := by rw [hs.1]; exact off_eq (by omega) (by omega) (by omega) (by omega)
    generalize (f_L_off (τ 3 (ix v19)) (f_L_get τ v13 (1 + v19))) = w1 at hl q602 ⊢
    refine lv_imul hx hb dL_law_605 ?_
    rw [q602]
    refine lv_iadd hx hb dL_law_606 ?_
    refine lv_istore (lv' := [(18, .int ((sm (fun k => 8 * jabs (τ 3 k - σ (25 + ix v13) k)) (ix v19)) + (8 * jabs (τ 3 (ix v19) - σ (25 + ix v13) (ix v19))))), (0, .ref b), (1, .ref (adC 0)), (2, .ref (adL 0)), (3, .ref (adL 1)), (4, .ref (adL 2)), (5, .int v5), (6, .int v6), (10, .int v10), (12, .int v12), (13, .int v13), (14, .int v14), (15, .int v15), (16, .int v16), (17, .ref (adL 3)), (19, .int v19)]) hx hb dL_law_607 hl (by decide) rfl (fun ls hl => ?_)
    refine lv_iinc (v := (v19 + 1)) (lv' := [(19, .int (v19 + 1)), (18, .int ((sm (fun k => 8 * jabs (τ 3 k - σ (25 + ix v13) k)) (ix v19)) + (8 * jabs (τ 3 (ix v19) - σ (25 + ix v13) (ix v19))))), (0, .ref b), (1, .ref (adC 0)), (2, .ref (adL 0)), (3, .ref (adL 1)), (4, .ref (adL 2)), (5, .int v5), (6, .int v6), (10, .int v10), (12, .int v12), (13, .int v13), (14, .int v14), (15, .int v15), (16, .int v16), (17, .ref (adL 3))]) hx hb dL_law_609 hl (k := 15) rfl rfl (by decide) rfl (fun ls hl => ?_)
    refine lv_goto (tgt := 574) hx hb dL_law_612 (by decide) ?_
    have e19 := inc_toInt (a := v19) (by omega) (by omega)
    have k19 := ix_toInt (x := v19 + 1) (by omega)
    have ei : ix (v19 + 1) = ix v19 + 1 := by omega
    have es : sm (fun k => 8 * jabs (τ 3 k - σ (25 + ix v13) k)) (ix v19) + 8 * jabs (τ 3 (ix v19) - σ (25 + ix v13) (ix v19)) = sm (fun k => 8 * jabs (τ 3 k - σ (25 + ix v13) k)) (ix v19 + 1) := rfl
    rw [es, ← ei] at hl
    exact (ih (v19 + 1) (by omega) (by omega) (by omega)) h100 hdis H locs wC wL ls (lv_sub hl [2, 3, 4, 5, 6, 7, 8, 9, 10, 11, 12, 13, 14, 15, 1, 0] rfl)
set_option maxHeartbeats 8000000 in
set_option maxRecDepth 100000 in
theorem l_467 {p : Program} {l : Launch} {e : Env} {s : State} {m : MethodId} {below : List Frame} {meth : Method} {c : Code} {D : va_G} {b L : Nat} {xs : Nat → Int32} {adC : Nat → Nat} (hC : LC p s m meth c D b L xs adC) {NC NS : Nat} (hNC : NC ≤ 1000) (hNS : NS ≤ 10000) {σ0 : St} {v5 v6 v10 v12 v13 v14 : Int32} (h12 : 0 ≤ v12.toInt ∧ v12.toInt < v5.toInt) (h13 : 0 ≤ v13.toInt ∧ v13.toInt < v5.toInt) (h14 : 0 ≤ v14.toInt ∧ v14.toInt < 8) (hst : Stq σ0 (ix v14))
    (hex : ∀ (adL' : Nat → Nat) (σ' τ' : St) (v15 : Int32) (nc ns : Nat), nc ≤ NC → ns ≤ NS → Bs σ' τ' v5 v6 → v10 = σ' 0 7 → (∃ f, σ' = u2 σ0 0 9 f) → LB (tk σ0 (ix v12) (ix v13) (ix v14)) (2 ^ ix v14) 0 v15 → LG p l e s m below meth c D b adC adL' 3 σ' τ' nc ns 655 [(0, .ref b), (1, .ref (adC 0)), (2, .ref (adL' 0)), (3, .ref (adL' 1)), (4, .ref (adL' 2)), (5, .int v5), (6, .int v6), (10, .int v10), (12, .int v12), (13, .int v13), (14, .int v14), (15, .int v15)] []) : ∀ (k : Nat) (adL : Nat → Nat) (v15 v16 : Int32) (σ τ : St) (nc ns : Nat), Bs σ τ v5 v6 → v10 = σ 0 7 → (∃ f, σ = u2 σ0 0 9 f) → -1 ≤ v16.toInt → (v16.toInt + 1).toNat ≤ 2 ^ ix v14 → LB (tk σ0 (ix v12) (ix v13) (ix v14)) (2 ^ ix v14) (v16.toInt + 1).toNat v15 → nc + (v16.toInt + 1).toNat ≤ NC → ns + 9 * (v16.toInt + 1).toNat ≤ NS → (v16.toInt + 1).toNat < k → LG p l e s m below meth c D b adC adL 3 σ τ nc ns 467 [(0, .ref b), (1, .ref (adC 0)), (2, .ref (adL 0)), (3, .ref (adL 1)), (4, .ref (adL 2)), (5, .int v5), (6, .int v6), (10, .int v10), (12, .int v12), (13, .int v13), (14, .int v14), (15, .int v15), (16, .int v16)] [] := by
  intro k
  induction k with
  | zero => intro adL v15 v16 σ τ nc ns b1 b2 b3 b4 b5 b6 b7 b8 a3; exact absurd a3 (Nat.not_lt_zero _)
  | succ k ih =>
  intro adL v15 v16 σ τ nc ns hB h10 hf a1 a2 hLB a4 a5 a6
  have hnc : nc ≤ 1000 := by omega
  have hns : ns ≤ 10000 := by omega
  have hn0 := hB.n
  have q7 : ix v14 ≤ 7 := by have := ix_toInt (x := v14) (by omega); omega
  have p7 : 2 ^ ix v14 ≤ 128 := Nat.pow_le_pow_right (by decide) q7
  intro h100 hdis H locs wC wL ls hl
  obtain ⟨hL, C0, hKC⟩ := id hC
  obtain ⟨hx, hb, hr, hml, hown, hts, hX, hbl, hlocks, hgv⟩ := C0
  have hN : NW s := NW_of hts
  have S : CallFix p m c cL_law 30 s #[Value.ref b] wsL_law RL := ⟨hx, hb, hml, hown, fun w h => hts w (wsL_law_in w h)⟩
  have hbA : ¬ (fun q : Nat => s.heap.size ≤ q) b := Nat.not_le.mpr hbl
  have hKL := KL_of hKC h100
  have z0 : (0 : Int32).toInt = 0 := by decide
  have z1 : (1 : Int32).toInt = 1 := by decide
  refine lv_iload hx hb dL_law_467 (lv_at hl 12 rfl) ?_
  refine lv_if_lt (tgt := 655) hx hb dL_law_469 (by decide) (fun c469 => ?_) (fun c469 => ?_)
  · have t469 : v16.toInt < 0 := qt_lt c469
    have e0 := dn1 (v := v16) (by omega) (by omega)
    rw [e0] at hLB a4 a5
    exact hex adL σ τ v15 nc ns (by omega) (by omega) hB h10 hf hLB h100 hdis H locs wC wL ls (lv_sub hl [0, 1, 2, 3, 4, 5, 6, 7, 8, 9, 10, 11] rfl)
  · have t469 : 0 ≤ v16.toInt := qt_nlt c469
    refine lv_bipush (v := 9) hx hb dL_law_472 (by decide) ?_
    have S2 : CallFix p m c cL_law 30 s #[Value.ref b] lw_tbl RL := ⟨hx, hb, hml, hown, hts⟩
    refine newa2 S2 hKL wC wL hdis (by decide) (t := 0) rfl (tb_t1 (List.mem_of_getElem? (i := 43) rfl)) (N := 9) (by decide) rfl rfl (by decide) (rm_newc (by omega)) (rm_news (k := 9) (by omega)) dL_law_474 (fun adL1 H hA wC wL hdis => ?_)
    rw [← hA 0 (by decide), ← hA 1 (by decide), ← hA 2 (by decide)] at hl
    refine lv_astore (lv' := [(17, .ref (adL1 3)), (0, .ref b), (1, .ref (adC 0)), (2, .ref (adL1 0)), (3, .ref (adL1 1)), (4, .ref (adL1 2)), (5, .int v5), (6, .int v6), (10, .int v10), (12, .int v12), (13, .int v13), (14, .int v14), (15, .int v15), (16, .int v16)]) hx hb dL_law_476 hl (by decide) rfl (fun ls hl => ?_)
    have h101 : adL1 100 = adC 100 := (hA 100 (by decide)).trans h100
    have hnc1 : nc + 1 ≤ 1000 := by omega
    have hns1 : ns + 9 ≤ 10000 := by omega
    have d16 := dn (v := v16) (by omega)
    have ev := d16.2.2.2.1
    have j16 := d16.2.2.2.2.1
    have t0 := d16.2.2.1
    rw [t0] at hLB a2 a4 a5 a6
    have hf0 := hf
    have h100b := h100
    clear h100
    have h100 := h101
    clear h101
    have h615 : ∀ (σ1 τ1 : St) (v18 : Int32), v18 = 8 * tkS σ0 (ix v12) (ix v13) (ix v14) v16 → Bs σ1 τ1 v5 v6 → v10 = σ1 0 7 → (∃ f, σ1 = u2 σ0 0 9 f) → LG p l e s m below meth c D b adC adL1 4 σ1 τ1 (nc + 1) (ns + 9) 615 [(0, .ref b), (1, .ref (adC 0)), (2, .ref (adL1 0)), (3, .ref (adL1 1)), (4, .ref (adL1 2)), (5, .int v5), (6, .int v6), (10, .int v10), (12, .int v12), (13, .int v13), (14, .int v14), (15, .int v15), (16, .int v16), (17, .ref (adL1 3)), (18, .int v18)] [] := by
        intro σ1 τ1 v18 hv18 hB1 h101 hf1
        have hR := hB1.1
        have f7 : v10 = σ0 0 7 := by
          obtain ⟨f1, e⟩ := hf1
          rw [h101, e, u2_nk (by omega)]
        have e16 := d16.1
        have t1 := d16.2.1
        intro h100 hdis H locs wC wL ls hl
        obtain ⟨hL, C0, hKC⟩ := id hC
        obtain ⟨hx, hb, hr, hml, hown, hts, hX, hbl, hlocks, hgv⟩ := C0
        have hN : NW s := NW_of hts
        have S : CallFix p m c cL_law 30 s #[Value.ref b] wsL_law RL := ⟨hx, hb, hml, hown, fun w h => hts w (wsL_law_in w h)⟩
        have hbA : ¬ (fun q : Nat => s.heap.size ≤ q) b := Nat.not_le.mpr hbl
        have hKL := KL_of hKC h100
        have z0 : (0 : Int32).toInt = 0 := by decide
        have z1 : (1 : Int32).toInt = 1 := by decide
        refine lv_iload hx hb dL_law_615 (lv_at hl 14 rfl) ?_
        refine lv_iload hx hb dL_law_617 (lv_at hl 7 rfl) ?_
        refine lv_icmp_gt (tgt := 645) hx hb dL_law_619 (by decide) (fun c619 => ?_) (fun c619 => ?_)
        · have t619 : v10.toInt < v18.toInt := qt_lt c619
          have hL1 : LB (tk σ0 (ix v12) (ix v13) (ix v14)) (2 ^ ix v14) (ix v16) v15 := LB_skip p7 a2 hLB (Or.inl (fun q => q (by rw [ev, ← f7, ← hv18]; exact c619)))
          refine lv_iload hx hb dL_law_645 (lv_at hl 11 rfl) ?_
          refine lv_istore (lv' := [(15, .int v15), (0, .ref b), (1, .ref (adC 0)), (2, .ref (adL1 0)), (3, .ref (adL1 1)), (4, .ref (adL1 2)), (5, .int v5), (6, .int v6), (10, .int v10), (12, .int v12), (13, .int v13), (14, .int v14), (16, .int v16), (17, .ref (adL1 3)), (18, .int v18)]) hx hb dL_law_647 hl (by decide) rfl (fun ls hl => ?_)
          refine lv_iinc (v := (v16 + (-1))) (lv' := [(16, .int (v16 + (-1))), (15, .int v15), (0, .ref b), (1, .ref (adC 0)), (2, .ref (adL1 0)), (3, .ref (adL1 1)), (4, .ref (adL1 2)), (5, .int v5), (6, .int v6), (10, .int v10), (12, .int v12), (13, .int v13), (14, .int v14), (17, .ref (adL1 3)), (18, .int v18)]) hx hb dL_law_649 hl (k := 12) rfl rfl (by decide) rfl (fun ls hl => ?_)
          refine lv_goto (tgt := 467) hx hb dL_law_652 (by decide) ?_
          exact ih adL1 v15 (v16 + (-1)) σ1 τ1 (nc + 1) (ns + 9) hB1 h101 hf1 d16.2.2.2.2.2.1 (by rw [t1]; exact Nat.le_of_succ_le a2) (by rw [t1]; exact hL1) (by rw [t1]; exact ar2 a4) (by rw [t1]; exact ar1 a5) (by rw [t1]; exact ar3 a6) h100 (fun i hi j hj => hdis i hi j (Nat.lt_succ_of_lt hj)) H locs wC (wL.take (by decide)) ls (lv_sub hl [2, 3, 4, 5, 6, 7, 8, 9, 10, 11, 12, 1, 0] rfl)
        · have t619 : v18.toInt ≤ v10.toInt := qt_nlt c619
          have hp : (tk σ0 (ix v12) (ix v13) (ix v14)) (ix v16) := fun q => c619 (by rw [ev, ← f7, ← hv18] at q; exact q)
          refine lv_iload hx hb dL_law_622 (lv_at hl 11 rfl) ?_
          refine lv_if_lt (tgt := 640) hx hb dL_law_624 (by decide) (fun c624 => ?_) (fun c624 => ?_)
          · have t624 : v15.toInt < 0 := qt_lt c624
            have hL1 : LB (tk σ0 (ix v12) (ix v13) (ix v14)) (2 ^ ix v14) (ix v16) v16 := by have q := LB_take p7 a2 hLB hp (Or.inl t624); rw [ev] at q; exact q
            refine lv_iload hx hb dL_law_640 (lv_at hl 12 rfl) ?_
            refine lv_goto (tgt := 647) hx hb dL_law_642 (by decide) ?_
            refine lv_istore (lv' := [(15, .int v16), (0, .ref b), (1, .ref (adC 0)), (2, .ref (adL1 0)), (3, .ref (adL1 1)), (4, .ref (adL1 2)), (5, .int v5), (6, .int v6), (10, .int v10), (12, .int v12), (13, .int v13), (14, .int v14), (16, .int v16), (17, .ref (adL1 3)), (18, .int v18)]) hx hb dL_law_647 hl (by decide) rfl (fun ls hl => ?_)
            refine lv_iinc (v := (v16 + (-1))) (lv' := [(16, .int (v16 + (-1))), (15, .int v16), (0, .ref b), (1, .ref (adC 0)), (2, .ref (adL1 0)), (3, .ref (adL1 1)), (4, .ref (adL1 2)), (5, .int v5), (6, .int v6), (10, .int v10), (12, .int v12), (13, .int v13), (14, .int v14), (17, .ref (adL1 3)), (18, .int v18)]) hx hb dL_law_649 hl (k := 12) rfl rfl (by decide) rfl (fun ls hl => ?_)
            refine lv_goto (tgt := 467) hx hb dL_law_652 (by decide) ?_
            exact ih adL1 v16 (v16 + (-1)) σ1 τ1 (nc + 1) (ns + 9) hB1 h101 hf1 d16.2.2.2.2.2.1 (by rw [t1]; exact Nat.le_of_succ_le a2) (by rw [t1]; exact hL1) (by rw [t1]; exact ar2 a4) (by rw [t1]; exact ar1 a5) (by rw [t1]; exact ar3 a6) h100 (fun i hi j hj => hdis i hi j (Nat.lt_succ_of_lt hj)) H locs wC (wL.take (by decide)) ls (lv_sub hl [2, 3, 4, 5, 6, 7, 8, 9, 10, 11, 12, 1, 0] rfl)
          · have t624 : 0 ≤ v15.toInt := qt_nlt c624
            have hge := LB_ge p7 hLB
            refine lv_iload hx hb dL_law_627 (lv_at hl 12 rfl) ?_
            refine call0i (va_runS (As := [.int v16]) (rest := []) S (c_L_bits l v16 (ar4 t469 a2 p7)) (va_cwS 1 S.2.2.2.2 gL_law_L_bits rfl rfl rfl hd_L_bits ⟨Nat.le_of_ble_eq_true rfl, Nat.le_of_ble_eq_true rfl⟩) pre0S rfl rfl hl.1 rfl (lv_room (Nat.le_of_ble_eq_true rfl)) dL_law_629 (rm_ok hnc1 hns1)) ?_
            generalize qb1 : (f_L_bits v16) = wb1
            refine lv_iload hx hb dL_law_632 (lv_at hl 11 rfl) ?_
            refine call0i (va_runS (As := [.int v15]) (rest := [.int wb1]) S (c_L_bits l v15 (ar5 hge t624)) (va_cwS 1 S.2.2.2.2 gL_law_L_bits rfl rfl rfl hd_L_bits ⟨Nat.le_of_ble_eq_true rfl, Nat.le_of_ble_eq_true rfl⟩) pre0S rfl rfl hl.1 rfl (lv_room (Nat.le_of_ble_eq_true rfl)) dL_law_634 (rm_ok hnc1 hns1)) ?_
            generalize qb2 : (f_L_bits v15) = wb2
            refine lv_icmp_gt (tgt := 645) hx hb dL_law_637 (by decide) (fun c637 => ?_) (fun c637 => ?_)
            · have t637 : wb2.toInt < wb1.toInt := qt_lt c637
              have hL1 : LB (tk σ0 (ix v12) (ix v13) (ix v14)) (2 ^ ix v14) (ix v16) v15 := LB_skip p7 a2 hLB (Or.inr ⟨t624, by rw [ev, qb1, qb2]; exact t637⟩)
              refine lv_iload hx hb dL_law_645 (lv_at hl 11 rfl) ?_
              refine lv_istore (lv' := [(15, .int v15), (0, .ref b), (1, .ref (adC 0)), (2, .ref (adL1 0)), (3, .ref (adL1 1)), (4, .ref (adL1 2)), (5, .int v5), (6, .int v6), (10, .int v10), (12, .int v12), (13, .int v13), (14, .int v14), (16, .int v16), (17, .ref (adL1 3)), (18, .int v18)]) hx hb dL_law_647 hl (by decide) rfl (fun ls hl => ?_)
              refine lv_iinc (v := (v16 + (-1))) (lv' := [(16, .int (v16 + (-1))), (15, .int v15), (0, .ref b), (1, .ref (adC 0)), (2, .ref (adL1 0)), (3, .ref (adL1 1)), (4, .ref (adL1 2)), (5, .int v5), (6, .int v6), (10, .int v10), (12, .int v12), (13, .int v13), (14, .int v14), (17, .ref (adL1 3)), (18, .int v18)]) hx hb dL_law_649 hl (k := 12) rfl rfl (by decide) rfl (fun ls hl => ?_)
              refine lv_goto (tgt := 467) hx hb dL_law_652 (by decide) ?_
              exact ih adL1 v15 (v16 + (-1)) σ1 τ1 (nc + 1) (ns + 9) hB1 h101 hf1 d16.2.2.2.2.2.1 (by rw [t1]; exact Nat.le_of_succ_le a2) (by rw [t1]; exact hL1) (by rw [t1]; exact ar2 a4) (by rw [t1]; exact ar1 a5) (by rw [t1]; exact ar3 a6) h100 (fun i hi j hj => hdis i hi j (Nat.lt_succ_of_lt hj)) H locs wC (wL.take (by decide)) ls (lv_sub hl [2, 3, 4, 5, 6, 7, 8, 9, 10, 11, 12, 1, 0] rfl)
            · have t637 : wb1.toInt ≤ wb2.toInt := qt_nlt c637
              have hL1 : LB (tk σ0 (ix v12) (ix v13) (ix v14)) (2 ^ ix v14) (ix v16) v16 := by have q := LB_take p7 a2 hLB hp (Or.inr (by rw [ev, qb1, qb2]; exact t637)); rw [ev] at q; exact q
              refine lv_iload hx hb dL_law_640 (lv_at hl 12 rfl) ?_
              refine lv_goto (tgt := 647) hx hb dL_law_642 (by decide) ?_
              refine lv_istore (lv' := [(15, .int v16), (0, .ref b), (1, .ref (adC 0)), (2, .ref (adL1 0)), (3, .ref (adL1 1)), (4, .ref (adL1 2)), (5, .int v5), (6, .int v6), (10, .int v10), (12, .int v12), (13, .int v13), (14, .int v14), (16, .int v16), (17, .ref (adL1 3)), (18, .int v18)]) hx hb dL_law_647 hl (by decide) rfl (fun ls hl => ?_)
              refine lv_iinc (v := (v16 + (-1))) (lv' := [(16, .int (v16 + (-1))), (15, .int v16), (0, .ref b), (1, .ref (adC 0)), (2, .ref (adL1 0)), (3, .ref (adL1 1)), (4, .ref (adL1 2)), (5, .int v5), (6, .int v6), (10, .int v10), (12, .int v12), (13, .int v13), (14, .int v14), (17, .ref (adL1 3)), (18, .int v18)]) hx hb dL_law_649 hl (k := 12) rfl rfl (by decide) rfl (fun ls hl => ?_)
              refine lv_goto (tgt := 467) hx hb dL_law_652 (by decide) ?_
              exact ih adL1 v16 (v16 + (-1)) σ1 τ1 (nc + 1) (ns + 9) hB1 h101 hf1 d16.2.2.2.2.2.1 (by rw [t1]; exact Nat.le_of_succ_le a2) (by rw [t1]; exact hL1) (by rw [t1]; exact ar2 a4) (by rw [t1]; exact ar1 a5) (by rw [t1]; exact ar3 a6) h100 (fun i hi j hj => hdis i hi j (Nat.lt_succ_of_lt hj)) H locs wC (wL.take (by decide)) ls (lv_sub hl [2, 3, 4, 5, 6, 7, 8, 9, 10, 11, 12, 1, 0] rfl)
    have h568 : ∀ σ1 τ1 : St, Bs σ1 τ1 v5 v6 → v10 = σ1 0 7 → (∃ f, σ1 = u2 σ0 0 9 f) → (∀ i, i < 9 → τ1 3 i = thenF (σ0 (25 + ix v12)) (σ0 14) v16 (ix v14) i) → LG p l e s m below meth c D b adC adL1 4 σ1 τ1 (nc + 1) (ns + 9) 568 [(0, .ref b), (1, .ref (adC 0)), (2, .ref (adL1 0)), (3, .ref (adL1 1)), (4, .ref (adL1 2)), (5, .int v5), (6, .int v6), (10, .int v10), (12, .int v12), (13, .int v13), (14, .int v14), (15, .int v15), (16, .int v16), (17, .ref (adL1 3))] [] := by
        intro σ1 τ1 hB1 h101 hf1 h3
        have hR := hB1.1
        have hn1 := hB1.n
        have hbs : ∀ i, i < 9 → 0 ≤ (σ0 (25 + ix v12) i).toInt ∧ (σ0 (25 + ix v12) i).toInt ≤ 9 := fun i hi => by
          obtain ⟨f1, e⟩ := hf1
          have q := st9I hR (x := v12) (by omega) (by omega) hi
          rw [e, u2_nc (by omega)] at q
          exact q.2
        have hbd : ∀ i, i < 9 → 0 ≤ (τ1 3 i).toInt ∧ (τ1 3 i).toInt ≤ 1000 := fun i hi => by
          have q := thenF_bd (S := v16) hbs (ix v14) (by have := ix_toInt (x := v14) (by omega); omega) hst i hi
          have q14 := ix_toInt (x := v14) (by omega)
          rw [h3 i hi]
          omega
        have esum : 8 * sm (fun k => jabs (τ1 3 k - σ1 (25 + ix v13) k)) 9 = 8 * tkS σ0 (ix v12) (ix v13) (ix v14) v16 := by
          obtain ⟨f1, e⟩ := hf1
          refine congrArg (8 * ·) (sm_congr 9 (fun k hk => ?_))
          show jabs (τ1 3 k - σ1 (25 + ix v13) k) = _
          rw [h3 k hk, e, u2_nc (by omega)]
        intro h100 hdis H locs wC wL ls hl
        obtain ⟨hL, C0, hKC⟩ := id hC
        obtain ⟨hx, hb, hr, hml, hown, hts, hX, hbl, hlocks, hgv⟩ := C0
        have hN : NW s := NW_of hts
        have S : CallFix p m c cL_law 30 s #[Value.ref b] wsL_law RL := ⟨hx, hb, hml, hown, fun w h => hts w (wsL_law_in w h)⟩
        have hbA : ¬ (fun q : Nat => s.heap.size ≤ q) b := Nat.not_le.mpr hbl
        have hKL := KL_of hKC h100
        have z0 : (0 : Int32).toInt = 0 := by decide
        have z1 : (1 : Int32).toInt = 1 := by decide
        refine lv_iconst (v := 0) hx hb dL_law_568 (by decide) ?_
        refine lv_istore (lv' := [(18, .int 0), (0, .ref b), (1, .ref (adC 0)), (2, .ref (adL1 0)), (3, .ref (adL1 1)), (4, .ref (adL1 2)), (5, .int v5), (6, .int v6), (10, .int v10), (12, .int v12), (13, .int v13), (14, .int v14), (15, .int v15), (16, .int v16), (17, .ref (adL1 3))]) hx hb dL_law_569 hl (by decide) rfl (fun ls hl => ?_)
        refine lv_iconst (v := 0) hx hb dL_law_571 (by decide) ?_
        refine lv_istore (lv' := [(19, .int 0), (18, .int 0), (0, .ref b), (1, .ref (adC 0)), (2, .ref (adL1 0)), (3, .ref (adL1 1)), (4, .ref (adL1 2)), (5, .int v5), (6, .int v6), (10, .int v10), (12, .int v12), (13, .int v13), (14, .int v14), (15, .int v15), (16, .int v16), (17, .ref (adL1 3))]) hx hb dL_law_572 hl (by decide) rfl (fun ls hl => ?_)
        have e0 : sm (fun k => 8 * jabs (τ1 3 k - σ1 (25 + ix v13) k)) (ix 0) = 0 := rfl
        refine l_574 hC hnc1 hns1 hB1 h13 hbd (h615 σ1 τ1 _ esum hB1 h101 hf1) 100 0 (by omega) (by omega) (by omega) h100 hdis H locs wC wL ls ?_
        rw [e0]
        exact lv_sub hl [2, 3, 4, 5, 6, 7, 8, 9, 10, 11, 12, 13, 14, 15, 1, 0] rfl
    have h511 : ∀ τ1 : St, Bs σ τ1 v5 v6 → (∀ i, i < 9 → τ1 3 i = σ (25 + ix v12) i) → LG p l e s m below meth c D b adC adL1 4 σ τ1 (nc + 1) (ns + 9) 511 [(0, .ref b), (1, .ref (adC 0)), (2, .ref (adL1 0)), (3, .ref (adL1 1)), (4, .ref (adL1 2)), (5, .int v5), (6, .int v6), (10, .int v10), (12, .int v12), (13, .int v13), (14, .int v14), (15, .int v15), (16, .int v16), (17, .ref (adL1 3))] [] := by
        intro τ1 hB1 h3
        have h31 : ∀ i, i < 9 → τ1 3 i = thenF (σ0 (25 + ix v12)) (σ0 14) v16 (ix 0) i := fun i hi => by
          obtain ⟨f1, e⟩ := hf0
          rw [h3 i hi, e, u2_nc (by omega)]
          rfl
        intro h100 hdis H locs wC wL ls hl
        obtain ⟨hL, C0, hKC⟩ := id hC
        obtain ⟨hx, hb, hr, hml, hown, hts, hX, hbl, hlocks, hgv⟩ := C0
        have hN : NW s := NW_of hts
        have S : CallFix p m c cL_law 30 s #[Value.ref b] wsL_law RL := ⟨hx, hb, hml, hown, fun w h => hts w (wsL_law_in w h)⟩
        have hbA : ¬ (fun q : Nat => s.heap.size ≤ q) b := Nat.not_le.mpr hbl
        have hKL := KL_of hKC h100
        have z0 : (0 : Int32).toInt = 0 := by decide
        have z1 : (1 : Int32).toInt = 1 := by decide
        refine lv_iconst (v := 0) hx hb dL_law_511 (by decide) ?_
        refine lv_istore (lv' := [(18, .int 0), (0, .ref b), (1, .ref (adC 0)), (2, .ref (adL1 0)), (3, .ref (adL1 1)), (4, .ref (adL1 2)), (5, .int v5), (6, .int v6), (10, .int v10), (12, .int v12), (13, .int v13), (14, .int v14), (15, .int v15), (16, .int v16), (17, .ref (adL1 3))]) hx hb dL_law_512 hl (by decide) rfl (fun ls hl => ?_)
        exact (l_514 hC hnc1 hns1 h14 hst h568 100 0 σ τ1 hB1 h10 hf0 h31 (by omega) (by omega) (by omega)) h100 hdis H locs wC wL ls (lv_sub hl [1, 2, 3, 4, 5, 6, 7, 8, 9, 10, 11, 12, 13, 14, 0] rfl)
    refine lv_iconst (v := 0) hx hb dL_law_478 (by decide) ?_
    refine lv_istore (lv' := [(18, .int 0), (17, .ref (adL1 3)), (0, .ref b), (1, .ref (adC 0)), (2, .ref (adL1 0)), (3, .ref (adL1 1)), (4, .ref (adL1 2)), (5, .int v5), (6, .int v6), (10, .int v10), (12, .int v12), (13, .int v13), (14, .int v14), (15, .int v15), (16, .int v16)]) hx hb dL_law_479 hl (by decide) rfl (fun ls hl => ?_)
    have hB0 : Bs σ (u1 τ 3 (fun _ => 0)) v5 v6 := hB.tau (u1_ne _ (by omega)) (u1_ne _ (by omega)) (u1_ne _ (by omega))
    exact (l_481 hC hnc1 hns1 h12 h511 100 0 (u1 τ 3 (fun _ => 0)) hB0 (fun i hi => absurd hi (Nat.not_lt_zero _)) (by omega) (by omega) (by omega)) h100 hdis H locs wC wL ls (lv_sub hl [2, 3, 4, 5, 6, 7, 8, 9, 10, 11, 12, 13, 14, 1, 0] rfl)
set_option maxHeartbeats 8000000 in
set_option maxRecDepth 100000 in
theorem s_sets {p : Program} {l : Launch} {e : Env} {s : State} {m : MethodId} {below : List Frame} {meth : Method} {c : Code} {D : va_G} {b L : Nat} {xs : Nat → Int32} {adC : Nat → Nat} (hC : LC p s m meth c D b L xs adC) {adL : Nat → Nat} {σ τ : St} {nc ns : Nat} (hnc : nc ≤ 800) (hns : ns ≤ 8000) {v5 v6 v10 v12 v13 v14 : Int32} (hB : Bs σ τ v5 v6) (h10 : v10 = σ 0 7) (h12 : 0 ≤ v12.toInt ∧ v12.toInt < v5.toInt) (h13 : 0 ≤ v13.toInt ∧ v13.toInt < v5.toInt) (h14 : 0 ≤ v14.toInt ∧ v14.toInt < 8) (hst : Stq σ (ix v14))
    (hex : ∀ (adL' : Nat → Nat) (σ' τ' : St) (v15 : Int32) (nc' ns' : Nat), nc' ≤ nc + 128 → ns' ≤ ns + 1152 → Bs σ' τ' v5 v6 → v10 = σ' 0 7 → (∃ f, σ' = u2 σ 0 9 f) → LB (tk σ (ix v12) (ix v13) (ix v14)) (2 ^ ix v14) 0 v15 → LG p l e s m below meth c D b adC adL' 3 σ' τ' nc' ns' 655 [(0, .ref b), (1, .ref (adC 0)), (2, .ref (adL' 0)), (3, .ref (adL' 1)), (4, .ref (adL' 2)), (5, .int v5), (6, .int v6), (10, .int v10), (12, .int v12), (13, .int v13), (14, .int v14), (15, .int v15)] []) : LG p l e s m below meth c D b adC adL 3 σ τ nc ns 455 [(0, .ref b), (1, .ref (adC 0)), (2, .ref (adL 0)), (3, .ref (adL 1)), (4, .ref (adL 2)), (5, .int v5), (6, .int v6), (10, .int v10), (12, .int v12), (13, .int v13), (14, .int v14)] [] := by
  have q7 : ix v14 ≤ 7 := by have := ix_toInt (x := v14) (by omega); omega
  have p7 : 2 ^ ix v14 ≤ 128 := Nat.pow_le_pow_right (by decide) q7
  intro h100 hdis H locs wC wL ls hl
  obtain ⟨hL, C0, hKC⟩ := id hC
  obtain ⟨hx, hb, hr, hml, hown, hts, hX, hbl, hlocks, hgv⟩ := C0
  have hN : NW s := NW_of hts
  have S : CallFix p m c cL_law 30 s #[Value.ref b] wsL_law RL := ⟨hx, hb, hml, hown, fun w h => hts w (wsL_law_in w h)⟩
  have hbA : ¬ (fun q : Nat => s.heap.size ≤ q) b := Nat.not_le.mpr hbl
  have hKL := KL_of hKC h100
  have z0 : (0 : Int32).toInt = 0 := by decide
  have z1 : (1 : Int32).toInt = 1 := by decide
  refine lv_bipush (v := (-9)) hx hb dL_law_455 (by decide) ?_
  refine lv_istore (lv' := [(15, .int (-9)), (0, .ref b), (1, .ref (adC 0)), (2, .ref (adL 0)), (3, .ref (adL 1)), (4, .ref (adL 2)), (5, .int v5), (6, .int v6), (10, .int v10), (12, .int v12), (13, .int v13), (14, .int v14)]) hx hb dL_law_457 hl (by decide) rfl (fun ls hl => ?_)
  refine lv_iconst (v := 1) hx hb dL_law_459 (by decide) ?_
  refine lv_iload hx hb dL_law_460 (lv_at hl 11 rfl) ?_
  refine lv_ishl hx hb dL_law_462 ?_
  refine lv_iconst (v := 1) hx hb dL_law_463 (by decide) ?_
  refine lv_isub hx hb dL_law_464 ?_
  refine lv_istore (lv' := [(16, .int (((1 : Int32) <<< (v14 &&& 31)) - 1)), (15, .int (-9)), (0, .ref b), (1, .ref (adC 0)), (2, .ref (adL 0)), (3, .ref (adL 1)), (4, .ref (adL 2)), (5, .int v5), (6, .int v6), (10, .int v10), (12, .int v12), (13, .int v13), (14, .int v14)]) hx hb dL_law_465 hl (by decide) rfl (fun ls hl => ?_)
  have q16 : (((1 : Int32) <<< (v14 &&& 31)) - 1).toInt + 1 = ((2 ^ ix v14 : Nat) : Int) := sh_m1 (by omega) (by omega)
  generalize (((1 : Int32) <<< (v14 &&& 31)) - 1) = v16 at hl q16
  have t16 : (v16.toInt + 1).toNat = 2 ^ ix v14 := by rw [q16]; exact Int.toNat_natCast _
  have pp : 0 < 2 ^ ix v14 := Nat.pow_pos (by decide)
  exact (l_467 hC (NC := nc + 128) (NS := ns + 1152) (by omega) (by omega) h12 h13 h14 hst hex 300 adL (-9) v16 σ τ nc ns hB h10 ⟨σ 0 9, (u2_id σ).symm⟩ (by omega) (by omega) (Or.inl ⟨rfl, fun u hu hM => by omega⟩) (by omega) (by omega) (by omega)) h100 hdis H locs wC wL ls (lv_sub hl [2, 3, 4, 5, 6, 7, 8, 9, 10, 11, 12, 1, 0] rfl)
