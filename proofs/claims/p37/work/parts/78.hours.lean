/-! the law's walk: hours -/
set_option maxHeartbeats 8000000 in
set_option maxRecDepth 100000 in
theorem l_1505 {p : Program} {l : Launch} {e : Env} {s : State} {m : MethodId} {below : List Frame} {meth : Method} {c : Code} {D : va_G} {b L : Nat} {xs : Nat → Int32} {adC : Nat → Nat} (hC : LC p s m meth c D b L xs adC) {adL : Nat → Nat} {σ : St} {nc ns : Nat} (hnc : nc ≤ 1000) (hns : ns ≤ 10000) {τ : St} {v5 v6 v10 v20 v22 v24 v25 : Int32} (hB : Br σ τ v5 v6) (hD : Dr σ (τ 3)) (h24 : 0 ≤ v24.toInt ∧ v24.toInt < v5.toInt) (h20 : 0 ≤ v20.toInt ∧ v20.toInt < 4) (h25 : 0 ≤ v25.toInt ∧ v25.toInt < 10)
    (hex : LG p l e s m below meth c D b adC adL 5 σ τ nc ns 1568 [(0, .ref b), (1, .ref (adC 0)), (2, .ref (adL 0)), (3, .ref (adL 1)), (4, .ref (adL 2)), (5, .int v5), (6, .int v6), (10, .int v10), (20, .int v20), (21, .ref (adL 3)), (22, .int v22), (23, .ref (adL 4)), (24, .int v24), (25, .int v25), (26, .int (hSum σ (ix v24) v20 v25))] []) : ∀ (k : Nat) (v27 : Int32), 0 ≤ v27.toInt → v27.toInt ≤ 9 → 9 < v27.toInt + k → LG p l e s m below meth c D b adC adL 5 σ τ nc ns 1505 [(0, .ref b), (1, .ref (adC 0)), (2, .ref (adL 0)), (3, .ref (adL 1)), (4, .ref (adL 2)), (5, .int v5), (6, .int v6), (10, .int v10), (20, .int v20), (21, .ref (adL 3)), (22, .int v22), (23, .ref (adL 4)), (24, .int v24), (25, .int v25), (26, .int (sm (fun k => jabs (f_X3_fade σ (ix v24) (nI k) (8 * σ (25 + ix v24) k) (v25 + v25 * v20) - σ 14 (10 + k))) (ix v27))), (27, .int v27)] [] := by
  intro k
  induction k with
  | zero => intro v27 a1 a2 a3; exact absurd a3 (by omega)
  | succ k ih =>
  intro v27 a1 a2 a3
  intro h100 hdis H locs wC wL ls hl
  obtain ⟨hL, C0, hKC⟩ := id hC
  obtain ⟨hx, hb, hr, hml, hown, hts, hX, hbl, hlocks, hgv⟩ := C0
  have hN : NW s := NW_of hts
  have S : CallFix p m c cL_law 30 s #[Value.ref b] wsL_law RL := ⟨hx, hb, hml, hown, fun w h => hts w (wsL_law_in w h)⟩
  have hbA : ¬ (fun q : Nat => s.heap.size ≤ q) b := Nat.not_le.mpr hbl
  have hKL := KL_of hKC h100
  have z0 : (0 : Int32).toInt = 0 := by decide
  have z1 : (1 : Int32).toInt = 1 := by decide
  have hR := hB.1
  have hn := hB.n
  have j27 := ix_toInt (x := v27) (by omega)
  refine lv_iload hx hb dL_law_1505 (lv_at hl 15 rfl) ?_
  refine lv_bipush (v := 9) hx hb dL_law_1507 (by decide) ?_
  refine lv_icmp_ge (tgt := 1568) hx hb dL_law_1509 (by decide) (fun c1509 => ?_) (fun c1509 => ?_)
  · have t1509 : 9 ≤ v27.toInt := qt_le c1509
    have e27 : ix v27 = 9 := by omega
    rw [e27] at hl
    exact hex h100 hdis H locs wC wL ls (lv_sub hl [0, 1, 2, 3, 4, 5, 6, 7, 8, 9, 10, 11, 12, 13, 14] rfl)
  · have t1509 : v27.toInt < 9 := qt_nle c1509
    have e1536 := a_toInt (a := 1) (b := v27) (by omega) (by omega)
    have ey := yr_bd (a := v25) (w := v20) (by omega) (by omega) (by omega) (by omega)
    have ye : v25 * (1 + v20) = v25 + v25 * v20 := yr_eq
    have hk := hR.kd (x := v24) (by omega) (by omega)
    have hs := hR.st (x := v24) (k := v27) (by omega) (by omega) (by omega) (by omega)
    have ht := hR.th (k := v27) (by omega) (by omega)
    have hh := hR.hf (k := v27) (by omega) (by omega)
    have hv8 : 0 ≤ (8 * f_L_get τ v24 (1 + v27)).toInt ∧ (8 * f_L_get τ v24 (1 + v27)).toInt ≤ 72 := by rw [hs.1, km_toInt (k := 8) (z := 8) (by decide) (by omega) (by omega)]; omega
    have hfd := fade_eq hR (x := v24) (k := v27) (v := 8 * f_L_get τ v24 (1 + v27)) (y := v25 + v25 * v20) (by omega) (by omega) (by omega) (by omega) hv8.1 hv8.2 (by omega) (by omega)
    have hd := hD (ix v27) (by omega)
    have en : nI (ix v27) = v27 := (nI_ix (by omega)).symm
    refine lv_iload hx hb dL_law_1512 (lv_at hl 14 rfl) ?_
    refine lv_aload_n hx hb dL_law_1514 rfl (lv_at hl 2 rfl) ?_
    refine lv_aload_n hx hb dL_law_1515 rfl (lv_at hl 3 rfl) ?_
    refine lv_aload hx hb dL_law_1516 (lv_at hl 4 rfl) ?_
    refine lv_iload hx hb dL_law_1518 (lv_at hl 12 rfl) ?_
    refine lv_iconst (v := 0) hx hb dL_law_1520 (by decide) ?_
    refine call0i (va_runS (As := [.ref (adL 1), .ref (adL 2), .int v24, .int 0]) (rest := [.ref (adL 0), .int (sm (fun k => jabs (f_X3_fade σ (ix v24) (nI k) (8 * σ (25 + ix v24) k) (v25 + v25 * v20) - σ 14 (10 + k))) (ix v27))]) S (c_L_get l adL D H.size τ v24 0 (by omega) (by omega)) (va_cwS 4 S.2.2.2.2 gL_law_L_get rfl rfl rfl hd_L_get ⟨Nat.le_of_ble_eq_true rfl, Nat.le_of_ble_eq_true rfl⟩) (preS hKL hN (wL.take (k := 3) (by decide))) rfl rfl hl.1 rfl (lv_room (Nat.le_of_ble_eq_true rfl)) dL_law_1521 (rm_ok hnc hns)) ?_
    refine lv_iload hx hb dL_law_1524 (lv_at hl 15 rfl) ?_
    refine lv_bipush (v := 8) hx hb dL_law_1526 (by decide) ?_
    refine lv_aload_n hx hb dL_law_1528 rfl (lv_at hl 3 rfl) ?_
    refine lv_aload hx hb dL_law_1529 (lv_at hl 4 rfl) ?_
    refine lv_iload hx hb dL_law_1531 (lv_at hl 12 rfl) ?_
    refine lv_iconst (v := 1) hx hb dL_law_1533 (by decide) ?_
    refine lv_iload hx hb dL_law_1534 (lv_at hl 15 rfl) ?_
    refine lv_iadd hx hb dL_law_1536 ?_
    refine call0i (va_runS (As := [.ref (adL 1), .ref (adL 2), .int v24, .int (1 + v27)]) (rest := [.int 8, .int v27, .int (f_L_get τ v24 0), .ref (adL 0), .int (sm (fun k => jabs (f_X3_fade σ (ix v24) (nI k) (8 * σ (25 + ix v24) k) (v25 + v25 * v20) - σ 14 (10 + k))) (ix v27))]) S (c_L_get l adL D H.size τ v24 (1 + v27) (by omega) (by omega)) (va_cwS 4 S.2.2.2.2 gL_law_L_get rfl rfl rfl hd_L_get ⟨Nat.le_of_ble_eq_true rfl, Nat.le_of_ble_eq_true rfl⟩) (preS hKL hN (wL.take (k := 3) (by decide))) rfl rfl hl.1 rfl (lv_room (Nat.le_of_ble_eq_true rfl)) dL_law_1537 (rm_ok hnc hns)) ?_
    refine lv_imul hx hb dL_law_1540 ?_
    refine lv_iload hx hb dL_law_1541 (lv_at hl 13 rfl) ?_
    refine lv_iconst (v := 1) hx hb dL_law_1543 (by decide) ?_
    refine lv_iload hx hb dL_law_1544 (lv_at hl 8 rfl) ?_
    refine lv_iadd hx hb dL_law_1546 ?_
    refine lv_imul hx hb dL_law_1547 ?_
    refine call0i (va_runS (As := [.ref (adL 0), .int (f_L_get τ v24 0), .int v27, .int (8 * (f_L_get τ v24 (1 + v27))), .int (v25 * (1 + v20))]) (rest := [.int (sm (fun k => jabs (f_X3_fade σ (ix v24) (nI k) (8 * σ (25 + ix v24) k) (v25 + v25 * v20) - σ 14 (10 + k))) (ix v27))]) S (c_L_fades l adL D H.size τ (f_L_get τ v24 0) v27 (8 * (f_L_get τ v24 (1 + v27))) (v25 * (1 + v20)) (by rw [hk.1]; omega) (by omega) (by rw [ht]; omega) (by rw [ye]; omega)) (va_cwS 5 S.2.2.2.2 gL_law_L_fades rfl rfl rfl hd_L_fades ⟨Nat.le_of_ble_eq_true rfl, Nat.le_of_ble_eq_true rfl⟩) (preS hKL hN (wL.take (k := 3) (by decide))) rfl rfl hl.1 rfl (lv_room (Nat.le_of_ble_eq_true rfl)) dL_law_1548 (rm_ok hnc hns)) ?_
    have q1548 : (f_L_fades τ (f_L_get τ v24 0) v27 (8 * (f_L_get τ v24 (1 + v27))) (v25 * (1 + v20))) = f_X3_fade σ (ix v24) v27 (8 * f_L_get τ v24 (1 + v27)) (v25 + v25 * v20) := by rw [ye]; exact hfd.1
    generalize (f_L_fades τ (f_L_get τ v24 0) v27 (8 * (f_L_get τ v24 (1 + v27))) (v25 * (1 + v20))) = w1 at hl q1548 ⊢
    refine lv_aload hx hb dL_law_1551 (lv_at hl 9 rfl) ?_
    refine lv_iload hx hb dL_law_1553 (lv_at hl 15 rfl) ?_
    have g1555 : vp_in v27 9 := vpi (by omega) (by omega)
    refine r_iald (cA := adL 100) (N := 9) S hKL wL (k := 3) (by decide) (fun f => rfl) rfl g1555 dL_law_1555 ?_
    refine call0i (va_runS (As := [.int w1, .int (τ 3 (ix v27))]) (rest := [.int (sm (fun k => jabs (f_X3_fade σ (ix v24) (nI k) (8 * σ (25 + ix v24) k) (v25 + v25 * v20) - σ 14 (10 + k))) (ix v27))]) S (c_L_off l w1 (τ 3 (ix v27))) (va_cwS 2 S.2.2.2.2 gL_law_L_off rfl rfl rfl hd_L_off ⟨Nat.le_of_ble_eq_true rfl, Nat.le_of_ble_eq_true rfl⟩) pre0S rfl rfl hl.1 rfl (lv_room (Nat.le_of_ble_eq_true rfl)) dL_law_1556 (rm_ok hnc hns)) ?_
    have q1556 : (f_L_off w1 (τ 3 (ix v27))) = jabs (f_X3_fade σ (ix v24) (nI (ix v27)) (8 * σ (25 + ix v24) (ix v27)) (v25 + v25 * v20) - σ 14 (10 + ix v27)) := by rw [en, hd.1, ← hs.1, ← q1548]; exact off_eq (by rw [q1548]; omega) (by rw [q1548]; omega) (by omega) (by omega)
    generalize (f_L_off w1 (τ 3 (ix v27))) = w2 at hl q1556 ⊢
    refine lv_iadd hx hb dL_law_1559 ?_
    refine lv_istore (lv' := [(26, .int ((sm (fun k => jabs (f_X3_fade σ (ix v24) (nI k) (8 * σ (25 + ix v24) k) (v25 + v25 * v20) - σ 14 (10 + k))) (ix v27)) + w2)), (0, .ref b), (1, .ref (adC 0)), (2, .ref (adL 0)), (3, .ref (adL 1)), (4, .ref (adL 2)), (5, .int v5), (6, .int v6), (10, .int v10), (20, .int v20), (21, .ref (adL 3)), (22, .int v22), (23, .ref (adL 4)), (24, .int v24), (25, .int v25), (27, .int v27)]) hx hb dL_law_1560 hl (by decide) rfl (fun ls hl => ?_)
    refine lv_iinc (v := (v27 + 1)) (lv' := [(27, .int (v27 + 1)), (26, .int ((sm (fun k => jabs (f_X3_fade σ (ix v24) (nI k) (8 * σ (25 + ix v24) k) (v25 + v25 * v20) - σ 14 (10 + k))) (ix v27)) + w2)), (0, .ref b), (1, .ref (adC 0)), (2, .ref (adL 0)), (3, .ref (adL 1)), (4, .ref (adL 2)), (5, .int v5), (6, .int v6), (10, .int v10), (20, .int v20), (21, .ref (adL 3)), (22, .int v22), (23, .ref (adL 4)), (24, .int v24), (25, .int v25)]) hx hb dL_law_1562 hl (k := 15) rfl rfl (by decide) rfl (fun ls hl => ?_)
    refine lv_goto (tgt := 1505) hx hb dL_law_1565 (by decide) ?_
    have e27 := inc_toInt (a := v27) (by omega) (by omega)
    have k27 := ix_toInt (x := v27 + 1) (by omega)
    have ei : ix (v27 + 1) = ix v27 + 1 := by omega
    have es : sm (fun k => jabs (f_X3_fade σ (ix v24) (nI k) (8 * σ (25 + ix v24) k) (v25 + v25 * v20) - σ 14 (10 + k))) (ix v27) + jabs (f_X3_fade σ (ix v24) (nI (ix v27)) (8 * σ (25 + ix v24) (ix v27)) (v25 + v25 * v20) - σ 14 (10 + ix v27)) = sm (fun k => jabs (f_X3_fade σ (ix v24) (nI k) (8 * σ (25 + ix v24) k) (v25 + v25 * v20) - σ 14 (10 + k))) (ix v27 + 1) := rfl
    rw [q1556, es, ← ei] at hl
    exact (ih (v27 + 1) (by omega) (by omega) (by omega)) h100 hdis H locs wC wL ls (lv_sub hl [2, 3, 4, 5, 6, 7, 8, 9, 10, 11, 12, 13, 14, 15, 1, 0] rfl)
set_option maxHeartbeats 8000000 in
set_option maxRecDepth 100000 in
theorem l_1492 {p : Program} {l : Launch} {e : Env} {s : State} {m : MethodId} {below : List Frame} {meth : Method} {c : Code} {D : va_G} {b L : Nat} {xs : Nat → Int32} {adC : Nat → Nat} (hC : LC p s m meth c D b L xs adC) {adL : Nat → Nat} {σ : St} {nc ns : Nat} (hnc : nc ≤ 1000) (hns : ns ≤ 10000) {v5 v6 v10 v20 v22 v24 : Int32} (h10 : v10 = σ 0 7) (h24 : 0 ≤ v24.toInt ∧ v24.toInt < v5.toInt) (h20 : 0 ≤ v20.toInt ∧ v20.toInt < 4)
    (hex : ∀ τ' : St, Br σ τ' v5 v6 → Dr σ (τ' 3) → (∀ x, x < 8 → τ' 4 x = if x < ix v24 + 1 then nI (hc σ v20 x 10) else 0) → LG p l e s m below meth c D b adC adL 5 σ τ' nc ns 1594 [(0, .ref b), (1, .ref (adC 0)), (2, .ref (adL 0)), (3, .ref (adL 1)), (4, .ref (adL 2)), (5, .int v5), (6, .int v6), (10, .int v10), (20, .int v20), (21, .ref (adL 3)), (22, .int v22), (23, .ref (adL 4)), (24, .int v24)] []) : ∀ (k : Nat) (v25 : Int32) (τ : St), Br σ τ v5 v6 → Dr σ (τ 3) → (∀ x, x < 8 → τ 4 x = if x < ix v24 then nI (hc σ v20 x 10) else if x = ix v24 then nI (hc σ v20 x (ix v25)) else 0) → 0 ≤ v25.toInt → v25.toInt ≤ 10 → 10 < v25.toInt + k → LG p l e s m below meth c D b adC adL 5 σ τ nc ns 1492 [(0, .ref b), (1, .ref (adC 0)), (2, .ref (adL 0)), (3, .ref (adL 1)), (4, .ref (adL 2)), (5, .int v5), (6, .int v6), (10, .int v10), (20, .int v20), (21, .ref (adL 3)), (22, .int v22), (23, .ref (adL 4)), (24, .int v24), (25, .int v25)] [] := by
  intro k
  induction k with
  | zero => intro v25 τ b1 b2 b3 a1 a2 a3; exact absurd a3 (by omega)
  | succ k ih =>
  intro v25 τ hB hD h4 a1 a2 a3
  have hn := hB.n
  have j24 := ix_toInt (x := v24) (by omega)
  have h1568 : v25.toInt < 10 → LG p l e s m below meth c D b adC adL 5 σ τ nc ns 1568 [(0, .ref b), (1, .ref (adC 0)), (2, .ref (adL 0)), (3, .ref (adL 1)), (4, .ref (adL 2)), (5, .int v5), (6, .int v6), (10, .int v10), (20, .int v20), (21, .ref (adL 3)), (22, .int v22), (23, .ref (adL 4)), (24, .int v24), (25, .int v25), (26, .int (hSum σ (ix v24) v20 v25))] [] := by
    intro hlt
    intro h100 hdis H locs wC wL ls hl
    obtain ⟨hL, C0, hKC⟩ := id hC
    obtain ⟨hx, hb, hr, hml, hown, hts, hX, hbl, hlocks, hgv⟩ := C0
    have hN : NW s := NW_of hts
    have S : CallFix p m c cL_law 30 s #[Value.ref b] wsL_law RL := ⟨hx, hb, hml, hown, fun w h => hts w (wsL_law_in w h)⟩
    have hbA : ¬ (fun q : Nat => s.heap.size ≤ q) b := Nat.not_le.mpr hbl
    have hKL := KL_of hKC h100
    have z0 : (0 : Int32).toInt = 0 := by decide
    have z1 : (1 : Int32).toInt = 1 := by decide
    refine lv_aload hx hb dL_law_1568 (lv_at hl 11 rfl) ?_
    refine lv_iload hx hb dL_law_1570 (lv_at hl 12 rfl) ?_
    refine lv_dup2_11 hx hb dL_law_1572 rfl rfl ?_
    have g1573 : vp_in v24 8 := vpi (by omega) (by omega)
    refine r_iald (cA := adL 100) (N := 8) S hKL wL (k := 4) (by decide) (fun f => rfl) rfl g1573 dL_law_1573 ?_
    refine lv_iload hx hb dL_law_1574 (lv_at hl 14 rfl) ?_
    refine lv_iload hx hb dL_law_1576 (lv_at hl 7 rfl) ?_
    refine lv_icmp_gt (tgt := 1585) hx hb dL_law_1578 (by decide) (fun c1578 => ?_) (fun c1578 => ?_)
    · have t1578 : v10.toInt < (hSum σ (ix v24) v20 v25).toInt := qt_lt c1578
      refine lv_iconst (v := 0) hx hb dL_law_1585 (by decide) ?_
      refine lv_iadd hx hb dL_law_1586 ?_
      have g1587 : vp_in v24 8 := vpi (by omega) (by omega)
      refine iast2 S hKL wC wL hdis (k := 4) (by decide) (cA := adL 100) (N := 8) (fun f => rfl) rfl g1587 dL_law_1587 (fun H locs wC wL => ?_)
      refine lv_iinc (v := (v25 + 1)) (lv' := [(25, .int (v25 + 1)), (0, .ref b), (1, .ref (adC 0)), (2, .ref (adL 0)), (3, .ref (adL 1)), (4, .ref (adL 2)), (5, .int v5), (6, .int v6), (10, .int v10), (20, .int v20), (21, .ref (adL 3)), (22, .int v22), (23, .ref (adL 4)), (24, .int v24), (26, .int (hSum σ (ix v24) v20 v25))]) hx hb dL_law_1588 hl (k := 13) rfl rfl (by decide) rfl (fun ls hl => ?_)
      refine lv_goto (tgt := 1492) hx hb dL_law_1591 (by decide) ?_
      have e25 := inc_toInt (a := v25) (by omega) (by omega)
      have j25 := ix_toInt (x := v25) (by omega)
      have k25 := ix_toInt (x := v25 + 1) (by omega)
      have ei : ix (v25 + 1) = ix v25 + 1 := by omega
      have en : nI (ix v25) = v25 := (nI_ix (by omega)).symm
      have o4 := h4 (ix v24) (by omega)
      rw [if_neg (Nat.lt_irrefl _), if_pos rfl] at o4
      have es : hc σ v20 (ix v24) (ix v25 + 1) = hc σ v20 (ix v24) (ix v25) + (if σ 0 7 < hSum σ (ix v24) v20 (nI (ix v25)) then 0 else 1) := rfl
      rw [en, ← h10, if_pos c1578] at es
      have hB1 := hB.tau (τ' := (u2 τ 4 (ix v24) ((τ 4 (ix v24)) + 0))) (u2_nc (by omega)) (u2_nc (by omega)) (u2_nc (by omega))
      have hD1 : Dr σ ((u2 τ 4 (ix v24) ((τ 4 (ix v24)) + 0)) 3) := by rw [u2_nc (by omega)]; exact hD
      have h41 : ∀ x, x < 8 → (u2 τ 4 (ix v24) ((τ 4 (ix v24)) + 0)) 4 x = if x < ix v24 then nI (hc σ v20 x 10) else if x = ix v24 then nI (hc σ v20 x (ix (v25 + 1))) else 0 := fun x hx8 => by
        by_cases cx : x = ix v24
        · rw [cx, u2_self, if_neg (Nat.lt_irrefl _), if_pos rfl, ei, es, o4, Int32.add_zero, Nat.add_zero]
        · rw [u2_nk cx, h4 x hx8, if_neg cx, if_neg cx]
      exact (ih (v25 + 1) _ hB1 hD1 h41 (by omega) (by omega) (by omega)) h100 hdis H locs wC wL ls (lv_sub hl [1, 2, 3, 4, 5, 6, 7, 8, 9, 10, 11, 12, 13, 0] rfl)
    · have t1578 : (hSum σ (ix v24) v20 v25).toInt ≤ v10.toInt := qt_nlt c1578
      refine lv_iconst (v := 1) hx hb dL_law_1581 (by decide) ?_
      refine lv_goto (tgt := 1586) hx hb dL_law_1582 (by decide) ?_
      refine lv_iadd hx hb dL_law_1586 ?_
      have g1587 : vp_in v24 8 := vpi (by omega) (by omega)
      refine iast2 S hKL wC wL hdis (k := 4) (by decide) (cA := adL 100) (N := 8) (fun f => rfl) rfl g1587 dL_law_1587 (fun H locs wC wL => ?_)
      refine lv_iinc (v := (v25 + 1)) (lv' := [(25, .int (v25 + 1)), (0, .ref b), (1, .ref (adC 0)), (2, .ref (adL 0)), (3, .ref (adL 1)), (4, .ref (adL 2)), (5, .int v5), (6, .int v6), (10, .int v10), (20, .int v20), (21, .ref (adL 3)), (22, .int v22), (23, .ref (adL 4)), (24, .int v24), (26, .int (hSum σ (ix v24) v20 v25))]) hx hb dL_law_1588 hl (k := 13) rfl rfl (by decide) rfl (fun ls hl => ?_)
      refine lv_goto (tgt := 1492) hx hb dL_law_1591 (by decide) ?_
      have e25 := inc_toInt (a := v25) (by omega) (by omega)
      have j25 := ix_toInt (x := v25) (by omega)
      have k25 := ix_toInt (x := v25 + 1) (by omega)
      have ei : ix (v25 + 1) = ix v25 + 1 := by omega
      have en : nI (ix v25) = v25 := (nI_ix (by omega)).symm
      have o4 := h4 (ix v24) (by omega)
      rw [if_neg (Nat.lt_irrefl _), if_pos rfl] at o4
      have es : hc σ v20 (ix v24) (ix v25 + 1) = hc σ v20 (ix v24) (ix v25) + (if σ 0 7 < hSum σ (ix v24) v20 (nI (ix v25)) then 0 else 1) := rfl
      rw [en, ← h10, if_neg c1578] at es
      have hB1 := hB.tau (τ' := (u2 τ 4 (ix v24) ((τ 4 (ix v24)) + 1))) (u2_nc (by omega)) (u2_nc (by omega)) (u2_nc (by omega))
      have hD1 : Dr σ ((u2 τ 4 (ix v24) ((τ 4 (ix v24)) + 1)) 3) := by rw [u2_nc (by omega)]; exact hD
      have h41 : ∀ x, x < 8 → (u2 τ 4 (ix v24) ((τ 4 (ix v24)) + 1)) 4 x = if x < ix v24 then nI (hc σ v20 x 10) else if x = ix v24 then nI (hc σ v20 x (ix (v25 + 1))) else 0 := fun x hx8 => by
        by_cases cx : x = ix v24
        · rw [cx, u2_self, if_neg (Nat.lt_irrefl _), if_pos rfl, ei, es, o4, n1]
        · rw [u2_nk cx, h4 x hx8, if_neg cx, if_neg cx]
      exact (ih (v25 + 1) _ hB1 hD1 h41 (by omega) (by omega) (by omega)) h100 hdis H locs wC wL ls (lv_sub hl [1, 2, 3, 4, 5, 6, 7, 8, 9, 10, 11, 12, 13, 0] rfl)
  intro h100 hdis H locs wC wL ls hl
  obtain ⟨hL, C0, hKC⟩ := id hC
  obtain ⟨hx, hb, hr, hml, hown, hts, hX, hbl, hlocks, hgv⟩ := C0
  have hN : NW s := NW_of hts
  have S : CallFix p m c cL_law 30 s #[Value.ref b] wsL_law RL := ⟨hx, hb, hml, hown, fun w h => hts w (wsL_law_in w h)⟩
  have hbA : ¬ (fun q : Nat => s.heap.size ≤ q) b := Nat.not_le.mpr hbl
  have hKL := KL_of hKC h100
  have z0 : (0 : Int32).toInt = 0 := by decide
  have z1 : (1 : Int32).toInt = 1 := by decide
  refine lv_iload hx hb dL_law_1492 (lv_at hl 13 rfl) ?_
  refine lv_bipush (v := 10) hx hb dL_law_1494 (by decide) ?_
  refine lv_icmp_ge (tgt := 1594) hx hb dL_law_1496 (by decide) (fun c1496 => ?_) (fun c1496 => ?_)
  · have t1496 : 10 ≤ v25.toInt := qt_le c1496
    have j25 := ix_toInt (x := v25) (by omega)
    have e10 : ix v25 = 10 := by omega
    rw [e10] at h4
    exact (hex τ hB hD (h4_10 h4)) h100 hdis H locs wC wL ls (lv_sub hl [0, 1, 2, 3, 4, 5, 6, 7, 8, 9, 10, 11, 12] rfl)
  · have t1496 : v25.toInt < 10 := qt_nle c1496
    refine lv_iconst (v := 0) hx hb dL_law_1499 (by decide) ?_
    refine lv_istore (lv' := [(26, .int 0), (0, .ref b), (1, .ref (adC 0)), (2, .ref (adL 0)), (3, .ref (adL 1)), (4, .ref (adL 2)), (5, .int v5), (6, .int v6), (10, .int v10), (20, .int v20), (21, .ref (adL 3)), (22, .int v22), (23, .ref (adL 4)), (24, .int v24), (25, .int v25)]) hx hb dL_law_1500 hl (by decide) rfl (fun ls hl => ?_)
    refine lv_iconst (v := 0) hx hb dL_law_1502 (by decide) ?_
    refine lv_istore (lv' := [(27, .int 0), (26, .int 0), (0, .ref b), (1, .ref (adC 0)), (2, .ref (adL 0)), (3, .ref (adL 1)), (4, .ref (adL 2)), (5, .int v5), (6, .int v6), (10, .int v10), (20, .int v20), (21, .ref (adL 3)), (22, .int v22), (23, .ref (adL 4)), (24, .int v24), (25, .int v25)]) hx hb dL_law_1503 hl (by decide) rfl (fun ls hl => ?_)
    have e0 : sm (fun k => jabs (f_X3_fade σ (ix v24) (nI k) (8 * σ (25 + ix v24) k) (v25 + v25 * v20) - σ 14 (10 + k))) (ix 0) = 0 := rfl
    refine l_1505 hC hnc hns hB hD h24 h20 ⟨by omega, by omega⟩ (h1568 (by omega)) 100 0 (by decide) (by decide) (by decide) h100 hdis H locs wC wL ls ?_
    rw [e0]
    exact lv_sub hl [2, 3, 4, 5, 6, 7, 8, 9, 10, 11, 12, 13, 14, 15, 1, 0] rfl
set_option maxHeartbeats 8000000 in
set_option maxRecDepth 100000 in
theorem l_1482 {p : Program} {l : Launch} {e : Env} {s : State} {m : MethodId} {below : List Frame} {meth : Method} {c : Code} {D : va_G} {b L : Nat} {xs : Nat → Int32} {adC : Nat → Nat} (hC : LC p s m meth c D b L xs adC) {adL : Nat → Nat} {σ : St} {nc ns : Nat} (hnc : nc ≤ 1000) (hns : ns ≤ 10000) {v5 v6 v10 v20 : Int32} (h10 : v10 = σ 0 7) (h20 : 0 ≤ v20.toInt ∧ v20.toInt < 4)
    (hex : ∀ τ' : St, Br σ τ' v5 v6 → Dr σ (τ' 3) → (∀ x, x < (ix (σ 0 4)) → τ' 4 x = nI (hc σ v20 x 10)) → LG p l e s m below meth c D b adC adL 5 σ τ' nc ns 1610 [(0, .ref b), (1, .ref (adC 0)), (2, .ref (adL 0)), (3, .ref (adL 1)), (4, .ref (adL 2)), (5, .int v5), (6, .int v6), (20, .int v20), (22, .int (nI (hall σ v20 (ix (σ 0 4))))), (23, .ref (adL 4))] []) : ∀ (k : Nat) (v24 : Int32) (τ : St), Br σ τ v5 v6 → Dr σ (τ 3) → (∀ x, x < 8 → τ 4 x = if x < ix v24 then nI (hc σ v20 x 10) else 0) → 0 ≤ v24.toInt → v24.toInt ≤ v5.toInt → v5.toInt < v24.toInt + k → LG p l e s m below meth c D b adC adL 5 σ τ nc ns 1482 [(0, .ref b), (1, .ref (adC 0)), (2, .ref (adL 0)), (3, .ref (adL 1)), (4, .ref (adL 2)), (5, .int v5), (6, .int v6), (10, .int v10), (20, .int v20), (21, .ref (adL 3)), (22, .int (nI (hall σ v20 (ix v24)))), (23, .ref (adL 4)), (24, .int v24)] [] := by
  intro k
  induction k with
  | zero => intro v24 τ b1 b2 b3 a1 a2 a3; exact absurd a3 (by omega)
  | succ k ih =>
  intro v24 τ hB hD h4 a1 a2 a3
  have hn := hB.n
  have j24 := ix_toInt (x := v24) (by omega)
  have h1594 : v24.toInt < v5.toInt → ∀ τ1 : St, Br σ τ1 v5 v6 → Dr σ (τ1 3) → (∀ x, x < 8 → τ1 4 x = if x < ix v24 + 1 then nI (hc σ v20 x 10) else 0) → LG p l e s m below meth c D b adC adL 5 σ τ1 nc ns 1594 [(0, .ref b), (1, .ref (adC 0)), (2, .ref (adL 0)), (3, .ref (adL 1)), (4, .ref (adL 2)), (5, .int v5), (6, .int v6), (10, .int v10), (20, .int v20), (21, .ref (adL 3)), (22, .int (nI (hall σ v20 (ix v24)))), (23, .ref (adL 4)), (24, .int v24)] [] := by
    intro hlt τ1 hB1 hD1 h41
    intro h100 hdis H locs wC wL ls hl
    obtain ⟨hL, C0, hKC⟩ := id hC
    obtain ⟨hx, hb, hr, hml, hown, hts, hX, hbl, hlocks, hgv⟩ := C0
    have hN : NW s := NW_of hts
    have S : CallFix p m c cL_law 30 s #[Value.ref b] wsL_law RL := ⟨hx, hb, hml, hown, fun w h => hts w (wsL_law_in w h)⟩
    have hbA : ¬ (fun q : Nat => s.heap.size ≤ q) b := Nat.not_le.mpr hbl
    have hKL := KL_of hKC h100
    have z0 : (0 : Int32).toInt = 0 := by decide
    have z1 : (1 : Int32).toInt = 1 := by decide
    refine lv_iload hx hb dL_law_1594 (lv_at hl 10 rfl) ?_
    refine lv_aload hx hb dL_law_1596 (lv_at hl 11 rfl) ?_
    refine lv_iload hx hb dL_law_1598 (lv_at hl 12 rfl) ?_
    have g1600 : vp_in v24 8 := vpi (by omega) (by omega)
    refine r_iald (cA := adL 100) (N := 8) S hKL wL (k := 4) (by decide) (fun f => rfl) rfl g1600 dL_law_1600 ?_
    refine lv_iadd hx hb dL_law_1601 ?_
    refine lv_istore (lv' := [(22, .int ((nI (hall σ v20 (ix v24))) + (τ1 4 (ix v24)))), (0, .ref b), (1, .ref (adC 0)), (2, .ref (adL 0)), (3, .ref (adL 1)), (4, .ref (adL 2)), (5, .int v5), (6, .int v6), (10, .int v10), (20, .int v20), (21, .ref (adL 3)), (23, .ref (adL 4)), (24, .int v24)]) hx hb dL_law_1602 hl (by decide) rfl (fun ls hl => ?_)
    refine lv_iinc (v := (v24 + 1)) (lv' := [(24, .int (v24 + 1)), (22, .int ((nI (hall σ v20 (ix v24))) + (τ1 4 (ix v24)))), (0, .ref b), (1, .ref (adC 0)), (2, .ref (adL 0)), (3, .ref (adL 1)), (4, .ref (adL 2)), (5, .int v5), (6, .int v6), (10, .int v10), (20, .int v20), (21, .ref (adL 3)), (23, .ref (adL 4))]) hx hb dL_law_1604 hl (k := 12) rfl rfl (by decide) rfl (fun ls hl => ?_)
    refine lv_goto (tgt := 1482) hx hb dL_law_1607 (by decide) ?_
    have e24 := inc_toInt (a := v24) (by omega) (by omega)
    have k24 := ix_toInt (x := v24 + 1) (by omega)
    have ei : ix (v24 + 1) = ix v24 + 1 := by omega
    have o4 := h41 (ix v24) (by omega)
    rw [if_pos (by omega)] at o4
    have es : hall σ v20 (ix v24) + hc σ v20 (ix v24) 10 = hall σ v20 (ix v24 + 1) := rfl
    rw [o4, nI_ad2, es, ← ei] at hl
    rw [← ei] at h41
    exact (ih (v24 + 1) τ1 hB1 hD1 h41 (by omega) (by omega) (by omega)) h100 hdis H locs wC wL ls (lv_sub hl [2, 3, 4, 5, 6, 7, 8, 9, 10, 11, 1, 12, 0] rfl)
  intro h100 hdis H locs wC wL ls hl
  obtain ⟨hL, C0, hKC⟩ := id hC
  obtain ⟨hx, hb, hr, hml, hown, hts, hX, hbl, hlocks, hgv⟩ := C0
  have hN : NW s := NW_of hts
  have S : CallFix p m c cL_law 30 s #[Value.ref b] wsL_law RL := ⟨hx, hb, hml, hown, fun w h => hts w (wsL_law_in w h)⟩
  have hbA : ¬ (fun q : Nat => s.heap.size ≤ q) b := Nat.not_le.mpr hbl
  have hKL := KL_of hKC h100
  have z0 : (0 : Int32).toInt = 0 := by decide
  have z1 : (1 : Int32).toInt = 1 := by decide
  refine lv_iload hx hb dL_law_1482 (lv_at hl 12 rfl) ?_
  refine lv_iload hx hb dL_law_1484 (lv_at hl 5 rfl) ?_
  refine lv_icmp_ge (tgt := 1610) hx hb dL_law_1486 (by decide) (fun c1486 => ?_) (fun c1486 => ?_)
  · have t1486 : v5.toInt ≤ v24.toInt := qt_le c1486
    have e24 : ix v24 = (ix (σ 0 4)) := by rw [← hB.2.1]; exact congrArg ix (qm_eq (by omega))
    rw [e24] at hl h4
    have hN := hB.1.nN
    exact (hex τ hB hD (fun x hx8 => by rw [h4 x (by omega), if_pos hx8])) h100 hdis H locs wC wL ls (lv_sub hl [0, 1, 2, 3, 4, 5, 6, 8, 10, 11] rfl)
  · have t1486 : v24.toInt < v5.toInt := qt_nle c1486
    refine lv_iconst (v := 0) hx hb dL_law_1489 (by decide) ?_
    refine lv_istore (lv' := [(25, .int 0), (0, .ref b), (1, .ref (adC 0)), (2, .ref (adL 0)), (3, .ref (adL 1)), (4, .ref (adL 2)), (5, .int v5), (6, .int v6), (10, .int v10), (20, .int v20), (21, .ref (adL 3)), (22, .int (nI (hall σ v20 (ix v24)))), (23, .ref (adL 4)), (24, .int v24)]) hx hb dL_law_1490 hl (by decide) rfl (fun ls hl => ?_)
    exact (l_1492 hC hnc hns h10 ⟨by omega, by omega⟩ h20 (h1594 (by omega)) 100 0 τ hB hD (h4_0 h4) (by omega) (by omega) (by omega)) h100 hdis H locs wC wL ls (lv_sub hl [1, 2, 3, 4, 5, 6, 7, 8, 9, 10, 11, 12, 13, 0] rfl)
set_option maxHeartbeats 8000000 in
set_option maxRecDepth 100000 in
theorem s_hours {p : Program} {l : Launch} {e : Env} {s : State} {m : MethodId} {below : List Frame} {meth : Method} {c : Code} {D : va_G} {b L : Nat} {xs : Nat → Int32} {adC : Nat → Nat} (hC : LC p s m meth c D b L xs adC) {adL : Nat → Nat} {σ τ : St} {nc ns : Nat} (hnc : nc ≤ 960) (hns : ns ≤ 9920) {v5 v6 v10 v20 : Int32} (hB : Br σ τ v5 v6) (h10 : v10 = σ 0 7) (h20 : 0 ≤ v20.toInt ∧ v20.toInt < 4) (hD : Dr σ (τ 3))
    (next : ∀ (adL' : Nat → Nat) (τ' : St), Br σ τ' v5 v6 → Dr σ (τ' 3) → (∀ x, x < (ix (σ 0 4)) → τ' 4 x = nI (hc σ v20 x 10)) → LG p l e s m below meth c D b adC adL' 5 σ τ' (nc + 1) (ns + 8) 1610 [(0, .ref b), (1, .ref (adC 0)), (2, .ref (adL' 0)), (3, .ref (adL' 1)), (4, .ref (adL' 2)), (5, .int v5), (6, .int v6), (20, .int v20), (22, .int (nI (hall σ v20 (ix (σ 0 4))))), (23, .ref (adL' 4))] []) : LG p l e s m below meth c D b adC adL 4 σ τ nc ns 1470 [(0, .ref b), (1, .ref (adC 0)), (2, .ref (adL 0)), (3, .ref (adL 1)), (4, .ref (adL 2)), (5, .int v5), (6, .int v6), (10, .int v10), (20, .int v20), (21, .ref (adL 3))] [] := by
  intro h100 hdis H locs wC wL ls hl
  obtain ⟨hL, C0, hKC⟩ := id hC
  obtain ⟨hx, hb, hr, hml, hown, hts, hX, hbl, hlocks, hgv⟩ := C0
  have hN : NW s := NW_of hts
  have S : CallFix p m c cL_law 30 s #[Value.ref b] wsL_law RL := ⟨hx, hb, hml, hown, fun w h => hts w (wsL_law_in w h)⟩
  have hbA : ¬ (fun q : Nat => s.heap.size ≤ q) b := Nat.not_le.mpr hbl
  have hKL := KL_of hKC h100
  have z0 : (0 : Int32).toInt = 0 := by decide
  have z1 : (1 : Int32).toInt = 1 := by decide
  have hn := hB.n
  refine lv_iconst (v := 0) hx hb dL_law_1470 (by decide) ?_
  refine lv_istore (lv' := [(22, .int 0), (0, .ref b), (1, .ref (adC 0)), (2, .ref (adL 0)), (3, .ref (adL 1)), (4, .ref (adL 2)), (5, .int v5), (6, .int v6), (10, .int v10), (20, .int v20), (21, .ref (adL 3))]) hx hb dL_law_1471 hl (by decide) rfl (fun ls hl => ?_)
  refine lv_bipush (v := 8) hx hb dL_law_1473 (by decide) ?_
  have S2 : CallFix p m c cL_law 30 s #[Value.ref b] lw_tbl RL := ⟨hx, hb, hml, hown, hts⟩
  refine newa2 S2 hKL wC wL hdis (by decide) (t := 0) rfl (tb_t1 (List.mem_of_getElem? (i := 43) rfl)) (N := 8) (by decide) rfl rfl (by decide) (rm_newc (by omega)) (rm_news (k := 8) (by omega)) dL_law_1475 (fun adL1 H hA wC wL hdis => ?_)
  rw [← hA 0 (by decide), ← hA 1 (by decide), ← hA 2 (by decide), ← hA 3 (by decide)] at hl
  refine lv_astore (lv' := [(23, .ref (adL1 4)), (22, .int 0), (0, .ref b), (1, .ref (adC 0)), (2, .ref (adL1 0)), (3, .ref (adL1 1)), (4, .ref (adL1 2)), (5, .int v5), (6, .int v6), (10, .int v10), (20, .int v20), (21, .ref (adL1 3))]) hx hb dL_law_1477 hl (by decide) rfl (fun ls hl => ?_)
  have h101 : adL1 100 = adC 100 := (hA 100 (by decide)).trans h100
  clear h100
  have h100 := h101
  have hB0 : Br σ (u1 τ 4 (fun _ => 0)) v5 v6 := hB.tau (u1_ne _ (by omega)) (u1_ne _ (by omega)) (u1_ne _ (by omega))
  have hD0 : Dr σ (u1 τ 4 (fun _ => 0) 3) := by rw [u1_ne _ (by omega)]; exact hD
  have h40 : ∀ x, x < 8 → u1 τ 4 (fun _ => 0) 4 x = if x < ix 0 then nI (hc σ v20 x 10) else 0 := fun x _ => by rw [u1_same, show ix 0 = 0 from rfl, if_neg (Nat.not_lt_zero _)]
  refine lv_iconst (v := 0) hx hb dL_law_1479 (by decide) ?_
  refine lv_istore (lv' := [(24, .int 0), (23, .ref (adL1 4)), (22, .int 0), (0, .ref b), (1, .ref (adC 0)), (2, .ref (adL1 0)), (3, .ref (adL1 1)), (4, .ref (adL1 2)), (5, .int v5), (6, .int v6), (10, .int v10), (20, .int v20), (21, .ref (adL1 3))]) hx hb dL_law_1480 hl (by decide) rfl (fun ls hl => ?_)
  have e0 : nI (hall σ v20 (ix 0)) = 0 := rfl
  refine l_1482 hC (by omega) (by omega) h10 h20 (next adL1) 100 0 _ hB0 hD0 h40 (by omega) (by omega) (by omega) h100 hdis H locs wC wL ls ?_
  rw [e0]
  exact lv_sub hl [3, 4, 5, 6, 7, 8, 9, 10, 11, 12, 2, 1, 0] rfl
