/-! the law's walk: what a door keeps -/
set_option maxHeartbeats 8000000 in
set_option maxRecDepth 100000 in
theorem l_1379 {p : Program} {l : Launch} {e : Env} {s : State} {m : MethodId} {below : List Frame} {meth : Method} {c : Code} {D : va_G} {b L : Nat} {xs : Nat → Int32} {adC : Nat → Nat} (hC : LC p s m meth c D b L xs adC) {adL : Nat → Nat} {nc ns : Nat} (hnc : nc ≤ 1000) (hns : ns ≤ 10000) {v5 v6 v10 v17 v18 v19 v20 : Int32} (h18 : 0 ≤ v18.toInt ∧ v18.toInt < v5.toInt) (h19 : 0 ≤ v19.toInt ∧ v19.toInt < 10) (h20 : 0 ≤ v20.toInt ∧ v20.toInt < 4)
    (hex : ∀ σ' τ' : St, Br σ' τ' v5 v6 → v10 = σ' 0 7 → Dr σ' (τ' 3) → LG p l e s m below meth c D b adC adL 4 σ' τ' nc ns 1470 [(0, .ref b), (1, .ref (adC 0)), (2, .ref (adL 0)), (3, .ref (adL 1)), (4, .ref (adL 2)), (5, .int v5), (6, .int v6), (10, .int v10), (20, .int v20), (21, .ref (adL 3))] []) : ∀ (k : Nat) (v22 : Int32) (σ τ : St), Br σ τ v5 v6 → v10 = σ 0 7 → (∀ i, i < ix v22 → σ 14 (10 + i) = τ 3 i ∧ 0 ≤ (τ 3 i).toInt ∧ (τ 3 i).toInt ≤ 99) → 0 ≤ v22.toInt → v22.toInt ≤ 9 → 9 < v22.toInt + k → LG p l e s m below meth c D b adC adL 4 σ τ nc ns 1379 [(0, .ref b), (1, .ref (adC 0)), (2, .ref (adL 0)), (3, .ref (adL 1)), (4, .ref (adL 2)), (5, .int v5), (6, .int v6), (10, .int v10), (17, .int v17), (18, .int v18), (19, .int v19), (20, .int v20), (21, .ref (adL 3)), (22, .int v22)] [] := by
  intro k
  induction k with
  | zero => intro v22 σ τ b1 b2 b3 a1 a2 a3; exact absurd a3 (by omega)
  | succ k ih =>
  intro v22 σ τ hB h10 hi a1 a2 a3
  intro h100 hdis H locs wC wL ls hl
  obtain ⟨hL, C0, hKC⟩ := id hC
  obtain ⟨hx, hb, hr, hml, hown, hts, hX, hbl, hlocks, hgv⟩ := C0
  have hN : NW s := NW_of hts
  have S : CallFix p m c cL_law 30 s #[Value.ref b] wsL_law RL := ⟨hx, hb, hml, hown, fun w h => hts w (wsL_law_in w h)⟩
  have hbA : ¬ (fun q : Nat => s.heap.size ≤ q) b := Nat.not_le.mpr hbl
  have hKL := KL_of hKC h100
  have z0 : (0 : Int32).toInt = 0 := by decide
  have z1 : (1 : Int32).toInt = 1 := by decide
  have hR := hB.1
  have hn := hB.n
  have j22 := ix_toInt (x := v22) (by omega)
  refine lv_iload hx hb dL_law_1379 (lv_at hl 13 rfl) ?_
  refine lv_bipush (v := 9) hx hb dL_law_1381 (by decide) ?_
  refine lv_icmp_ge (tgt := 1470) hx hb dL_law_1383 (by decide) (fun c1383 => ?_) (fun c1383 => ?_)
  · have t1383 : 9 ≤ v22.toInt := qt_le c1383
    have e22 : ix v22 = 9 := by omega
    rw [e22] at hi
    exact (hex σ τ hB h10 hi) h100 hdis H locs wC wL ls (lv_sub hl [0, 1, 2, 3, 4, 5, 6, 7, 11, 12] rfl)
  · have t1383 : v22.toInt < 9 := qt_nle c1383
    have z10 : (10 : Int32).toInt = 10 := by decide
    have z9 : (9 : Int32).toInt = 9 := by decide
    have e1408 := a_toInt (a := 1) (b := v22) (by omega) (by omega)
    have e1452 := a_toInt (a := 10) (b := v22) (by omega) (by omega)
    have ey := yr_bd (a := v19) (w := v20) (by omega) (by omega) (by omega) (by omega)
    have hk := hR.kd (x := v18) (by omega) (by omega)
    have hs := hR.st (x := v18) (k := v22) (by omega) (by omega) (by omega) (by omega)
    have ht := hR.th (k := v22) (by omega) (by omega)
    have hh := hR.hf (k := v22) (by omega) (by omega)
    have hv8 : 0 ≤ (8 * f_L_get τ v18 (1 + v22)).toInt ∧ (8 * f_L_get τ v18 (1 + v22)).toInt ≤ 72 := by rw [hs.1, km_toInt (k := 8) (z := 8) (by decide) (by omega) (by omega)]; omega
    have hfd := fade_eq hR (x := v18) (k := v22) (v := 8 * f_L_get τ v18 (1 + v22)) (y := v19 + v19 * v20) (by omega) (by omega) (by omega) (by omega) hv8.1 hv8.2 (by omega) (by omega)
    refine lv_aload_n hx hb dL_law_1386 rfl (lv_at hl 2 rfl) ?_
    refine lv_aload_n hx hb dL_law_1387 rfl (lv_at hl 3 rfl) ?_
    refine lv_aload hx hb dL_law_1388 (lv_at hl 4 rfl) ?_
    refine lv_iload hx hb dL_law_1390 (lv_at hl 9 rfl) ?_
    refine lv_iconst (v := 0) hx hb dL_law_1392 (by decide) ?_
    refine call0i (va_runS (As := [.ref (adL 1), .ref (adL 2), .int v18, .int 0]) (rest := [.ref (adL 0)]) S (c_L_get l adL D H.size τ v18 0 (by omega) (by omega)) (va_cwS 4 S.2.2.2.2 gL_law_L_get rfl rfl rfl hd_L_get ⟨Nat.le_of_ble_eq_true rfl, Nat.le_of_ble_eq_true rfl⟩) (preS hKL hN (wL.take (k := 3) (by decide))) rfl rfl hl.1 rfl (lv_room (Nat.le_of_ble_eq_true rfl)) dL_law_1393 (rm_ok hnc hns)) ?_
    refine lv_iload hx hb dL_law_1396 (lv_at hl 13 rfl) ?_
    refine lv_bipush (v := 8) hx hb dL_law_1398 (by decide) ?_
    refine lv_aload_n hx hb dL_law_1400 rfl (lv_at hl 3 rfl) ?_
    refine lv_aload hx hb dL_law_1401 (lv_at hl 4 rfl) ?_
    refine lv_iload hx hb dL_law_1403 (lv_at hl 9 rfl) ?_
    refine lv_iconst (v := 1) hx hb dL_law_1405 (by decide) ?_
    refine lv_iload hx hb dL_law_1406 (lv_at hl 13 rfl) ?_
    refine lv_iadd hx hb dL_law_1408 ?_
    refine call0i (va_runS (As := [.ref (adL 1), .ref (adL 2), .int v18, .int (1 + v22)]) (rest := [.int 8, .int v22, .int (f_L_get τ v18 0), .ref (adL 0)]) S (c_L_get l adL D H.size τ v18 (1 + v22) (by omega) (by omega)) (va_cwS 4 S.2.2.2.2 gL_law_L_get rfl rfl rfl hd_L_get ⟨Nat.le_of_ble_eq_true rfl, Nat.le_of_ble_eq_true rfl⟩) (preS hKL hN (wL.take (k := 3) (by decide))) rfl rfl hl.1 rfl (lv_room (Nat.le_of_ble_eq_true rfl)) dL_law_1409 (rm_ok hnc hns)) ?_
    refine lv_imul hx hb dL_law_1412 ?_
    refine lv_iload hx hb dL_law_1413 (lv_at hl 10 rfl) ?_
    refine lv_iload hx hb dL_law_1415 (lv_at hl 10 rfl) ?_
    refine lv_iload hx hb dL_law_1417 (lv_at hl 11 rfl) ?_
    refine lv_imul hx hb dL_law_1419 ?_
    refine lv_iadd hx hb dL_law_1420 ?_
    refine call0i (va_runS (As := [.ref (adL 0), .int (f_L_get τ v18 0), .int v22, .int (8 * (f_L_get τ v18 (1 + v22))), .int (v19 + (v19 * v20))]) (rest := []) S (c_L_fades l adL D H.size τ (f_L_get τ v18 0) v22 (8 * (f_L_get τ v18 (1 + v22))) (v19 + (v19 * v20)) (by rw [hk.1]; omega) (by omega) (by rw [ht]; omega) (by omega)) (va_cwS 5 S.2.2.2.2 gL_law_L_fades rfl rfl rfl hd_L_fades ⟨Nat.le_of_ble_eq_true rfl, Nat.le_of_ble_eq_true rfl⟩) (preS hKL hN (wL.take (k := 3) (by decide))) rfl rfl hl.1 rfl (lv_room (Nat.le_of_ble_eq_true rfl)) dL_law_1421 (rm_ok hnc hns)) ?_
    have q1421 : 0 ≤ (f_L_fades τ (f_L_get τ v18 0) v22 (8 * (f_L_get τ v18 (1 + v22))) (v19 + (v19 * v20))).toInt ∧ (f_L_fades τ (f_L_get τ v18 0) v22 (8 * (f_L_get τ v18 (1 + v22))) (v19 + (v19 * v20))).toInt ≤ 72 := by rw [hfd.1]; exact hfd.2
    generalize (f_L_fades τ (f_L_get τ v18 0) v22 (8 * (f_L_get τ v18 (1 + v22))) (v19 + (v19 * v20))) = w1 at hl q1421 ⊢
    refine lv_iload hx hb dL_law_1424 (lv_at hl 8 rfl) ?_
    refine lv_bipush (v := 9) hx hb dL_law_1426 (by decide) ?_
    refine lv_iload hx hb dL_law_1428 (lv_at hl 13 rfl) ?_
    refine lv_iadd hx hb dL_law_1430 ?_
    refine lv_ishr hx hb dL_law_1431 ?_
    refine lv_iconst (v := 3) hx hb dL_law_1432 (by decide) ?_
    refine call0i (va_runS (As := [.int (v17 >>> ((9 + v22) &&& 31)), .int 3]) (rest := [.int w1]) S (c_L_low l (v17 >>> ((9 + v22) &&& 31)) 3 (by decide)) (va_cwS 2 S.2.2.2.2 gL_law_L_low rfl rfl rfl hd_L_low ⟨Nat.le_of_ble_eq_true rfl, Nat.le_of_ble_eq_true rfl⟩) pre0S rfl rfl hl.1 rfl (lv_room (Nat.le_of_ble_eq_true rfl)) dL_law_1433 (rm_ok hnc hns)) ?_
    have q1433 : 0 ≤ (f_L_low (v17 >>> ((9 + v22) &&& 31)) 3).toInt ∧ (f_L_low (v17 >>> ((9 + v22) &&& 31)) 3).toInt < 3 := low_lt (by decide) (by decide)
    generalize (f_L_low (v17 >>> ((9 + v22) &&& 31)) 3) = w2 at hl q1433 ⊢
    refine lv_iadd hx hb dL_law_1436 ?_
    refine lv_istore (lv' := [(23, .int (w1 + w2)), (0, .ref b), (1, .ref (adC 0)), (2, .ref (adL 0)), (3, .ref (adL 1)), (4, .ref (adL 2)), (5, .int v5), (6, .int v6), (10, .int v10), (17, .int v17), (18, .int v18), (19, .int v19), (20, .int v20), (21, .ref (adL 3)), (22, .int v22)]) hx hb dL_law_1437 hl (by decide) rfl (fun ls hl => ?_)
    have q23 : 0 ≤ (w1 + w2).toInt ∧ (w1 + w2).toInt ≤ 99 := by rw [a_toInt (by omega) (by omega)]; omega
    generalize (w1 + w2) = v23 at hl q23
    refine lv_aload hx hb dL_law_1439 (lv_at hl 13 rfl) ?_
    refine lv_iload hx hb dL_law_1441 (lv_at hl 14 rfl) ?_
    refine lv_iload hx hb dL_law_1443 (lv_at hl 0 rfl) ?_
    have g1445 : vp_in v22 9 := vpi (by omega) (by omega)
    refine iast2 S hKL wC wL hdis (k := 3) (by decide) (cA := adL 100) (N := 9) (fun f => rfl) rfl g1445 dL_law_1445 (fun H locs wC wL => ?_)
    refine lv_aload_n hx hb dL_law_1446 rfl (lv_at hl 2 rfl) ?_
    refine lv_iconst (v := 1) hx hb dL_law_1447 (by decide) ?_
    refine lv_bipush (v := 10) hx hb dL_law_1448 (by decide) ?_
    refine lv_iload hx hb dL_law_1450 (lv_at hl 14 rfl) ?_
    refine lv_iadd hx hb dL_law_1452 ?_
    refine lv_iload hx hb dL_law_1453 (lv_at hl 0 rfl) ?_
    refine callWi2 wC wL hdis (va_runV (As := [.int 1, .int (10 + v22), .int v23]) (rest := []) S (c_X3_put l adC D H.size σ 1 (10 + v22) v23 hR.ok) (cwV 3 S.2.2.2.2 gL_law_X3_put rfl rfl rfl ⟨rfl, hd_X3_put⟩ ⟨Nat.le_of_ble_eq_true rfl, Nat.le_of_ble_eq_true rfl⟩) (preV hKC hN wC (k := 0) (by decide) (eC_0 adC _) (q := (RX3, TX3, 14)) rfl) rfl rfl hl.1 rfl (lv_room (Nat.le_of_ble_eq_true rfl)) dL_law_1455 (rm_ok hnc hns)) (fun H locs wC wL => ?_)
    have q1455 := q_put1 (v := v23) (i := 10 + v22) hR.sh (by omega) (by omega) (by omega) (by omega)
    rw [pr1 q1455]
    rw [pr2 q1455] at wC
    refine lv_iconst (v := 1) hx hb dL_law_1458 (by decide) ?_
    refine lv_icmp_eq (tgt := 1464) hx hb dL_law_1459 (by decide) (fun c1459 => ?_) (fun c1459 => ?_)
    · refine lv_iinc (v := (v22 + 1)) (lv' := [(22, .int (v22 + 1)), (23, .int v23), (0, .ref b), (1, .ref (adC 0)), (2, .ref (adL 0)), (3, .ref (adL 1)), (4, .ref (adL 2)), (5, .int v5), (6, .int v6), (10, .int v10), (17, .int v17), (18, .int v18), (19, .int v19), (20, .int v20), (21, .ref (adL 3))]) hx hb dL_law_1464 hl (k := 14) rfl rfl (by decide) rfl (fun ls hl => ?_)
      refine lv_goto (tgt := 1379) hx hb dL_law_1467 (by decide) ?_
      have hF := Fx_put (σ := σ) (k := ix (10 + v22)) (v := v23) (w := 0)
      have hB0 := hB.fx (hF.mo (fun c hc => by unfold b3 at hc; unfold bd; omega))
      have hB1 := hB0.tau (τ' := u2 τ 3 (ix v22) v23) (u2_nc (by omega)) (u2_nc (by omega)) (u2_nc (by omega))
      have f7 := hF.1 7 (by omega)
      have e22 := inc_toInt (a := v22) (by omega) (by omega)
      have k22 := ix_toInt (x := v22 + 1) (by omega)
      have m22 := ix_toInt (x := 10 + v22) (by omega)
      have hi1 : ∀ i, i < ix (v22 + 1) → u2 (u2 σ 0 9 0) 14 (ix (10 + v22)) v23 14 (10 + i) = u2 τ 3 (ix v22) v23 3 i ∧ 0 ≤ (u2 τ 3 (ix v22) v23 3 i).toInt ∧ (u2 τ 3 (ix v22) v23 3 i).toInt ≤ 99 := fun i hii => by
        by_cases ci : i = ix v22
        · rw [ci, show 10 + ix v22 = ix (10 + v22) by omega, u2_self, u2_self]
          exact ⟨rfl, q23⟩
        · rw [u2_nk (by omega), u2_nc (by omega), u2_nk ci]
          exact hi i (by omega)
      exact (ih (v22 + 1) _ _ hB1 (by rw [f7]; exact h10) hi1 (by omega) (by omega) (by omega)) h100 hdis H locs wC wL ls (lv_sub hl [2, 3, 4, 5, 6, 7, 8, 9, 10, 11, 12, 13, 14, 0] rfl)
    · exact absurd rfl c1459
set_option maxHeartbeats 8000000 in
set_option maxRecDepth 100000 in
theorem s_door {p : Program} {l : Launch} {e : Env} {s : State} {m : MethodId} {below : List Frame} {meth : Method} {c : Code} {D : va_G} {b L : Nat} {xs : Nat → Int32} {adC : Nat → Nat} (hC : LC p s m meth c D b L xs adC) {adL : Nat → Nat} {σ τ : St} {nc ns : Nat} (hnc : nc ≤ 950) (hns : ns ≤ 9900) {v5 v6 v10 : Int32} (hB : Br σ τ v5 v6) (h10 : v10 = σ 0 7)
    (next : ∀ (adL' : Nat → Nat) (σ' τ' : St) (v20 : Int32), Br σ' τ' v5 v6 → v10 = σ' 0 7 → (0 ≤ v20.toInt ∧ v20.toInt < 4) → Dr σ' (τ' 3) → LG p l e s m below meth c D b adC adL' 4 σ' τ' (nc + 1) (ns + 9) 1470 [(0, .ref b), (1, .ref (adC 0)), (2, .ref (adL' 0)), (3, .ref (adL' 1)), (4, .ref (adL' 2)), (5, .int v5), (6, .int v6), (10, .int v10), (20, .int v20), (21, .ref (adL' 3))] []) : LG p l e s m below meth c D b adC adL 3 σ τ nc ns 1328 [(0, .ref b), (1, .ref (adC 0)), (2, .ref (adL 0)), (3, .ref (adL 1)), (4, .ref (adL 2)), (5, .int v5), (6, .int v6), (10, .int v10)] [] := by
  intro h100 hdis H locs wC wL ls hl
  obtain ⟨hL, C0, hKC⟩ := id hC
  obtain ⟨hx, hb, hr, hml, hown, hts, hX, hbl, hlocks, hgv⟩ := C0
  have hN : NW s := NW_of hts
  have S : CallFix p m c cL_law 30 s #[Value.ref b] wsL_law RL := ⟨hx, hb, hml, hown, fun w h => hts w (wsL_law_in w h)⟩
  have hbA : ¬ (fun q : Nat => s.heap.size ≤ q) b := Nat.not_le.mpr hbl
  have hKL := KL_of hKC h100
  have z0 : (0 : Int32).toInt = 0 := by decide
  have z1 : (1 : Int32).toInt = 1 := by decide
  have hR := hB.1
  have hn := hB.n
  have h6 := hB.2.2
  have z18 : (18 : Int32).toInt = 18 := by decide
  have e1333 := a_toInt (a := 18) (b := v6) (by omega) (by omega)
  refine lv_aload_n hx hb dL_law_1328 rfl (lv_at hl 0 rfl) ?_
  refine lv_bipush (v := 18) hx hb dL_law_1329 (by decide) ?_
  refine lv_iload hx hb dL_law_1331 (lv_at hl 6 rfl) ?_
  refine lv_iadd hx hb dL_law_1333 ?_
  refine call0i (va_runS (As := [.ref b, .int (18 + v6)]) (rest := []) S (c_L_cell l b L xs (18 + v6) (by omega) (by omega)) (va_cwS 2 S.2.2.2.2 gL_law_L_cell rfl rfl rfl hd_L_cell ⟨Nat.le_of_ble_eq_true rfl, Nat.le_of_ble_eq_true rfl⟩) (preX hX hbl hbA wC.2.2.1) rfl rfl hl.1 rfl (lv_room (Nat.le_of_ble_eq_true rfl)) dL_law_1334 (rm_ok (by omega) (by omega))) ?_
  refine lv_istore (lv' := [(17, .int (cellF L xs (18 + v6))), (0, .ref b), (1, .ref (adC 0)), (2, .ref (adL 0)), (3, .ref (adL 1)), (4, .ref (adL 2)), (5, .int v5), (6, .int v6), (10, .int v10)]) hx hb dL_law_1337 hl (by decide) rfl (fun ls hl => ?_)
  generalize (cellF L xs (18 + v6)) = v17 at hl
  refine lv_iload hx hb dL_law_1339 (lv_at hl 0 rfl) ?_
  refine lv_iload hx hb dL_law_1341 (lv_at hl 6 rfl) ?_
  refine call0i (va_runS (As := [.int v17, .int v5]) (rest := []) S (c_L_low l v17 v5 (nz_of (by omega))) (va_cwS 2 S.2.2.2.2 gL_law_L_low rfl rfl rfl hd_L_low ⟨Nat.le_of_ble_eq_true rfl, Nat.le_of_ble_eq_true rfl⟩) pre0S rfl rfl hl.1 rfl (lv_room (Nat.le_of_ble_eq_true rfl)) dL_law_1343 (rm_ok (by omega) (by omega))) ?_
  refine lv_istore (lv' := [(18, .int (f_L_low v17 v5)), (17, .int v17), (0, .ref b), (1, .ref (adC 0)), (2, .ref (adL 0)), (3, .ref (adL 1)), (4, .ref (adL 2)), (5, .int v5), (6, .int v6), (10, .int v10)]) hx hb dL_law_1346 hl (by decide) rfl (fun ls hl => ?_)
  have q18 : 0 ≤ (f_L_low v17 v5).toInt ∧ (f_L_low v17 v5).toInt < v5.toInt := low_bd (by omega)
  generalize (f_L_low v17 v5) = v18 at hl q18
  refine lv_iload hx hb dL_law_1348 (lv_at hl 1 rfl) ?_
  refine lv_iconst (v := 3) hx hb dL_law_1350 (by decide) ?_
  refine lv_ishr hx hb dL_law_1351 ?_
  refine lv_bipush (v := 10) hx hb dL_law_1352 (by decide) ?_
  refine call0i (va_runS (As := [.int (v17 >>> ((3 : Int32) &&& 31)), .int 10]) (rest := []) S (c_L_low l (v17 >>> ((3 : Int32) &&& 31)) 10 (by decide)) (va_cwS 2 S.2.2.2.2 gL_law_L_low rfl rfl rfl hd_L_low ⟨Nat.le_of_ble_eq_true rfl, Nat.le_of_ble_eq_true rfl⟩) pre0S rfl rfl hl.1 rfl (lv_room (Nat.le_of_ble_eq_true rfl)) dL_law_1354 (rm_ok (by omega) (by omega))) ?_
  refine lv_istore (lv' := [(19, .int (f_L_low (v17 >>> ((3 : Int32) &&& 31)) 10)), (18, .int v18), (17, .int v17), (0, .ref b), (1, .ref (adC 0)), (2, .ref (adL 0)), (3, .ref (adL 1)), (4, .ref (adL 2)), (5, .int v5), (6, .int v6), (10, .int v10)]) hx hb dL_law_1357 hl (by decide) rfl (fun ls hl => ?_)
  have q19 : 0 ≤ (f_L_low (v17 >>> ((3 : Int32) &&& 31)) 10).toInt ∧ (f_L_low (v17 >>> ((3 : Int32) &&& 31)) 10).toInt < 10 := low_lt (by decide) (by decide)
  generalize (f_L_low (v17 >>> ((3 : Int32) &&& 31)) 10) = v19 at hl q19
  refine lv_iload hx hb dL_law_1359 (lv_at hl 2 rfl) ?_
  refine lv_bipush (v := 7) hx hb dL_law_1361 (by decide) ?_
  refine lv_ishr hx hb dL_law_1363 ?_
  refine lv_iconst (v := 4) hx hb dL_law_1364 (by decide) ?_
  refine call0i (va_runS (As := [.int (v17 >>> ((7 : Int32) &&& 31)), .int 4]) (rest := []) S (c_L_low l (v17 >>> ((7 : Int32) &&& 31)) 4 (by decide)) (va_cwS 2 S.2.2.2.2 gL_law_L_low rfl rfl rfl hd_L_low ⟨Nat.le_of_ble_eq_true rfl, Nat.le_of_ble_eq_true rfl⟩) pre0S rfl rfl hl.1 rfl (lv_room (Nat.le_of_ble_eq_true rfl)) dL_law_1365 (rm_ok (by omega) (by omega))) ?_
  refine lv_istore (lv' := [(20, .int (f_L_low (v17 >>> ((7 : Int32) &&& 31)) 4)), (19, .int v19), (18, .int v18), (17, .int v17), (0, .ref b), (1, .ref (adC 0)), (2, .ref (adL 0)), (3, .ref (adL 1)), (4, .ref (adL 2)), (5, .int v5), (6, .int v6), (10, .int v10)]) hx hb dL_law_1368 hl (by decide) rfl (fun ls hl => ?_)
  have q20 : 0 ≤ (f_L_low (v17 >>> ((7 : Int32) &&& 31)) 4).toInt ∧ (f_L_low (v17 >>> ((7 : Int32) &&& 31)) 4).toInt < 4 := low_lt (by decide) (by decide)
  generalize (f_L_low (v17 >>> ((7 : Int32) &&& 31)) 4) = v20 at hl q20
  refine lv_bipush (v := 9) hx hb dL_law_1370 (by decide) ?_
  have S2 : CallFix p m c cL_law 30 s #[Value.ref b] lw_tbl RL := ⟨hx, hb, hml, hown, hts⟩
  refine newa2 S2 hKL wC wL hdis (by decide) (t := 0) rfl (tb_t1 (List.mem_of_getElem? (i := 43) rfl)) (N := 9) (by decide) rfl rfl (by decide) (rm_newc (by omega)) (rm_news (k := 9) (by omega)) dL_law_1372 (fun adL1 H hA wC wL hdis => ?_)
  rw [← hA 0 (by decide), ← hA 1 (by decide), ← hA 2 (by decide)] at hl
  refine lv_astore (lv' := [(21, .ref (adL1 3)), (20, .int v20), (19, .int v19), (18, .int v18), (17, .int v17), (0, .ref b), (1, .ref (adC 0)), (2, .ref (adL1 0)), (3, .ref (adL1 1)), (4, .ref (adL1 2)), (5, .int v5), (6, .int v6), (10, .int v10)]) hx hb dL_law_1374 hl (by decide) rfl (fun ls hl => ?_)
  have h101 : adL1 100 = adC 100 := (hA 100 (by decide)).trans h100
  clear h100
  have h100 := h101
  have hB0 : Br σ (u1 τ 3 (fun _ => 0)) v5 v6 := hB.tau (u1_ne _ (by omega)) (u1_ne _ (by omega)) (u1_ne _ (by omega))
  refine lv_iconst (v := 0) hx hb dL_law_1376 (by decide) ?_
  refine lv_istore (lv' := [(22, .int 0), (21, .ref (adL1 3)), (20, .int v20), (19, .int v19), (18, .int v18), (17, .int v17), (0, .ref b), (1, .ref (adC 0)), (2, .ref (adL1 0)), (3, .ref (adL1 1)), (4, .ref (adL1 2)), (5, .int v5), (6, .int v6), (10, .int v10)]) hx hb dL_law_1377 hl (by decide) rfl (fun ls hl => ?_)
  exact (l_1379 hC (by omega) (by omega) q18 q19 q20 (fun σ' τ' b1 b2 b3 => next adL1 σ' τ' v20 b1 b2 q20 b3) 100 0 σ _ hB0 h10 (fun i hi => absurd hi (Nat.not_lt_zero _)) (by omega) (by omega) (by omega)) h100 hdis H locs wC wL ls (lv_sub hl [6, 7, 8, 9, 10, 11, 12, 13, 5, 4, 3, 2, 1, 0] rfl)
