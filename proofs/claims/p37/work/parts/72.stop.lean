/-! the law's walk: stoppers -/
set_option maxHeartbeats 8000000 in
set_option maxRecDepth 100000 in
theorem l_370 {p : Program} {l : Launch} {e : Env} {s : State} {m : MethodId} {below : List Frame} {meth : Method} {c : Code} {D : va_G} {b L : Nat} {xs : Nat → Int32} {adC : Nat → Nat} (hC : LC p s m meth c D b L xs adC) {adL : Nat → Nat} {τ : St} {nc ns : Nat} (hnc : nc ≤ 1000) (hns : ns ≤ 10000) {v5 v6 v10 v12 v13 v14 : Int32} (h14 : 0 ≤ v14.toInt ∧ v14.toInt < 8)
    (hex : ∀ σ' : St, Bs σ' τ v5 v6 → v10 = σ' 0 7 → Stq σ' (ix v14) → LG p l e s m below meth c D b adC adL 3 σ' τ nc ns 455 [(0, .ref b), (1, .ref (adC 0)), (2, .ref (adL 0)), (3, .ref (adL 1)), (4, .ref (adL 2)), (5, .int v5), (6, .int v6), (10, .int v10), (12, .int v12), (13, .int v13), (14, .int v14)] []) : ∀ (k : Nat) (v15 : Int32) (σ : St), Bs σ τ v5 v6 → v10 = σ 0 7 → Stq σ (ix v15) → 0 ≤ v15.toInt → v15.toInt ≤ v14.toInt → v14.toInt < v15.toInt + k → LG p l e s m below meth c D b adC adL 3 σ τ nc ns 370 [(0, .ref b), (1, .ref (adC 0)), (2, .ref (adL 0)), (3, .ref (adL 1)), (4, .ref (adL 2)), (5, .int v5), (6, .int v6), (10, .int v10), (12, .int v12), (13, .int v13), (14, .int v14), (15, .int v15)] [] := by
  intro k
  induction k with
  | zero => intro v15 σ b1 b2 b3 a1 a2 a3; exact absurd a3 (by omega)
  | succ k ih =>
  intro v15 σ hB h10 hst a1 a2 a3
  intro h100 hdis H locs wC wL ls hl
  obtain ⟨hL, C0, hKC⟩ := id hC
  obtain ⟨hx, hb, hr, hml, hown, hts, hX, hbl, hlocks, hgv⟩ := C0
  have hN : NW s := NW_of hts
  have S : CallFix p m c cL_law 30 s #[Value.ref b] wsL_law RL := ⟨hx, hb, hml, hown, fun w h => hts w (wsL_law_in w h)⟩
  have hbA : ¬ (fun q : Nat => s.heap.size ≤ q) b := Nat.not_le.mpr hbl
  have hKL := KL_of hKC h100
  have z0 : (0 : Int32).toInt = 0 := by decide
  have z1 : (1 : Int32).toInt = 1 := by decide
  have hR := hB.1
  have hn := hB.n
  have h6 := hB.2.2.1
  have z12 : (12 : Int32).toInt = 12 := by decide
  have z15 : (15 : Int32).toInt = 15 := by decide
  have e388 := a_toInt (a := 12) (b := v6) (by omega) (by omega)
  have e425 := a_toInt (a := 15) (b := v6) (by omega) (by omega)
  refine lv_iload hx hb dL_law_370 (lv_at hl 11 rfl) ?_
  refine lv_iload hx hb dL_law_372 (lv_at hl 10 rfl) ?_
  refine lv_icmp_ge (tgt := 455) hx hb dL_law_374 (by decide) (fun c374 => ?_) (fun c374 => ?_)
  · have t374 : v14.toInt ≤ v15.toInt := qt_le c374
    have e15 : ix v15 = ix v14 := congrArg ix (qm_eq (by omega))
    rw [e15] at hst
    exact (hex σ hB h10 hst) h100 hdis H locs wC wL ls (lv_sub hl [0, 1, 2, 3, 4, 5, 6, 7, 8, 9, 10] rfl)
  · have t374 : v15.toInt < v14.toInt := qt_nle c374
    have x15 := ix2m (j := v15) (by omega) (by omega)
    refine lv_aload_n hx hb dL_law_377 rfl (lv_at hl 1 rfl) ?_
    refine lv_iconst (v := 1) hx hb dL_law_378 (by decide) ?_
    refine lv_iconst (v := 2) hx hb dL_law_379 (by decide) ?_
    refine lv_iload hx hb dL_law_380 (lv_at hl 11 rfl) ?_
    refine lv_imul hx hb dL_law_382 ?_
    refine lv_aload_n hx hb dL_law_383 rfl (lv_at hl 0 rfl) ?_
    refine lv_bipush (v := 12) hx hb dL_law_384 (by decide) ?_
    refine lv_iload hx hb dL_law_386 (lv_at hl 6 rfl) ?_
    refine lv_iadd hx hb dL_law_388 ?_
    refine call0i (va_runS (As := [.ref b, .int (12 + v6)]) (rest := [.int (2 * v15), .int 1, .ref (adC 0)]) S (c_L_cell l b L xs (12 + v6) (by omega) (by omega)) (va_cwS 2 S.2.2.2.2 gL_law_L_cell rfl rfl rfl hd_L_cell ⟨Nat.le_of_ble_eq_true rfl, Nat.le_of_ble_eq_true rfl⟩) (preX hX hbl hbA wC.2.2.1) rfl rfl hl.1 rfl (lv_room (Nat.le_of_ble_eq_true rfl)) dL_law_389 (rm_ok hnc hns)) ?_
    refine lv_iconst (v := 3) hx hb dL_law_392 (by decide) ?_
    refine lv_iconst (v := 3) hx hb dL_law_393 (by decide) ?_
    refine lv_iload hx hb dL_law_394 (lv_at hl 11 rfl) ?_
    refine lv_imul hx hb dL_law_396 ?_
    refine lv_iadd hx hb dL_law_397 ?_
    refine lv_ishr hx hb dL_law_398 ?_
    refine lv_bipush (v := 9) hx hb dL_law_399 (by decide) ?_
    refine call0i (va_runS (As := [.int ((cellF L xs (12 + v6)) >>> ((3 + (3 * v15)) &&& 31)), .int 9]) (rest := [.int (2 * v15), .int 1, .ref (adC 0)]) S (c_L_low l ((cellF L xs (12 + v6)) >>> ((3 + (3 * v15)) &&& 31)) 9 (by decide)) (va_cwS 2 S.2.2.2.2 gL_law_L_low rfl rfl rfl hd_L_low ⟨Nat.le_of_ble_eq_true rfl, Nat.le_of_ble_eq_true rfl⟩) pre0S rfl rfl hl.1 rfl (lv_room (Nat.le_of_ble_eq_true rfl)) dL_law_401 (rm_ok hnc hns)) ?_
    have q401 : 0 ≤ (f_L_low ((cellF L xs (12 + v6)) >>> ((3 + (3 * v15)) &&& 31)) 9).toInt ∧ (f_L_low ((cellF L xs (12 + v6)) >>> ((3 + (3 * v15)) &&& 31)) 9).toInt < 9 := low_lt (by decide) (by decide)
    generalize (f_L_low ((cellF L xs (12 + v6)) >>> ((3 + (3 * v15)) &&& 31)) 9) = w1 at hl q401 ⊢
    refine callWi2 wC wL hdis (va_runV (As := [.int 1, .int (2 * v15), .int w1]) (rest := []) S (c_X3_put l adC D H.size σ 1 (2 * v15) w1 hR.ok) (cwV 3 S.2.2.2.2 gL_law_X3_put rfl rfl rfl ⟨rfl, hd_X3_put⟩ ⟨Nat.le_of_ble_eq_true rfl, Nat.le_of_ble_eq_true rfl⟩) (preV hKC hN wC (k := 0) (by decide) (eC_0 adC _) (q := (RX3, TX3, 14)) rfl) rfl rfl hl.1 rfl (lv_room (Nat.le_of_ble_eq_true rfl)) dL_law_404 (rm_ok hnc hns)) (fun H locs wC wL => ?_)
    have q404 := q_put1 (v := w1) (i := 2 * v15) hR.sh (by omega) (by omega) (by omega) (by omega)
    rw [pr1 q404]
    rw [pr2 q404] at wC
    refine lv_iconst (v := 1) hx hb dL_law_407 (by decide) ?_
    refine lv_icmp_ne (tgt := 447) hx hb dL_law_408 (by decide) (fun c408 => ?_) (fun c408 => ?_)
    · exact absurd rfl c408
    · refine lv_aload_n hx hb dL_law_411 rfl (lv_at hl 1 rfl) ?_
      refine lv_iconst (v := 1) hx hb dL_law_412 (by decide) ?_
      refine lv_iconst (v := 2) hx hb dL_law_413 (by decide) ?_
      refine lv_iload hx hb dL_law_414 (lv_at hl 11 rfl) ?_
      refine lv_imul hx hb dL_law_416 ?_
      refine lv_iconst (v := 1) hx hb dL_law_417 (by decide) ?_
      refine lv_iadd hx hb dL_law_418 ?_
      refine lv_iconst (v := 1) hx hb dL_law_419 (by decide) ?_
      refine lv_aload_n hx hb dL_law_420 rfl (lv_at hl 0 rfl) ?_
      refine lv_bipush (v := 15) hx hb dL_law_421 (by decide) ?_
      refine lv_iload hx hb dL_law_423 (lv_at hl 6 rfl) ?_
      refine lv_iadd hx hb dL_law_425 ?_
      refine call0i (va_runS (As := [.ref b, .int (15 + v6)]) (rest := [.int 1, .int ((2 * v15) + 1), .int 1, .ref (adC 0)]) S (c_L_cell l b L xs (15 + v6) (by omega) (by omega)) (va_cwS 2 S.2.2.2.2 gL_law_L_cell rfl rfl rfl hd_L_cell ⟨Nat.le_of_ble_eq_true rfl, Nat.le_of_ble_eq_true rfl⟩) (preX hX hbl hbA wC.2.2.1) rfl rfl hl.1 rfl (lv_room (Nat.le_of_ble_eq_true rfl)) dL_law_426 (rm_ok hnc hns)) ?_
      refine lv_iconst (v := 3) hx hb dL_law_429 (by decide) ?_
      refine lv_iload hx hb dL_law_430 (lv_at hl 11 rfl) ?_
      refine lv_imul hx hb dL_law_432 ?_
      refine lv_ishr hx hb dL_law_433 ?_
      refine lv_bipush (v := 9) hx hb dL_law_434 (by decide) ?_
      refine call0i (va_runS (As := [.int ((cellF L xs (15 + v6)) >>> ((3 * v15) &&& 31)), .int 9]) (rest := [.int 1, .int ((2 * v15) + 1), .int 1, .ref (adC 0)]) S (c_L_low l ((cellF L xs (15 + v6)) >>> ((3 * v15) &&& 31)) 9 (by decide)) (va_cwS 2 S.2.2.2.2 gL_law_L_low rfl rfl rfl hd_L_low ⟨Nat.le_of_ble_eq_true rfl, Nat.le_of_ble_eq_true rfl⟩) pre0S rfl rfl hl.1 rfl (lv_room (Nat.le_of_ble_eq_true rfl)) dL_law_436 (rm_ok hnc hns)) ?_
      refine lv_iadd hx hb dL_law_439 ?_
      have q439 : 1 ≤ (1 + (f_L_low ((cellF L xs (15 + v6)) >>> ((3 * v15) &&& 31)) 9)).toInt ∧ (1 + (f_L_low ((cellF L xs (15 + v6)) >>> ((3 * v15) &&& 31)) 9)).toInt ≤ 9 := low1
      generalize (1 + (f_L_low ((cellF L xs (15 + v6)) >>> ((3 * v15) &&& 31)) 9)) = w2 at hl q439 ⊢
      refine callWi2 wC wL hdis (va_runV (As := [.int 1, .int ((2 * v15) + 1), .int w2]) (rest := []) S (c_X3_put l adC D H.size (u2 (u2 σ 0 9 0) 14 (ix (2 * v15)) w1) 1 ((2 * v15) + 1) w2 (okC_scr (show scrC 14 by unfold scrC; omega) (okC_obj (by omega) hR.ok))) (cwV 3 S.2.2.2.2 gL_law_X3_put rfl rfl rfl ⟨rfl, hd_X3_put⟩ ⟨Nat.le_of_ble_eq_true rfl, Nat.le_of_ble_eq_true rfl⟩) (preV hKC hN wC (k := 0) (by decide) (eC_0 adC _) (q := (RX3, TX3, 14)) rfl) rfl rfl hl.1 rfl (lv_room (Nat.le_of_ble_eq_true rfl)) dL_law_440 (rm_ok hnc hns)) (fun H locs wC wL => ?_)
      have q440 := q_put1 (v := w2) (i := 2 * v15 + 1) (s1_put (w := 0) (k := ix (2 * v15)) (v := w1) hR.sh) (by omega) (by omega) (by omega) (by omega)
      rw [pr1 q440]
      rw [pr2 q440] at wC
      refine lv_iconst (v := 1) hx hb dL_law_443 (by decide) ?_
      refine lv_icmp_eq (tgt := 449) hx hb dL_law_444 (by decide) (fun c444 => ?_) (fun c444 => ?_)
      · refine lv_iinc (v := (v15 + 1)) (lv' := [(15, .int (v15 + 1)), (0, .ref b), (1, .ref (adC 0)), (2, .ref (adL 0)), (3, .ref (adL 1)), (4, .ref (adL 2)), (5, .int v5), (6, .int v6), (10, .int v10), (12, .int v12), (13, .int v13), (14, .int v14)]) hx hb dL_law_449 hl (k := 11) rfl rfl (by decide) rfl (fun ls hl => ?_)
        refine lv_goto (tgt := 370) hx hb dL_law_452 (by decide) ?_
        have hF := Fx.tr (Fx_put (σ := σ) (k := ix (2 * v15)) (v := w1) (w := 0)) (Fx_put (k := ix (2 * v15 + 1)) (v := w2) (w := 0))
        have hB1 := hB.b3 hF
        have hst1 := Stp_put hst q401.1 q401.2 q439.1 q439.2
        rw [← x15.2.1, ← x15.1] at hst1
        have f7 := hF.1 7 (by omega)
        generalize u2 (u2 (u2 (u2 σ 0 9 0) 14 (ix (2 * v15)) w1) 0 9 0) 14 (ix (2 * v15 + 1)) w2 = σ1 at wC hB1 hst1 f7
        have e15 := inc_toInt (a := v15) (by omega) (by omega)
        have j15 := ix_toInt (x := v15) (by omega)
        have k15 := ix_toInt (x := v15 + 1) (by omega)
        have ei : ix v15 + 1 = ix (v15 + 1) := by omega
        rw [ei] at hst1
        exact (ih (v15 + 1) σ1 hB1 (by rw [f7]; exact h10) hst1 (by omega) (by omega) (by omega)) h100 hdis H locs wC wL ls (lv_sub hl [1, 2, 3, 4, 5, 6, 7, 8, 9, 10, 11, 0] rfl)
      · exact absurd rfl c444
set_option maxHeartbeats 8000000 in
set_option maxRecDepth 100000 in
theorem s_stop {p : Program} {l : Launch} {e : Env} {s : State} {m : MethodId} {below : List Frame} {meth : Method} {c : Code} {D : va_G} {b L : Nat} {xs : Nat → Int32} {adC : Nat → Nat} (hC : LC p s m meth c D b L xs adC) {adL : Nat → Nat} {σ τ : St} {nc ns : Nat} (hnc : nc ≤ 1000) (hns : ns ≤ 10000) {v5 v6 v7 v10 : Int32} (hB : Bs σ τ v5 v6) (h10 : v10 = σ 0 7)
    (next : ∀ (σ' : St) (v12 v13 v14 : Int32), Bs σ' τ v5 v6 → v10 = σ' 0 7 → (0 ≤ v12.toInt ∧ v12.toInt < v5.toInt) → (0 ≤ v13.toInt ∧ v13.toInt < v5.toInt) → v12 ≠ v13 → (0 ≤ v14.toInt ∧ v14.toInt < 8) → Stq σ' (ix v14) → LG p l e s m below meth c D b adC adL 3 σ' τ nc ns 455 [(0, .ref b), (1, .ref (adC 0)), (2, .ref (adL 0)), (3, .ref (adL 1)), (4, .ref (adL 2)), (5, .int v5), (6, .int v6), (10, .int v10), (12, .int v12), (13, .int v13), (14, .int v14)] []) : LG p l e s m below meth c D b adC adL 3 σ τ nc ns 317 [(0, .ref b), (1, .ref (adC 0)), (2, .ref (adL 0)), (3, .ref (adL 1)), (4, .ref (adL 2)), (5, .int v5), (6, .int v6), (7, .int v7), (10, .int v10)] [] := by
  intro h100 hdis H locs wC wL ls hl
  obtain ⟨hL, C0, hKC⟩ := id hC
  obtain ⟨hx, hb, hr, hml, hown, hts, hX, hbl, hlocks, hgv⟩ := C0
  have hN : NW s := NW_of hts
  have S : CallFix p m c cL_law 30 s #[Value.ref b] wsL_law RL := ⟨hx, hb, hml, hown, fun w h => hts w (wsL_law_in w h)⟩
  have hbA : ¬ (fun q : Nat => s.heap.size ≤ q) b := Nat.not_le.mpr hbl
  have hKL := KL_of hKC h100
  have z0 : (0 : Int32).toInt = 0 := by decide
  have z1 : (1 : Int32).toInt = 1 := by decide
  have hR := hB.1
  have hn := hB.n
  have h6 := hB.2.2.1
  have z12 : (12 : Int32).toInt = 12 := by decide
  have e354 := a_toInt (a := 12) (b := v6) (by omega) (by omega)
  have e341 := s_toInt (a := v5) (b := 1) (by omega) (by omega)
  refine lv_iload hx hb dL_law_317 (lv_at hl 7 rfl) ?_
  refine lv_bipush (v := 17) hx hb dL_law_319 (by decide) ?_
  refine lv_ishr hx hb dL_law_321 ?_
  refine lv_iload hx hb dL_law_322 (lv_at hl 5 rfl) ?_
  refine call0i (va_runS (As := [.int (v7 >>> ((17 : Int32) &&& 31)), .int v5]) (rest := []) S (c_L_low l (v7 >>> ((17 : Int32) &&& 31)) v5 (nz_of (by omega))) (va_cwS 2 S.2.2.2.2 gL_law_L_low rfl rfl rfl hd_L_low ⟨Nat.le_of_ble_eq_true rfl, Nat.le_of_ble_eq_true rfl⟩) pre0S rfl rfl hl.1 rfl (lv_room (Nat.le_of_ble_eq_true rfl)) dL_law_324 (rm_ok hnc hns)) ?_
  refine lv_istore (lv' := [(12, .int (f_L_low (v7 >>> ((17 : Int32) &&& 31)) v5)), (0, .ref b), (1, .ref (adC 0)), (2, .ref (adL 0)), (3, .ref (adL 1)), (4, .ref (adL 2)), (5, .int v5), (6, .int v6), (7, .int v7), (10, .int v10)]) hx hb dL_law_327 hl (by decide) rfl (fun ls hl => ?_)
  have q12 : 0 ≤ (f_L_low (v7 >>> ((17 : Int32) &&& 31)) v5).toInt ∧ (f_L_low (v7 >>> ((17 : Int32) &&& 31)) v5).toInt < v5.toInt := low_bd (by omega)
  generalize (f_L_low (v7 >>> ((17 : Int32) &&& 31)) v5) = v12 at hl q12
  refine lv_iload hx hb dL_law_329 (lv_at hl 0 rfl) ?_
  refine lv_iconst (v := 1) hx hb dL_law_331 (by decide) ?_
  refine lv_iadd hx hb dL_law_332 ?_
  refine lv_iload hx hb dL_law_333 (lv_at hl 8 rfl) ?_
  refine lv_bipush (v := 20) hx hb dL_law_335 (by decide) ?_
  refine lv_ishr hx hb dL_law_337 ?_
  refine lv_iload hx hb dL_law_338 (lv_at hl 6 rfl) ?_
  refine lv_iconst (v := 1) hx hb dL_law_340 (by decide) ?_
  refine lv_isub hx hb dL_law_341 ?_
  refine call0i (va_runS (As := [.int (v7 >>> ((20 : Int32) &&& 31)), .int (v5 - 1)]) (rest := [.int (v12 + 1)]) S (c_L_low l (v7 >>> ((20 : Int32) &&& 31)) (v5 - 1) (nz_of (by omega))) (va_cwS 2 S.2.2.2.2 gL_law_L_low rfl rfl rfl hd_L_low ⟨Nat.le_of_ble_eq_true rfl, Nat.le_of_ble_eq_true rfl⟩) pre0S rfl rfl hl.1 rfl (lv_room (Nat.le_of_ble_eq_true rfl)) dL_law_342 (rm_ok hnc hns)) ?_
  refine lv_iadd hx hb dL_law_345 ?_
  refine lv_iload hx hb dL_law_346 (lv_at hl 6 rfl) ?_
  refine lv_irem hx hb dL_law_348 (nz_of (by omega)) ?_
  refine lv_istore (lv' := [(13, .int (((v12 + 1) + (f_L_low (v7 >>> ((20 : Int32) &&& 31)) (v5 - 1))) - (((v12 + 1) + (f_L_low (v7 >>> ((20 : Int32) &&& 31)) (v5 - 1))) / v5) * v5)), (12, .int v12), (0, .ref b), (1, .ref (adC 0)), (2, .ref (adL 0)), (3, .ref (adL 1)), (4, .ref (adL 2)), (5, .int v5), (6, .int v6), (7, .int v7), (10, .int v10)]) hx hb dL_law_349 hl (by decide) rfl (fun ls hl => ?_)
  have q13 : (0 ≤ (((v12 + 1) + (f_L_low (v7 >>> ((20 : Int32) &&& 31)) (v5 - 1))) - (((v12 + 1) + (f_L_low (v7 >>> ((20 : Int32) &&& 31)) (v5 - 1))) / v5) * v5).toInt ∧ (((v12 + 1) + (f_L_low (v7 >>> ((20 : Int32) &&& 31)) (v5 - 1))) - (((v12 + 1) + (f_L_low (v7 >>> ((20 : Int32) &&& 31)) (v5 - 1))) / v5) * v5).toInt < v5.toInt) ∧ v12 ≠ (((v12 + 1) + (f_L_low (v7 >>> ((20 : Int32) &&& 31)) (v5 - 1))) - (((v12 + 1) + (f_L_low (v7 >>> ((20 : Int32) &&& 31)) (v5 - 1))) / v5) * v5) := y_bd (by omega) (by omega) (by omega) (by omega)
  generalize (((v12 + 1) + (f_L_low (v7 >>> ((20 : Int32) &&& 31)) (v5 - 1))) - (((v12 + 1) + (f_L_low (v7 >>> ((20 : Int32) &&& 31)) (v5 - 1))) / v5) * v5) = v13 at hl q13
  refine lv_aload_n hx hb dL_law_351 rfl (lv_at hl 2 rfl) ?_
  refine lv_bipush (v := 12) hx hb dL_law_352 (by decide) ?_
  refine lv_iload hx hb dL_law_354 (lv_at hl 8 rfl) ?_
  refine lv_iadd hx hb dL_law_356 ?_
  refine call0i (va_runS (As := [.ref b, .int (12 + v6)]) (rest := []) S (c_L_cell l b L xs (12 + v6) (by omega) (by omega)) (va_cwS 2 S.2.2.2.2 gL_law_L_cell rfl rfl rfl hd_L_cell ⟨Nat.le_of_ble_eq_true rfl, Nat.le_of_ble_eq_true rfl⟩) (preX hX hbl hbA wC.2.2.1) rfl rfl hl.1 rfl (lv_room (Nat.le_of_ble_eq_true rfl)) dL_law_357 (rm_ok hnc hns)) ?_
  refine lv_bipush (v := 8) hx hb dL_law_360 (by decide) ?_
  refine call0i (va_runS (As := [.int (cellF L xs (12 + v6)), .int 8]) (rest := []) S (c_L_low l (cellF L xs (12 + v6)) 8 (by decide)) (va_cwS 2 S.2.2.2.2 gL_law_L_low rfl rfl rfl hd_L_low ⟨Nat.le_of_ble_eq_true rfl, Nat.le_of_ble_eq_true rfl⟩) pre0S rfl rfl hl.1 rfl (lv_room (Nat.le_of_ble_eq_true rfl)) dL_law_362 (rm_ok hnc hns)) ?_
  refine lv_istore (lv' := [(14, .int (f_L_low (cellF L xs (12 + v6)) 8)), (13, .int v13), (12, .int v12), (0, .ref b), (1, .ref (adC 0)), (2, .ref (adL 0)), (3, .ref (adL 1)), (4, .ref (adL 2)), (5, .int v5), (6, .int v6), (7, .int v7), (10, .int v10)]) hx hb dL_law_365 hl (by decide) rfl (fun ls hl => ?_)
  have q14 : 0 ≤ (f_L_low (cellF L xs (12 + v6)) 8).toInt ∧ (f_L_low (cellF L xs (12 + v6)) 8).toInt < 8 := low_lt (by decide) (by decide)
  generalize (f_L_low (cellF L xs (12 + v6)) 8) = v14 at hl q14
  refine lv_iconst (v := 0) hx hb dL_law_367 (by decide) ?_
  refine lv_istore (lv' := [(15, .int 0), (14, .int v14), (13, .int v13), (12, .int v12), (0, .ref b), (1, .ref (adC 0)), (2, .ref (adL 0)), (3, .ref (adL 1)), (4, .ref (adL 2)), (5, .int v5), (6, .int v6), (7, .int v7), (10, .int v10)]) hx hb dL_law_368 hl (by decide) rfl (fun ls hl => ?_)
  exact (l_370 hC hnc hns q14 (fun σ' b1 b2 b3 => next σ' v12 v13 v14 b1 b2 q12 q13.1 q13.2 q14 b3) 100 0 σ hB h10 (fun j hj => absurd hj (Nat.not_lt_zero _)) (by omega) (by omega) (by omega)) h100 hdis H locs wC wL ls (lv_sub hl [4, 5, 6, 7, 8, 9, 10, 12, 3, 2, 1, 0] rfl)
