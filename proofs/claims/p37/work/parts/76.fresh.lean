/-! the law's walk: the new smell -/
set_option maxHeartbeats 8000000 in
set_option maxRecDepth 100000 in
theorem l_1105 {p : Program} {l : Launch} {e : Env} {s : State} {m : MethodId} {below : List Frame} {meth : Method} {c : Code} {D : va_G} {b L : Nat} {xs : Nat → Int32} {adC : Nat → Nat} (hC : LC p s m meth c D b L xs adC) {adL : Nat → Nat} {σ τ : St} {nc ns : Nat} (hnc : nc ≤ 1000) (hns : ns ≤ 10000) {v5 v6 v10 v17 v18 v19 v20 v21 v22 : Int32} {aN bN : Nat} (hB : Bs σ τ v5 v6) (h22 : 0 ≤ v22.toInt ∧ v22.toInt < v5.toInt) (hA : v19 / 9 = nI aN) (hBn : v19 - v19 / 9 * 9 = nI bN) (hab : aN < bN) (hb9 : bN < 9) (hu : 0 ≤ (v20 / 10).toInt ∧ (v20 / 10).toInt ≤ 9) (hv : 0 ≤ (v20 - v20 / 10 * 10).toInt ∧ (v20 - v20 / 10 * 10).toInt ≤ 9)
    (hex : LG p l e s m below meth c D b adC adL 3 σ τ nc ns 1175 [(0, .ref b), (1, .ref (adC 0)), (2, .ref (adL 0)), (3, .ref (adL 1)), (4, .ref (adL 2)), (5, .int v5), (6, .int v6), (10, .int v10), (17, .int v17), (18, .int v18), (19, .int v19), (20, .int v20), (21, .int v21), (22, .int v22), (23, .int (zq σ (ix v22) aN bN (v20 / 10) (v20 - v20 / 10 * 10)))] []) : ∀ (k : Nat) (v24 : Int32), 0 ≤ v24.toInt → v24.toInt ≤ 9 → 9 < v24.toInt + k → LG p l e s m below meth c D b adC adL 3 σ τ nc ns 1105 [(0, .ref b), (1, .ref (adC 0)), (2, .ref (adL 0)), (3, .ref (adL 1)), (4, .ref (adL 2)), (5, .int v5), (6, .int v6), (10, .int v10), (17, .int v17), (18, .int v18), (19, .int v19), (20, .int v20), (21, .int v21), (22, .int v22), (23, .int (sm (zG σ (ix v22) aN bN (v20 / 10) (v20 - v20 / 10 * 10)) (ix v24))), (24, .int v24)] [] := by
  intro k
  induction k with
  | zero => intro v24 a1 a2 a3; exact absurd a3 (by omega)
  | succ k ih =>
  intro v24 a1 a2 a3
  intro h100 hdis H locs wC wL ls hl
  obtain ⟨hL, C0, hKC⟩ := id hC
  obtain ⟨hx, hb, hr, hml, hown, hts, hX, hbl, hlocks, hgv⟩ := C0
  have hN : NW s := NW_of hts
  have S : CallFix p m c cL_law 30 s #[Value.ref b] wsL_law RL := ⟨hx, hb, hml, hown, fun w h => hts w (wsL_law_in w h)⟩
  have hbA : ¬ (fun q : Nat => s.heap.size ≤ q) b := Nat.not_le.mpr hbl
  have hKL := KL_of hKC h100
  have z0 : (0 : Int32).toInt = 0 := by decide
  have z1 : (1 : Int32).toInt = 1 := by decide
  have hR := hB.1
  have hn := hB.n
  have j24 := ix_toInt (x := v24) (by omega)
  refine lv_iload hx hb dL_law_1105 (lv_at hl 15 rfl) ?_
  refine lv_bipush (v := 9) hx hb dL_law_1107 (by decide) ?_
  refine lv_icmp_ge (tgt := 1175) hx hb dL_law_1109 (by decide) (fun c1109 => ?_) (fun c1109 => ?_)
  · have t1109 : 9 ≤ v24.toInt := qt_le c1109
    have e24 : ix v24 = 9 := by omega
    rw [e24] at hl
    exact hex h100 hdis H locs wC wL ls (lv_sub hl [0, 1, 2, 3, 4, 5, 6, 7, 8, 9, 10, 11, 12, 13, 14] rfl)
  · have t1109 : v24.toInt < 9 := qt_nle c1109
    have e1122 := a_toInt (a := 1) (b := v24) (by omega) (by omega)
    refine lv_iload hx hb dL_law_1112 (lv_at hl 14 rfl) ?_
    refine lv_aload_n hx hb dL_law_1114 rfl (lv_at hl 3 rfl) ?_
    refine lv_aload hx hb dL_law_1115 (lv_at hl 4 rfl) ?_
    refine lv_iload hx hb dL_law_1117 (lv_at hl 13 rfl) ?_
    refine lv_iconst (v := 1) hx hb dL_law_1119 (by decide) ?_
    refine lv_iload hx hb dL_law_1120 (lv_at hl 15 rfl) ?_
    refine lv_iadd hx hb dL_law_1122 ?_
    refine call0i (va_runS (As := [.ref (adL 1), .ref (adL 2), .int v22, .int (1 + v24)]) (rest := [.int (sm (zG σ (ix v22) aN bN (v20 / 10) (v20 - v20 / 10 * 10)) (ix v24))]) S (c_L_get l adL D H.size τ v22 (1 + v24) (by omega) (by omega)) (va_cwS 4 S.2.2.2.2 gL_law_L_get rfl rfl rfl hd_L_get ⟨Nat.le_of_ble_eq_true rfl, Nat.le_of_ble_eq_true rfl⟩) (preS hKL hN wL) rfl rfl hl.1 rfl (lv_room (Nat.le_of_ble_eq_true rfl)) dL_law_1123 (rm_ok hnc hns)) ?_
    refine lv_iload hx hb dL_law_1126 (lv_at hl 15 rfl) ?_
    refine lv_iload hx hb dL_law_1128 (lv_at hl 10 rfl) ?_
    refine lv_bipush (v := 9) hx hb dL_law_1130 (by decide) ?_
    refine lv_idiv hx hb dL_law_1132 (by decide) ?_
    refine lv_icmp_ne (tgt := 1144) hx hb dL_law_1133 (by decide) (fun c1133 => ?_) (fun c1133 => ?_)
    · have t1133 : v24.toInt ≠ (v19 / 9).toInt := qt_ne c1133
      refine lv_iload hx hb dL_law_1144 (lv_at hl 15 rfl) ?_
      refine lv_iload hx hb dL_law_1146 (lv_at hl 10 rfl) ?_
      refine lv_bipush (v := 9) hx hb dL_law_1148 (by decide) ?_
      refine lv_irem hx hb dL_law_1150 (by decide) ?_
      refine lv_icmp_ne (tgt := 1162) hx hb dL_law_1151 (by decide) (fun c1151 => ?_) (fun c1151 => ?_)
      · have t1151 : v24.toInt ≠ (v19 - (v19 / 9) * 9).toInt := qt_ne c1151
        have hw : 0 = if ix v24 = aN then v20 / 10 else if ix v24 = bN then v20 - v20 / 10 * 10 else 0 := by rw [if_neg (fun q => c1133 (by rw [hA, ← q]; exact nI_ix (by omega))), if_neg (fun q => c1151 (by rw [hBn, ← q]; exact nI_ix (by omega)))]
        refine lv_iconst (v := 0) hx hb dL_law_1162 (by decide) ?_
        refine call0i (va_runS (As := [.int (f_L_get τ v22 (1 + v24)), .int 0]) (rest := [.int (sm (zG σ (ix v22) aN bN (v20 / 10) (v20 - v20 / 10 * 10)) (ix v24))]) S (c_L_off l (f_L_get τ v22 (1 + v24)) 0) (va_cwS 2 S.2.2.2.2 gL_law_L_off rfl rfl rfl hd_L_off ⟨Nat.le_of_ble_eq_true rfl, Nat.le_of_ble_eq_true rfl⟩) pre0S rfl rfl hl.1 rfl (lv_room (Nat.le_of_ble_eq_true rfl)) dL_law_1163 (rm_ok hnc hns)) ?_
        have qw : (f_L_off (f_L_get τ v22 (1 + v24)) 0) = zG σ (ix v22) aN bN (v20 / 10) (v20 - v20 / 10 * 10) (ix v24) := zg1 hR (by omega) (by omega) (by omega) (by omega) hw (by omega)
        generalize (f_L_off (f_L_get τ v22 (1 + v24)) 0) = w1 at hl qw ⊢
        refine lv_iadd hx hb dL_law_1166 ?_
        refine lv_istore (lv' := [(23, .int ((sm (zG σ (ix v22) aN bN (v20 / 10) (v20 - v20 / 10 * 10)) (ix v24)) + w1)), (0, .ref b), (1, .ref (adC 0)), (2, .ref (adL 0)), (3, .ref (adL 1)), (4, .ref (adL 2)), (5, .int v5), (6, .int v6), (10, .int v10), (17, .int v17), (18, .int v18), (19, .int v19), (20, .int v20), (21, .int v21), (22, .int v22), (24, .int v24)]) hx hb dL_law_1167 hl (by decide) rfl (fun ls hl => ?_)
        refine lv_iinc (v := (v24 + 1)) (lv' := [(24, .int (v24 + 1)), (23, .int ((sm (zG σ (ix v22) aN bN (v20 / 10) (v20 - v20 / 10 * 10)) (ix v24)) + w1)), (0, .ref b), (1, .ref (adC 0)), (2, .ref (adL 0)), (3, .ref (adL 1)), (4, .ref (adL 2)), (5, .int v5), (6, .int v6), (10, .int v10), (17, .int v17), (18, .int v18), (19, .int v19), (20, .int v20), (21, .int v21), (22, .int v22)]) hx hb dL_law_1169 hl (k := 15) rfl rfl (by decide) rfl (fun ls hl => ?_)
        refine lv_goto (tgt := 1105) hx hb dL_law_1172 (by decide) ?_
        have e24 := inc_toInt (a := v24) (by omega) (by omega)
        have k24 := ix_toInt (x := v24 + 1) (by omega)
        have ei : ix (v24 + 1) = ix v24 + 1 := by omega
        have es : sm (zG σ (ix v22) aN bN (v20 / 10) (v20 - v20 / 10 * 10)) (ix v24) + zG σ (ix v22) aN bN (v20 / 10) (v20 - v20 / 10 * 10) (ix v24) = sm (zG σ (ix v22) aN bN (v20 / 10) (v20 - v20 / 10 * 10)) (ix v24 + 1) := rfl
        rw [qw, es, ← ei] at hl
        exact (ih (v24 + 1) (by omega) (by omega) (by omega)) h100 hdis H locs wC wL ls (lv_sub hl [2, 3, 4, 5, 6, 7, 8, 9, 10, 11, 12, 13, 14, 15, 1, 0] rfl)
      · have t1151 : v24.toInt = (v19 - (v19 / 9) * 9).toInt := qt_eq c1151
        have hw : v20 - v20 / 10 * 10 = if ix v24 = aN then v20 / 10 else if ix v24 = bN then v20 - v20 / 10 * 10 else 0 := by rw [if_neg (fun q => c1133 (by rw [hA, ← q]; exact nI_ix (by omega))), if_pos (by rw [c1151, hBn]; exact ix_nI (by omega))]
        refine lv_iload hx hb dL_law_1154 (lv_at hl 11 rfl) ?_
        refine lv_bipush (v := 10) hx hb dL_law_1156 (by decide) ?_
        refine lv_irem hx hb dL_law_1158 (by decide) ?_
        refine lv_goto (tgt := 1163) hx hb dL_law_1159 (by decide) ?_
        refine call0i (va_runS (As := [.int (f_L_get τ v22 (1 + v24)), .int (v20 - (v20 / 10) * 10)]) (rest := [.int (sm (zG σ (ix v22) aN bN (v20 / 10) (v20 - v20 / 10 * 10)) (ix v24))]) S (c_L_off l (f_L_get τ v22 (1 + v24)) (v20 - (v20 / 10) * 10)) (va_cwS 2 S.2.2.2.2 gL_law_L_off rfl rfl rfl hd_L_off ⟨Nat.le_of_ble_eq_true rfl, Nat.le_of_ble_eq_true rfl⟩) pre0S rfl rfl hl.1 rfl (lv_room (Nat.le_of_ble_eq_true rfl)) dL_law_1163 (rm_ok hnc hns)) ?_
        have qw : (f_L_off (f_L_get τ v22 (1 + v24)) (v20 - (v20 / 10) * 10)) = zG σ (ix v22) aN bN (v20 / 10) (v20 - v20 / 10 * 10) (ix v24) := zg1 hR (by omega) (by omega) (by omega) (by omega) hw (by omega)
        generalize (f_L_off (f_L_get τ v22 (1 + v24)) (v20 - (v20 / 10) * 10)) = w1 at hl qw ⊢
        refine lv_iadd hx hb dL_law_1166 ?_
        refine lv_istore (lv' := [(23, .int ((sm (zG σ (ix v22) aN bN (v20 / 10) (v20 - v20 / 10 * 10)) (ix v24)) + w1)), (0, .ref b), (1, .ref (adC 0)), (2, .ref (adL 0)), (3, .ref (adL 1)), (4, .ref (adL 2)), (5, .int v5), (6, .int v6), (10, .int v10), (17, .int v17), (18, .int v18), (19, .int v19), (20, .int v20), (21, .int v21), (22, .int v22), (24, .int v24)]) hx hb dL_law_1167 hl (by decide) rfl (fun ls hl => ?_)
        refine lv_iinc (v := (v24 + 1)) (lv' := [(24, .int (v24 + 1)), (23, .int ((sm (zG σ (ix v22) aN bN (v20 / 10) (v20 - v20 / 10 * 10)) (ix v24)) + w1)), (0, .ref b), (1, .ref (adC 0)), (2, .ref (adL 0)), (3, .ref (adL 1)), (4, .ref (adL 2)), (5, .int v5), (6, .int v6), (10, .int v10), (17, .int v17), (18, .int v18), (19, .int v19), (20, .int v20), (21, .int v21), (22, .int v22)]) hx hb dL_law_1169 hl (k := 15) rfl rfl (by decide) rfl (fun ls hl => ?_)
        refine lv_goto (tgt := 1105) hx hb dL_law_1172 (by decide) ?_
        have e24 := inc_toInt (a := v24) (by omega) (by omega)
        have k24 := ix_toInt (x := v24 + 1) (by omega)
        have ei : ix (v24 + 1) = ix v24 + 1 := by omega
        have es : sm (zG σ (ix v22) aN bN (v20 / 10) (v20 - v20 / 10 * 10)) (ix v24) + zG σ (ix v22) aN bN (v20 / 10) (v20 - v20 / 10 * 10) (ix v24) = sm (zG σ (ix v22) aN bN (v20 / 10) (v20 - v20 / 10 * 10)) (ix v24 + 1) := rfl
        rw [qw, es, ← ei] at hl
        exact (ih (v24 + 1) (by omega) (by omega) (by omega)) h100 hdis H locs wC wL ls (lv_sub hl [2, 3, 4, 5, 6, 7, 8, 9, 10, 11, 12, 13, 14, 15, 1, 0] rfl)
    · have t1133 : v24.toInt = (v19 / 9).toInt := qt_eq c1133
      have hw : v20 / 10 = if ix v24 = aN then v20 / 10 else if ix v24 = bN then v20 - v20 / 10 * 10 else 0 := by rw [if_pos (by rw [c1133, hA]; exact ix_nI (by omega))]
      refine lv_iload hx hb dL_law_1136 (lv_at hl 11 rfl) ?_
      refine lv_bipush (v := 10) hx hb dL_law_1138 (by decide) ?_
      refine lv_idiv hx hb dL_law_1140 (by decide) ?_
      refine lv_goto (tgt := 1163) hx hb dL_law_1141 (by decide) ?_
      refine call0i (va_runS (As := [.int (f_L_get τ v22 (1 + v24)), .int (v20 / 10)]) (rest := [.int (sm (zG σ (ix v22) aN bN (v20 / 10) (v20 - v20 / 10 * 10)) (ix v24))]) S (c_L_off l (f_L_get τ v22 (1 + v24)) (v20 / 10)) (va_cwS 2 S.2.2.2.2 gL_law_L_off rfl rfl rfl hd_L_off ⟨Nat.le_of_ble_eq_true rfl, Nat.le_of_ble_eq_true rfl⟩) pre0S rfl rfl hl.1 rfl (lv_room (Nat.le_of_ble_eq_true rfl)) dL_law_1163 (rm_ok hnc hns)) ?_
      have qw : (f_L_off (f_L_get τ v22 (1 + v24)) (v20 / 10)) = zG σ (ix v22) aN bN (v20 / 10) (v20 - v20 / 10 * 10) (ix v24) := zg1 hR (by omega) (by omega) (by omega) (by omega) hw (by omega)
      generalize (f_L_off (f_L_get τ v22 (1 + v24)) (v20 / 10)) = w1 at hl qw ⊢
      refine lv_iadd hx hb dL_law_1166 ?_
      refine lv_istore (lv' := [(23, .int ((sm (zG σ (ix v22) aN bN (v20 / 10) (v20 - v20 / 10 * 10)) (ix v24)) + w1)), (0, .ref b), (1, .ref (adC 0)), (2, .ref (adL 0)), (3, .ref (adL 1)), (4, .ref (adL 2)), (5, .int v5), (6, .int v6), (10, .int v10), (17, .int v17), (18, .int v18), (19, .int v19), (20, .int v20), (21, .int v21), (22, .int v22), (24, .int v24)]) hx hb dL_law_1167 hl (by decide) rfl (fun ls hl => ?_)
      refine lv_iinc (v := (v24 + 1)) (lv' := [(24, .int (v24 + 1)), (23, .int ((sm (zG σ (ix v22) aN bN (v20 / 10) (v20 - v20 / 10 * 10)) (ix v24)) + w1)), (0, .ref b), (1, .ref (adC 0)), (2, .ref (adL 0)), (3, .ref (adL 1)), (4, .ref (adL 2)), (5, .int v5), (6, .int v6), (10, .int v10), (17, .int v17), (18, .int v18), (19, .int v19), (20, .int v20), (21, .int v21), (22, .int v22)]) hx hb dL_law_1169 hl (k := 15) rfl rfl (by decide) rfl (fun ls hl => ?_)
      refine lv_goto (tgt := 1105) hx hb dL_law_1172 (by decide) ?_
      have e24 := inc_toInt (a := v24) (by omega) (by omega)
      have k24 := ix_toInt (x := v24 + 1) (by omega)
      have ei : ix (v24 + 1) = ix v24 + 1 := by omega
      have es : sm (zG σ (ix v22) aN bN (v20 / 10) (v20 - v20 / 10 * 10)) (ix v24) + zG σ (ix v22) aN bN (v20 / 10) (v20 - v20 / 10 * 10) (ix v24) = sm (zG σ (ix v22) aN bN (v20 / 10) (v20 - v20 / 10 * 10)) (ix v24 + 1) := rfl
      rw [qw, es, ← ei] at hl
      exact (ih (v24 + 1) (by omega) (by omega) (by omega)) h100 hdis H locs wC wL ls (lv_sub hl [2, 3, 4, 5, 6, 7, 8, 9, 10, 11, 12, 13, 14, 15, 1, 0] rfl)
set_option maxHeartbeats 8000000 in
set_option maxRecDepth 100000 in
theorem l_1092 {p : Program} {l : Launch} {e : Env} {s : State} {m : MethodId} {below : List Frame} {meth : Method} {c : Code} {D : va_G} {b L : Nat} {xs : Nat → Int32} {adC : Nat → Nat} (hC : LC p s m meth c D b L xs adC) {adL : Nat → Nat} {σ τ : St} {nc ns : Nat} (hnc : nc ≤ 1000) (hns : ns ≤ 10000) {v5 v6 v10 v17 v18 v19 v20 : Int32} {aN bN : Nat} (hB : Bs σ τ v5 v6) (hA : v19 / 9 = nI aN) (hBn : v19 - v19 / 9 * 9 = nI bN) (hab : aN < bN) (hb9 : bN < 9) (hu : 0 ≤ (v20 / 10).toInt ∧ (v20 / 10).toInt ≤ 9) (hv : 0 ≤ (v20 - v20 / 10 * 10).toInt ∧ (v20 - v20 / 10 * 10).toInt ≤ 9)
    (hex : LG p l e s m below meth c D b adC adL 3 σ τ nc ns 1197 [(0, .ref b), (1, .ref (adC 0)), (2, .ref (adL 0)), (3, .ref (adL 1)), (4, .ref (adL 2)), (5, .int v5), (6, .int v6), (10, .int v10), (17, .int v17), (18, .int v18), (19, .int v19), (20, .int v20), (21, .int (lmin (fun z => zq σ z aN bN (v20 / 10) (v20 - v20 / 10 * 10)) (ix (σ 0 4))))] []) : ∀ (k : Nat) (v22 : Int32), 0 ≤ v22.toInt → v22.toInt ≤ v5.toInt → v5.toInt < v22.toInt + k → LG p l e s m below meth c D b adC adL 3 σ τ nc ns 1092 [(0, .ref b), (1, .ref (adC 0)), (2, .ref (adL 0)), (3, .ref (adL 1)), (4, .ref (adL 2)), (5, .int v5), (6, .int v6), (10, .int v10), (17, .int v17), (18, .int v18), (19, .int v19), (20, .int v20), (21, .int (lmin (fun z => zq σ z aN bN (v20 / 10) (v20 - v20 / 10 * 10)) (ix v22))), (22, .int v22)] [] := by
  intro k
  induction k with
  | zero => intro v22 a1 a2 a3; exact absurd a3 (by omega)
  | succ k ih =>
  intro v22 a1 a2 a3
  have h1175 : v22.toInt < v5.toInt → LG p l e s m below meth c D b adC adL 3 σ τ nc ns 1175 [(0, .ref b), (1, .ref (adC 0)), (2, .ref (adL 0)), (3, .ref (adL 1)), (4, .ref (adL 2)), (5, .int v5), (6, .int v6), (10, .int v10), (17, .int v17), (18, .int v18), (19, .int v19), (20, .int v20), (21, .int (lmin (fun z => zq σ z aN bN (v20 / 10) (v20 - v20 / 10 * 10)) (ix v22))), (22, .int v22), (23, .int (zq σ (ix v22) aN bN (v20 / 10) (v20 - v20 / 10 * 10)))] [] := by
    intro hlt
    have hn := hB.n
    intro h100 hdis H locs wC wL ls hl
    obtain ⟨hL, C0, hKC⟩ := id hC
    obtain ⟨hx, hb, hr, hml, hown, hts, hX, hbl, hlocks, hgv⟩ := C0
    have hN : NW s := NW_of hts
    have S : CallFix p m c cL_law 30 s #[Value.ref b] wsL_law RL := ⟨hx, hb, hml, hown, fun w h => hts w (wsL_law_in w h)⟩
    have hbA : ¬ (fun q : Nat => s.heap.size ≤ q) b := Nat.not_le.mpr hbl
    have hKL := KL_of hKC h100
    have z0 : (0 : Int32).toInt = 0 := by decide
    have z1 : (1 : Int32).toInt = 1 := by decide
    refine lv_iload hx hb dL_law_1175 (lv_at hl 14 rfl) ?_
    refine lv_iload hx hb dL_law_1177 (lv_at hl 12 rfl) ?_
    refine lv_icmp_ge (tgt := 1187) hx hb dL_law_1179 (by decide) (fun c1179 => ?_) (fun c1179 => ?_)
    · have t1179 : (lmin (fun z => zq σ z aN bN (v20 / 10) (v20 - v20 / 10 * 10)) (ix v22)).toInt ≤ (zq σ (ix v22) aN bN (v20 / 10) (v20 - v20 / 10 * 10)).toInt := qt_le c1179
      refine lv_iload hx hb dL_law_1187 (lv_at hl 12 rfl) ?_
      refine lv_istore (lv' := [(21, .int (lmin (fun z => zq σ z aN bN (v20 / 10) (v20 - v20 / 10 * 10)) (ix v22))), (0, .ref b), (1, .ref (adC 0)), (2, .ref (adL 0)), (3, .ref (adL 1)), (4, .ref (adL 2)), (5, .int v5), (6, .int v6), (10, .int v10), (17, .int v17), (18, .int v18), (19, .int v19), (20, .int v20), (22, .int v22), (23, .int (zq σ (ix v22) aN bN (v20 / 10) (v20 - v20 / 10 * 10)))]) hx hb dL_law_1189 hl (by decide) rfl (fun ls hl => ?_)
      refine lv_iinc (v := (v22 + 1)) (lv' := [(22, .int (v22 + 1)), (21, .int (lmin (fun z => zq σ z aN bN (v20 / 10) (v20 - v20 / 10 * 10)) (ix v22))), (0, .ref b), (1, .ref (adC 0)), (2, .ref (adL 0)), (3, .ref (adL 1)), (4, .ref (adL 2)), (5, .int v5), (6, .int v6), (10, .int v10), (17, .int v17), (18, .int v18), (19, .int v19), (20, .int v20), (23, .int (zq σ (ix v22) aN bN (v20 / 10) (v20 - v20 / 10 * 10)))]) hx hb dL_law_1191 hl (k := 13) rfl rfl (by decide) rfl (fun ls hl => ?_)
      refine lv_goto (tgt := 1092) hx hb dL_law_1194 (by decide) ?_
      have e22 := inc_toInt (a := v22) (by omega) (by omega)
      have k22 := ix_toInt (x := v22 + 1) (by omega)
      have j22 := ix_toInt (x := v22) (by omega)
      have ei : ix (v22 + 1) = ix v22 + 1 := by omega
      have es : lmin (fun z => zq σ z aN bN (v20 / 10) (v20 - v20 / 10 * 10)) (ix v22 + 1) = (if zq σ (ix v22) aN bN (v20 / 10) (v20 - v20 / 10 * 10) < (lmin (fun z => zq σ z aN bN (v20 / 10) (v20 - v20 / 10 * 10)) (ix v22)) then zq σ (ix v22) aN bN (v20 / 10) (v20 - v20 / 10 * 10) else (lmin (fun z => zq σ z aN bN (v20 / 10) (v20 - v20 / 10 * 10)) (ix v22))) := rfl
      rw [if_neg (fun q => by have q1 := qt_lt q; have q2 := qt_le c1179; omega)] at es
      rw [← es, ← ei] at hl
      exact (ih (v22 + 1) (by omega) (by omega) (by omega)) h100 hdis H locs wC wL ls (lv_sub hl [2, 3, 4, 5, 6, 7, 8, 9, 10, 11, 12, 13, 1, 0] rfl)
    · have t1179 : (zq σ (ix v22) aN bN (v20 / 10) (v20 - v20 / 10 * 10)).toInt < (lmin (fun z => zq σ z aN bN (v20 / 10) (v20 - v20 / 10 * 10)) (ix v22)).toInt := qt_nle c1179
      refine lv_iload hx hb dL_law_1182 (lv_at hl 14 rfl) ?_
      refine lv_goto (tgt := 1189) hx hb dL_law_1184 (by decide) ?_
      refine lv_istore (lv' := [(21, .int (zq σ (ix v22) aN bN (v20 / 10) (v20 - v20 / 10 * 10))), (0, .ref b), (1, .ref (adC 0)), (2, .ref (adL 0)), (3, .ref (adL 1)), (4, .ref (adL 2)), (5, .int v5), (6, .int v6), (10, .int v10), (17, .int v17), (18, .int v18), (19, .int v19), (20, .int v20), (22, .int v22), (23, .int (zq σ (ix v22) aN bN (v20 / 10) (v20 - v20 / 10 * 10)))]) hx hb dL_law_1189 hl (by decide) rfl (fun ls hl => ?_)
      refine lv_iinc (v := (v22 + 1)) (lv' := [(22, .int (v22 + 1)), (21, .int (zq σ (ix v22) aN bN (v20 / 10) (v20 - v20 / 10 * 10))), (0, .ref b), (1, .ref (adC 0)), (2, .ref (adL 0)), (3, .ref (adL 1)), (4, .ref (adL 2)), (5, .int v5), (6, .int v6), (10, .int v10), (17, .int v17), (18, .int v18), (19, .int v19), (20, .int v20), (23, .int (zq σ (ix v22) aN bN (v20 / 10) (v20 - v20 / 10 * 10)))]) hx hb dL_law_1191 hl (k := 13) rfl rfl (by decide) rfl (fun ls hl => ?_)
      refine lv_goto (tgt := 1092) hx hb dL_law_1194 (by decide) ?_
      have e22 := inc_toInt (a := v22) (by omega) (by omega)
      have k22 := ix_toInt (x := v22 + 1) (by omega)
      have j22 := ix_toInt (x := v22) (by omega)
      have ei : ix (v22 + 1) = ix v22 + 1 := by omega
      have es : lmin (fun z => zq σ z aN bN (v20 / 10) (v20 - v20 / 10 * 10)) (ix v22 + 1) = (if zq σ (ix v22) aN bN (v20 / 10) (v20 - v20 / 10 * 10) < (lmin (fun z => zq σ z aN bN (v20 / 10) (v20 - v20 / 10 * 10)) (ix v22)) then zq σ (ix v22) aN bN (v20 / 10) (v20 - v20 / 10 * 10) else (lmin (fun z => zq σ z aN bN (v20 / 10) (v20 - v20 / 10 * 10)) (ix v22))) := rfl
      rw [if_pos (qm_lt (qt_nle c1179))] at es
      rw [← es, ← ei] at hl
      exact (ih (v22 + 1) (by omega) (by omega) (by omega)) h100 hdis H locs wC wL ls (lv_sub hl [2, 3, 4, 5, 6, 7, 8, 9, 10, 11, 12, 13, 1, 0] rfl)
  intro h100 hdis H locs wC wL ls hl
  obtain ⟨hL, C0, hKC⟩ := id hC
  obtain ⟨hx, hb, hr, hml, hown, hts, hX, hbl, hlocks, hgv⟩ := C0
  have hN : NW s := NW_of hts
  have S : CallFix p m c cL_law 30 s #[Value.ref b] wsL_law RL := ⟨hx, hb, hml, hown, fun w h => hts w (wsL_law_in w h)⟩
  have hbA : ¬ (fun q : Nat => s.heap.size ≤ q) b := Nat.not_le.mpr hbl
  have hKL := KL_of hKC h100
  have z0 : (0 : Int32).toInt = 0 := by decide
  have z1 : (1 : Int32).toInt = 1 := by decide
  have hn := hB.n
  refine lv_iload hx hb dL_law_1092 (lv_at hl 13 rfl) ?_
  refine lv_iload hx hb dL_law_1094 (lv_at hl 5 rfl) ?_
  refine lv_icmp_ge (tgt := 1197) hx hb dL_law_1096 (by decide) (fun c1096 => ?_) (fun c1096 => ?_)
  · have t1096 : v5.toInt ≤ v22.toInt := qt_le c1096
    have e22 : ix v22 = (ix (σ 0 4)) := by rw [← hB.2.1]; exact congrArg ix (qm_eq (by omega))
    rw [e22] at hl
    exact hex h100 hdis H locs wC wL ls (lv_sub hl [0, 1, 2, 3, 4, 5, 6, 7, 8, 9, 10, 11, 12] rfl)
  · have t1096 : v22.toInt < v5.toInt := qt_nle c1096
    refine lv_iconst (v := 0) hx hb dL_law_1099 (by decide) ?_
    refine lv_istore (lv' := [(23, .int 0), (0, .ref b), (1, .ref (adC 0)), (2, .ref (adL 0)), (3, .ref (adL 1)), (4, .ref (adL 2)), (5, .int v5), (6, .int v6), (10, .int v10), (17, .int v17), (18, .int v18), (19, .int v19), (20, .int v20), (21, .int (lmin (fun z => zq σ z aN bN (v20 / 10) (v20 - v20 / 10 * 10)) (ix v22))), (22, .int v22)]) hx hb dL_law_1100 hl (by decide) rfl (fun ls hl => ?_)
    refine lv_iconst (v := 0) hx hb dL_law_1102 (by decide) ?_
    refine lv_istore (lv' := [(24, .int 0), (23, .int 0), (0, .ref b), (1, .ref (adC 0)), (2, .ref (adL 0)), (3, .ref (adL 1)), (4, .ref (adL 2)), (5, .int v5), (6, .int v6), (10, .int v10), (17, .int v17), (18, .int v18), (19, .int v19), (20, .int v20), (21, .int (lmin (fun z => zq σ z aN bN (v20 / 10) (v20 - v20 / 10 * 10)) (ix v22))), (22, .int v22)]) hx hb dL_law_1103 hl (by decide) rfl (fun ls hl => ?_)
    have e0 : sm (zG σ (ix v22) aN bN (v20 / 10) (v20 - v20 / 10 * 10)) (ix 0) = 0 := rfl
    refine l_1105 hC hnc hns hB ⟨by omega, by omega⟩ hA hBn hab hb9 hu hv (h1175 (by omega)) 100 0 (by decide) (by decide) (by decide) h100 hdis H locs wC wL ls ?_
    rw [e0]
    exact lv_sub hl [2, 3, 4, 5, 6, 7, 8, 9, 10, 11, 12, 13, 14, 15, 1, 0] rfl
set_option maxHeartbeats 8000000 in
set_option maxRecDepth 100000 in
theorem l_1066 {p : Program} {l : Launch} {e : Env} {s : State} {m : MethodId} {below : List Frame} {meth : Method} {c : Code} {D : va_G} {b L : Nat} {xs : Nat → Int32} {adC : Nat → Nat} (hC : LC p s m meth c D b L xs adC) {adL : Nat → Nat} {σ τ : St} {nc ns : Nat} (hnc : nc ≤ 1000) (hns : ns ≤ 10000) {v5 v6 v10 v19 : Int32} (hB : Bs σ τ v5 v6) (h19 : 0 ≤ v19.toInt ∧ v19.toInt ≤ 80)
    (hex : ∀ v17 v18 : Int32, FD σ (100 * ix v19) v17 v18 → LG p l e s m below meth c D b adC adL 3 σ τ nc ns 1241 [(0, .ref b), (1, .ref (adC 0)), (2, .ref (adL 0)), (3, .ref (adL 1)), (4, .ref (adL 2)), (5, .int v5), (6, .int v6), (10, .int v10), (17, .int v17), (18, .int v18), (19, .int v19)] []) : ∀ (k : Nat) (v17 v18 v20 : Int32), -1 ≤ v20.toInt → v20.toInt ≤ 99 → FD σ (100 * ix v19 + (v20.toInt + 1).toNat) v17 v18 → (v20.toInt + 1).toNat < k → LG p l e s m below meth c D b adC adL 3 σ τ nc ns 1066 [(0, .ref b), (1, .ref (adC 0)), (2, .ref (adL 0)), (3, .ref (adL 1)), (4, .ref (adL 2)), (5, .int v5), (6, .int v6), (10, .int v10), (17, .int v17), (18, .int v18), (19, .int v19), (20, .int v20)] [] := by
  intro k
  induction k with
  | zero => intro v17 v18 v20 a1 a2 b1 a3; exact absurd a3 (Nat.not_lt_zero _)
  | succ k ih =>
  intro v17 v18 v20 a1 a2 hFD a3
  have j19 := ix_toInt (x := v19) (by omega)
  have cd := code_d h19.1 h19.2
  have hA := cd.1
  have hBn := cd.2.1
  have h1197 : 0 ≤ v20.toInt → ix v19 / 9 < ix v19 % 9 → LG p l e s m below meth c D b adC adL 3 σ τ nc ns 1197 [(0, .ref b), (1, .ref (adC 0)), (2, .ref (adL 0)), (3, .ref (adL 1)), (4, .ref (adL 2)), (5, .int v5), (6, .int v6), (10, .int v10), (17, .int v17), (18, .int v18), (19, .int v19), (20, .int v20), (21, .int (lmin (fun z => zq σ z (ix v19 / 9) (ix v19 % 9) (v20 / 10) (v20 - v20 / 10 * 10)) (ix (σ 0 4))))] [] := by
    intro h20 hlt
    have hR := hB.1
    have d20 := dn (v := v20) h20
    have e20 := d20.1
    have t1 := d20.2.1
    have t0 := d20.2.2.1
    have j20 := d20.2.2.2.2.1
    rw [t0] at hFD a3
    have ce := code_e hR h19.1 h19.2 h20 a2 hlt
    have hV := ce.1
    have hD := FD_step (t := 100 * ix v19 + ix v20) hR hFD hV
    have ec := ce.2.1
    have ev := ce.2.2
    intro h100 hdis H locs wC wL ls hl
    rw [ev] at hl
    generalize vl σ (100 * ix v19 + ix v20) = v21 at hl hD
    revert ls
    revert wL
    revert wC
    revert locs
    revert H
    revert hdis
    revert h100
    show LG p l e s m below meth c D b adC adL 3 σ τ nc ns 1197 [(0, .ref b), (1, .ref (adC 0)), (2, .ref (adL 0)), (3, .ref (adL 1)), (4, .ref (adL 2)), (5, .int v5), (6, .int v6), (10, .int v10), (17, .int v17), (18, .int v18), (19, .int v19), (20, .int v20), (21, .int v21)] []
    intro h100 hdis H locs wC wL ls hl
    obtain ⟨hL, C0, hKC⟩ := id hC
    obtain ⟨hx, hb, hr, hml, hown, hts, hX, hbl, hlocks, hgv⟩ := C0
    have hN : NW s := NW_of hts
    have S : CallFix p m c cL_law 30 s #[Value.ref b] wsL_law RL := ⟨hx, hb, hml, hown, fun w h => hts w (wsL_law_in w h)⟩
    have hbA : ¬ (fun q : Nat => s.heap.size ≤ q) b := Nat.not_le.mpr hbl
    have hKL := KL_of hKC h100
    have z0 : (0 : Int32).toInt = 0 := by decide
    have z1 : (1 : Int32).toInt = 1 := by decide
    refine lv_iload hx hb dL_law_1197 (lv_at hl 12 rfl) ?_
    refine lv_iload hx hb dL_law_1199 (lv_at hl 8 rfl) ?_
    refine lv_icmp_lt (tgt := 1215) hx hb dL_law_1201 (by decide) (fun c1201 => ?_) (fun c1201 => ?_)
    · have t1201 : v21.toInt < v17.toInt := qt_lt c1201
      rw [if_neg (show ¬ v17 ≤ v21 from fun q => by have q1 := qt_le q; have q2 := qt_lt c1201; omega)] at hD
      refine lv_iload hx hb dL_law_1215 (lv_at hl 9 rfl) ?_
      refine lv_istore (lv' := [(18, .int v18), (0, .ref b), (1, .ref (adC 0)), (2, .ref (adL 0)), (3, .ref (adL 1)), (4, .ref (adL 2)), (5, .int v5), (6, .int v6), (10, .int v10), (17, .int v17), (19, .int v19), (20, .int v20), (21, .int v21)]) hx hb dL_law_1217 hl (by decide) rfl (fun ls hl => ?_)
      refine lv_iload hx hb dL_law_1219 (lv_at hl 12 rfl) ?_
      refine lv_iload hx hb dL_law_1221 (lv_at hl 9 rfl) ?_
      refine lv_icmp_le (tgt := 1231) hx hb dL_law_1223 (by decide) (fun c1223 => ?_) (fun c1223 => ?_)
      · have t1223 : v21.toInt ≤ v17.toInt := qt_le c1223
        rw [if_neg (show ¬ v17 < v21 from fun q => by have q1 := qt_lt q; have q2 := qt_le c1223; omega)] at hD
        refine lv_iload hx hb dL_law_1231 (lv_at hl 9 rfl) ?_
        refine lv_istore (lv' := [(17, .int v17), (18, .int v18), (0, .ref b), (1, .ref (adC 0)), (2, .ref (adL 0)), (3, .ref (adL 1)), (4, .ref (adL 2)), (5, .int v5), (6, .int v6), (10, .int v10), (19, .int v19), (20, .int v20), (21, .int v21)]) hx hb dL_law_1233 hl (by decide) rfl (fun ls hl => ?_)
        refine lv_iinc (v := (v20 + (-1))) (lv' := [(20, .int (v20 + (-1))), (17, .int v17), (18, .int v18), (0, .ref b), (1, .ref (adC 0)), (2, .ref (adL 0)), (3, .ref (adL 1)), (4, .ref (adL 2)), (5, .int v5), (6, .int v6), (10, .int v10), (19, .int v19), (21, .int v21)]) hx hb dL_law_1235 hl (k := 11) rfl rfl (by decide) rfl (fun ls hl => ?_)
        refine lv_goto (tgt := 1066) hx hb dL_law_1238 (by decide) ?_
        exact (ih v17 v18 (v20 + (-1)) d20.2.2.2.2.2.1 (Int.le_trans d20.2.2.2.2.2.2 a2) (by rw [t1]; exact hD) (by rw [t1]; exact ar3 a3)) h100 hdis H locs wC wL ls (lv_sub hl [3, 4, 5, 6, 7, 8, 9, 10, 1, 2, 11, 0] rfl)
      · have t1223 : v17.toInt < v21.toInt := qt_nle c1223
        rw [if_pos (show v17 < v21 from qm_lt (qt_nle c1223))] at hD
        refine lv_iload hx hb dL_law_1226 (lv_at hl 12 rfl) ?_
        refine lv_goto (tgt := 1233) hx hb dL_law_1228 (by decide) ?_
        refine lv_istore (lv' := [(17, .int v21), (18, .int v18), (0, .ref b), (1, .ref (adC 0)), (2, .ref (adL 0)), (3, .ref (adL 1)), (4, .ref (adL 2)), (5, .int v5), (6, .int v6), (10, .int v10), (19, .int v19), (20, .int v20), (21, .int v21)]) hx hb dL_law_1233 hl (by decide) rfl (fun ls hl => ?_)
        refine lv_iinc (v := (v20 + (-1))) (lv' := [(20, .int (v20 + (-1))), (17, .int v21), (18, .int v18), (0, .ref b), (1, .ref (adC 0)), (2, .ref (adL 0)), (3, .ref (adL 1)), (4, .ref (adL 2)), (5, .int v5), (6, .int v6), (10, .int v10), (19, .int v19), (21, .int v21)]) hx hb dL_law_1235 hl (k := 11) rfl rfl (by decide) rfl (fun ls hl => ?_)
        refine lv_goto (tgt := 1066) hx hb dL_law_1238 (by decide) ?_
        exact (ih v21 v18 (v20 + (-1)) d20.2.2.2.2.2.1 (Int.le_trans d20.2.2.2.2.2.2 a2) (by rw [t1]; exact hD) (by rw [t1]; exact ar3 a3)) h100 hdis H locs wC wL ls (lv_sub hl [3, 4, 5, 6, 7, 8, 9, 10, 1, 2, 11, 0] rfl)
    · have t1201 : v17.toInt ≤ v21.toInt := qt_nlt c1201
      rw [if_pos (show v17 ≤ v21 from qm_le (qt_nlt c1201)), ec] at hD
      refine lv_bipush (v := 100) hx hb dL_law_1204 (by decide) ?_
      refine lv_iload hx hb dL_law_1206 (lv_at hl 10 rfl) ?_
      refine lv_imul hx hb dL_law_1208 ?_
      refine lv_iload hx hb dL_law_1209 (lv_at hl 11 rfl) ?_
      refine lv_iadd hx hb dL_law_1211 ?_
      refine lv_goto (tgt := 1217) hx hb dL_law_1212 (by decide) ?_
      refine lv_istore (lv' := [(18, .int ((100 * v19) + v20)), (0, .ref b), (1, .ref (adC 0)), (2, .ref (adL 0)), (3, .ref (adL 1)), (4, .ref (adL 2)), (5, .int v5), (6, .int v6), (10, .int v10), (17, .int v17), (19, .int v19), (20, .int v20), (21, .int v21)]) hx hb dL_law_1217 hl (by decide) rfl (fun ls hl => ?_)
      refine lv_iload hx hb dL_law_1219 (lv_at hl 12 rfl) ?_
      refine lv_iload hx hb dL_law_1221 (lv_at hl 9 rfl) ?_
      refine lv_icmp_le (tgt := 1231) hx hb dL_law_1223 (by decide) (fun c1223 => ?_) (fun c1223 => ?_)
      · have t1223 : v21.toInt ≤ v17.toInt := qt_le c1223
        rw [if_neg (show ¬ v17 < v21 from fun q => by have q1 := qt_lt q; have q2 := qt_le c1223; omega)] at hD
        refine lv_iload hx hb dL_law_1231 (lv_at hl 9 rfl) ?_
        refine lv_istore (lv' := [(17, .int v17), (18, .int ((100 * v19) + v20)), (0, .ref b), (1, .ref (adC 0)), (2, .ref (adL 0)), (3, .ref (adL 1)), (4, .ref (adL 2)), (5, .int v5), (6, .int v6), (10, .int v10), (19, .int v19), (20, .int v20), (21, .int v21)]) hx hb dL_law_1233 hl (by decide) rfl (fun ls hl => ?_)
        refine lv_iinc (v := (v20 + (-1))) (lv' := [(20, .int (v20 + (-1))), (17, .int v17), (18, .int ((100 * v19) + v20)), (0, .ref b), (1, .ref (adC 0)), (2, .ref (adL 0)), (3, .ref (adL 1)), (4, .ref (adL 2)), (5, .int v5), (6, .int v6), (10, .int v10), (19, .int v19), (21, .int v21)]) hx hb dL_law_1235 hl (k := 11) rfl rfl (by decide) rfl (fun ls hl => ?_)
        refine lv_goto (tgt := 1066) hx hb dL_law_1238 (by decide) ?_
        exact (ih v17 ((100 * v19) + v20) (v20 + (-1)) d20.2.2.2.2.2.1 (Int.le_trans d20.2.2.2.2.2.2 a2) (by rw [t1]; exact hD) (by rw [t1]; exact ar3 a3)) h100 hdis H locs wC wL ls (lv_sub hl [3, 4, 5, 6, 7, 8, 9, 10, 1, 2, 11, 0] rfl)
      · have t1223 : v17.toInt < v21.toInt := qt_nle c1223
        rw [if_pos (show v17 < v21 from qm_lt (qt_nle c1223))] at hD
        refine lv_iload hx hb dL_law_1226 (lv_at hl 12 rfl) ?_
        refine lv_goto (tgt := 1233) hx hb dL_law_1228 (by decide) ?_
        refine lv_istore (lv' := [(17, .int v21), (18, .int ((100 * v19) + v20)), (0, .ref b), (1, .ref (adC 0)), (2, .ref (adL 0)), (3, .ref (adL 1)), (4, .ref (adL 2)), (5, .int v5), (6, .int v6), (10, .int v10), (19, .int v19), (20, .int v20), (21, .int v21)]) hx hb dL_law_1233 hl (by decide) rfl (fun ls hl => ?_)
        refine lv_iinc (v := (v20 + (-1))) (lv' := [(20, .int (v20 + (-1))), (17, .int v21), (18, .int ((100 * v19) + v20)), (0, .ref b), (1, .ref (adC 0)), (2, .ref (adL 0)), (3, .ref (adL 1)), (4, .ref (adL 2)), (5, .int v5), (6, .int v6), (10, .int v10), (19, .int v19), (21, .int v21)]) hx hb dL_law_1235 hl (k := 11) rfl rfl (by decide) rfl (fun ls hl => ?_)
        refine lv_goto (tgt := 1066) hx hb dL_law_1238 (by decide) ?_
        exact (ih v21 ((100 * v19) + v20) (v20 + (-1)) d20.2.2.2.2.2.1 (Int.le_trans d20.2.2.2.2.2.2 a2) (by rw [t1]; exact hD) (by rw [t1]; exact ar3 a3)) h100 hdis H locs wC wL ls (lv_sub hl [3, 4, 5, 6, 7, 8, 9, 10, 1, 2, 11, 0] rfl)
  intro h100 hdis H locs wC wL ls hl
  obtain ⟨hL, C0, hKC⟩ := id hC
  obtain ⟨hx, hb, hr, hml, hown, hts, hX, hbl, hlocks, hgv⟩ := C0
  have hN : NW s := NW_of hts
  have S : CallFix p m c cL_law 30 s #[Value.ref b] wsL_law RL := ⟨hx, hb, hml, hown, fun w h => hts w (wsL_law_in w h)⟩
  have hbA : ¬ (fun q : Nat => s.heap.size ≤ q) b := Nat.not_le.mpr hbl
  have hKL := KL_of hKC h100
  have z0 : (0 : Int32).toInt = 0 := by decide
  have z1 : (1 : Int32).toInt = 1 := by decide
  refine lv_iload hx hb dL_law_1066 (lv_at hl 11 rfl) ?_
  refine lv_if_lt (tgt := 1241) hx hb dL_law_1068 (by decide) (fun c1068 => ?_) (fun c1068 => ?_)
  · have t1068 : v20.toInt < 0 := qt_lt c1068
    have hcase : (v20.toInt + 1).toNat = 0 ∨ ix v19 % 9 ≤ ix v19 / 9 := Or.inl (dn1 a1 t1068)
    have t2 := FD_row hFD (w100 a2) hcase
    exact (hex v17 v18 t2) h100 hdis H locs wC wL ls (lv_sub hl [0, 1, 2, 3, 4, 5, 6, 7, 8, 9, 10] rfl)
  · have t1068 : 0 ≤ v20.toInt := qt_nlt c1068
    refine lv_iload hx hb dL_law_1071 (lv_at hl 10 rfl) ?_
    refine lv_bipush (v := 9) hx hb dL_law_1073 (by decide) ?_
    refine lv_idiv hx hb dL_law_1075 (by decide) ?_
    refine lv_iload hx hb dL_law_1076 (lv_at hl 10 rfl) ?_
    refine lv_bipush (v := 9) hx hb dL_law_1078 (by decide) ?_
    refine lv_irem hx hb dL_law_1080 (by decide) ?_
    refine lv_icmp_ge (tgt := 1241) hx hb dL_law_1081 (by decide) (fun c1081 => ?_) (fun c1081 => ?_)
    · have t1081 : (v19 - (v19 / 9) * 9).toInt ≤ (v19 / 9).toInt := qt_le c1081
      have hcase : (v20.toInt + 1).toNat = 0 ∨ ix v19 % 9 ≤ ix v19 / 9 := Or.inr (Int.ofNat_le.mp (by rw [← cd.2.2.2.2.1, ← cd.2.2.2.2.2]; exact t1081))
      have t2 := FD_row hFD (w100 a2) hcase
      exact (hex v17 v18 t2) h100 hdis H locs wC wL ls (lv_sub hl [0, 1, 2, 3, 4, 5, 6, 7, 8, 9, 10] rfl)
    · have t1081 : (v19 / 9).toInt < (v19 - (v19 / 9) * 9).toInt := qt_nle c1081
      have hlt : ix v19 / 9 < ix v19 % 9 := Int.ofNat_lt.mp (by rw [← cd.2.2.2.2.1, ← cd.2.2.2.2.2]; exact t1081)
      refine lv_sipush (v := 9999) hx hb dL_law_1084 (by decide) ?_
      refine lv_istore (lv' := [(21, .int 9999), (0, .ref b), (1, .ref (adC 0)), (2, .ref (adL 0)), (3, .ref (adL 1)), (4, .ref (adL 2)), (5, .int v5), (6, .int v6), (10, .int v10), (17, .int v17), (18, .int v18), (19, .int v19), (20, .int v20)]) hx hb dL_law_1087 hl (by decide) rfl (fun ls hl => ?_)
      refine lv_iconst (v := 0) hx hb dL_law_1089 (by decide) ?_
      refine lv_istore (lv' := [(22, .int 0), (21, .int 9999), (0, .ref b), (1, .ref (adC 0)), (2, .ref (adL 0)), (3, .ref (adL 1)), (4, .ref (adL 2)), (5, .int v5), (6, .int v6), (10, .int v10), (17, .int v17), (18, .int v18), (19, .int v19), (20, .int v20)]) hx hb dL_law_1090 hl (by decide) rfl (fun ls hl => ?_)
      have cw := code_w (w := v20) t1068 a2
      have hn := hB.n
      have e0 : lmin (fun z => zq σ z (ix v19 / 9) (ix v19 % 9) (v20 / 10) (v20 - v20 / 10 * 10)) (ix 0) = 9999 := rfl
      refine l_1092 (aN := ix v19 / 9) (bN := ix v19 % 9) hC hnc hns hB hA hBn hlt cd.2.2.2.1 cw.1 cw.2 (h1197 t1068 hlt) 100 0 (by decide) (by rw [z0]; exact Int.le_trans (by decide) hn.2.1) (by rw [z0]; exact Int.lt_of_le_of_lt hn.2.2 (by decide)) h100 hdis H locs wC wL ls ?_
      rw [e0]
      exact lv_sub hl [2, 3, 4, 5, 6, 7, 8, 9, 10, 11, 12, 13, 1, 0] rfl
set_option maxHeartbeats 8000000 in
set_option maxRecDepth 100000 in
theorem l_1057 {p : Program} {l : Launch} {e : Env} {s : State} {m : MethodId} {below : List Frame} {meth : Method} {c : Code} {D : va_G} {b L : Nat} {xs : Nat → Int32} {adC : Nat → Nat} (hC : LC p s m meth c D b L xs adC) {adL : Nat → Nat} {σ τ : St} {nc ns : Nat} (hnc : nc ≤ 1000) (hns : ns ≤ 10000) {v5 v6 v10 : Int32} (hB : Bs σ τ v5 v6)
    (hex : ∀ v17 v18 : Int32, FD σ 0 v17 v18 → LG p l e s m below meth c D b adC adL 3 σ τ nc ns 1247 [(0, .ref b), (1, .ref (adC 0)), (2, .ref (adL 0)), (3, .ref (adL 1)), (4, .ref (adL 2)), (5, .int v5), (6, .int v6), (10, .int v10), (17, .int v17), (18, .int v18)] []) : ∀ (k : Nat) (v17 v18 v19 : Int32), -1 ≤ v19.toInt → v19.toInt ≤ 80 → FD σ (100 * (v19.toInt + 1).toNat) v17 v18 → (v19.toInt + 1).toNat < k → LG p l e s m below meth c D b adC adL 3 σ τ nc ns 1057 [(0, .ref b), (1, .ref (adC 0)), (2, .ref (adL 0)), (3, .ref (adL 1)), (4, .ref (adL 2)), (5, .int v5), (6, .int v6), (10, .int v10), (17, .int v17), (18, .int v18), (19, .int v19)] [] := by
  intro k
  induction k with
  | zero => intro v17 v18 v19 a1 a2 b1 a3; exact absurd a3 (Nat.not_lt_zero _)
  | succ k ih =>
  intro v17 v18 v19 a1 a2 hFD a3
  have h1241 : 0 ≤ v19.toInt → ∀ v17 v18 : Int32, FD σ (100 * ix v19) v17 v18 → LG p l e s m below meth c D b adC adL 3 σ τ nc ns 1241 [(0, .ref b), (1, .ref (adC 0)), (2, .ref (adL 0)), (3, .ref (adL 1)), (4, .ref (adL 2)), (5, .int v5), (6, .int v6), (10, .int v10), (17, .int v17), (18, .int v18), (19, .int v19)] [] := by
    intro h19 v17 v18 hD
    have d19 := dn (v := v19) h19
    have e19 := d19.1
    have t1 := d19.2.1
    have j19 := d19.2.2.2.2.1
    rw [d19.2.2.1] at a3
    intro h100 hdis H locs wC wL ls hl
    obtain ⟨hL, C0, hKC⟩ := id hC
    obtain ⟨hx, hb, hr, hml, hown, hts, hX, hbl, hlocks, hgv⟩ := C0
    have hN : NW s := NW_of hts
    have S : CallFix p m c cL_law 30 s #[Value.ref b] wsL_law RL := ⟨hx, hb, hml, hown, fun w h => hts w (wsL_law_in w h)⟩
    have hbA : ¬ (fun q : Nat => s.heap.size ≤ q) b := Nat.not_le.mpr hbl
    have hKL := KL_of hKC h100
    have z0 : (0 : Int32).toInt = 0 := by decide
    have z1 : (1 : Int32).toInt = 1 := by decide
    refine lv_iinc (v := (v19 + (-1))) (lv' := [(19, .int (v19 + (-1))), (0, .ref b), (1, .ref (adC 0)), (2, .ref (adL 0)), (3, .ref (adL 1)), (4, .ref (adL 2)), (5, .int v5), (6, .int v6), (10, .int v10), (17, .int v17), (18, .int v18)]) hx hb dL_law_1241 hl (k := 10) rfl rfl (by decide) rfl (fun ls hl => ?_)
    refine lv_goto (tgt := 1057) hx hb dL_law_1244 (by decide) ?_
    exact (ih v17 v18 (v19 + (-1)) d19.2.2.2.2.2.1 (Int.le_trans d19.2.2.2.2.2.2 a2) (by rw [t1]; exact hD) (by rw [t1]; exact ar3 a3)) h100 hdis H locs wC wL ls (lv_sub hl [1, 2, 3, 4, 5, 6, 7, 8, 9, 10, 0] rfl)
  intro h100 hdis H locs wC wL ls hl
  obtain ⟨hL, C0, hKC⟩ := id hC
  obtain ⟨hx, hb, hr, hml, hown, hts, hX, hbl, hlocks, hgv⟩ := C0
  have hN : NW s := NW_of hts
  have S : CallFix p m c cL_law 30 s #[Value.ref b] wsL_law RL := ⟨hx, hb, hml, hown, fun w h => hts w (wsL_law_in w h)⟩
  have hbA : ¬ (fun q : Nat => s.heap.size ≤ q) b := Nat.not_le.mpr hbl
  have hKL := KL_of hKC h100
  have z0 : (0 : Int32).toInt = 0 := by decide
  have z1 : (1 : Int32).toInt = 1 := by decide
  refine lv_iload hx hb dL_law_1057 (lv_at hl 10 rfl) ?_
  refine lv_if_lt (tgt := 1247) hx hb dL_law_1059 (by decide) (fun c1059 => ?_) (fun c1059 => ?_)
  · have t1059 : v19.toInt < 0 := qt_lt c1059
    have t0 := dn1 (v := v19) (by omega) (by omega)
    rw [t0] at hFD
    exact (hex v17 v18 hFD) h100 hdis H locs wC wL ls (lv_sub hl [0, 1, 2, 3, 4, 5, 6, 7, 8, 9] rfl)
  · have t1059 : 0 ≤ v19.toInt := qt_nlt c1059
    refine lv_bipush (v := 99) hx hb dL_law_1062 (by decide) ?_
    refine lv_istore (lv' := [(20, .int 99), (0, .ref b), (1, .ref (adC 0)), (2, .ref (adL 0)), (3, .ref (adL 1)), (4, .ref (adL 2)), (5, .int v5), (6, .int v6), (10, .int v10), (17, .int v17), (18, .int v18), (19, .int v19)]) hx hb dL_law_1064 hl (by decide) rfl (fun ls hl => ?_)
    have j19 := ix_toInt (x := v19) (by omega)
    have z99 : (99 : Int32).toInt = 99 := by decide
    have d19 := dn (v := v19) (by omega)
    have t99 : ((99 : Int32).toInt + 1).toNat = 100 := by decide
    have t2 : 100 * (v19.toInt + 1).toNat = 100 * ix v19 + ((99 : Int32).toInt + 1).toNat := by rw [d19.2.2.1, t99]; omega
    rw [t2] at hFD
    exact (l_1066 hC hnc hns hB ⟨by omega, by omega⟩ (h1241 (by omega)) 200 v17 v18 99 (by decide) (by decide) hFD (by decide)) h100 hdis H locs wC wL ls (lv_sub hl [1, 2, 3, 4, 5, 6, 7, 8, 9, 10, 11, 0] rfl)
set_option maxHeartbeats 8000000 in
set_option maxRecDepth 100000 in
theorem s_fresh {p : Program} {l : Launch} {e : Env} {s : State} {m : MethodId} {below : List Frame} {meth : Method} {c : Code} {D : va_G} {b L : Nat} {xs : Nat → Int32} {adC : Nat → Nat} (hC : LC p s m meth c D b L xs adC) {adL : Nat → Nat} {σ τ : St} {nc ns : Nat} (hnc : nc ≤ 1000) (hns : ns ≤ 10000) {v5 v6 v10 : Int32} (hB : Bs σ τ v5 v6) (h10 : v10 = σ 0 7)
    (next : ∀ σ' : St, Br σ' τ v5 v6 → v10 = σ' 0 7 → LG p l e s m below meth c D b adC adL 3 σ' τ nc ns 1328 [(0, .ref b), (1, .ref (adC 0)), (2, .ref (adL 0)), (3, .ref (adL 1)), (4, .ref (adL 2)), (5, .int v5), (6, .int v6), (10, .int v10)] []) : LG p l e s m below meth c D b adC adL 3 σ τ nc ns 1042 [(0, .ref b), (1, .ref (adC 0)), (2, .ref (adL 0)), (3, .ref (adL 1)), (4, .ref (adL 2)), (5, .int v5), (6, .int v6), (10, .int v10)] [] := by
  by_cases h6 : v6 = 0
  case neg =>
    intro h100 hdis H locs wC wL ls hl
    obtain ⟨hL, C0, hKC⟩ := id hC
    obtain ⟨hx, hb, hr, hml, hown, hts, hX, hbl, hlocks, hgv⟩ := C0
    have hN : NW s := NW_of hts
    have S : CallFix p m c cL_law 30 s #[Value.ref b] wsL_law RL := ⟨hx, hb, hml, hown, fun w h => hts w (wsL_law_in w h)⟩
    have hbA : ¬ (fun q : Nat => s.heap.size ≤ q) b := Nat.not_le.mpr hbl
    have hKL := KL_of hKC h100
    have z0 : (0 : Int32).toInt = 0 := by decide
    have z1 : (1 : Int32).toInt = 1 := by decide
    refine lv_iload hx hb dL_law_1042 (lv_at hl 6 rfl) ?_
    refine lv_if_ne (tgt := 1328) hx hb dL_law_1044 (by decide) (fun c1044 => ?_) (fun c1044 => ?_)
    · have t1044 : v6.toInt ≠ 0 := qt_ne c1044
      exact (next σ hB.r h10) h100 hdis H locs wC wL ls (lv_sub hl [0, 1, 2, 3, 4, 5, 6, 7] rfl)
    · exact absurd c1044 h6
  have h1247 : ∀ v17 v18 : Int32, FD σ 0 v17 v18 → LG p l e s m below meth c D b adC adL 3 σ τ nc ns 1247 [(0, .ref b), (1, .ref (adC 0)), (2, .ref (adL 0)), (3, .ref (adL 1)), (4, .ref (adL 2)), (5, .int v5), (6, .int v6), (10, .int v10), (17, .int v17), (18, .int v18)] [] := by
    intro v17 v18 hFD
    intro h100 hdis H locs wC wL ls hl
    obtain ⟨hL, C0, hKC⟩ := id hC
    obtain ⟨hx, hb, hr, hml, hown, hts, hX, hbl, hlocks, hgv⟩ := C0
    have hN : NW s := NW_of hts
    have S : CallFix p m c cL_law 30 s #[Value.ref b] wsL_law RL := ⟨hx, hb, hml, hown, fun w h => hts w (wsL_law_in w h)⟩
    have hbA : ¬ (fun q : Nat => s.heap.size ≤ q) b := Nat.not_le.mpr hbl
    have hKL := KL_of hKC h100
    have z0 : (0 : Int32).toInt = 0 := by decide
    have z1 : (1 : Int32).toInt = 1 := by decide
    have hR := hB.1
    obtain ⟨T, tT, f0, f1, f2, f3, f4, f5⟩ := q_fresh hR (hB.2.2.2 h6) hFD
    have hRT : Rl T τ := Fx.rl ⟨fun k _ => by rw [tT 0 (by omega)], fun c _ cb => tT c (fun q => cb (Or.inr (Or.inr (Or.inl q))))⟩ hR
    refine lv_aload_n hx hb dL_law_1247 rfl (lv_at hl 1 rfl) ?_
    refine lv_iconst (v := 0) hx hb dL_law_1248 (by decide) ?_
    refine callWi2 wC wL hdis (va_runV (As := [.int 0]) (rest := []) S (c_X3_fresh l adC D H.size σ 0 hR.ok) (cwV 1 S.2.2.2.2 gL_law_X3_fresh rfl rfl rfl ⟨rfl, hd_X3_fresh⟩ ⟨Nat.le_of_ble_eq_true rfl, Nat.le_of_ble_eq_true rfl⟩) (preV hKC hN wC (k := 0) (by decide) (eC_0 adC _) (q := (RX3, TX3, 14)) rfl) rfl rfl hl.1 rfl (lv_room (Nat.le_of_ble_eq_true rfl)) dL_law_1249 (rm_ok hnc hns)) (fun H locs wC wL => ?_)
    rw [pr1 f0]
    rw [pr2 f0] at wC
    refine lv_iload hx hb dL_law_1252 (lv_at hl 8 rfl) ?_
    refine lv_icmp_ne (tgt := 1326) hx hb dL_law_1254 (by decide) (fun c1254 => ?_) (fun c1254 => ?_)
    · exact absurd rfl c1254
    · have t1254 : v17.toInt = v17.toInt := qt_eq c1254
      refine lv_aload_n hx hb dL_law_1257 rfl (lv_at hl 1 rfl) ?_
      refine lv_iconst (v := 1) hx hb dL_law_1258 (by decide) ?_
      refine callWi2 wC wL hdis (va_runV (As := [.int 1]) (rest := []) S (c_X3_fresh l adC D H.size T 1 hRT.ok) (cwV 1 S.2.2.2.2 gL_law_X3_fresh rfl rfl rfl ⟨rfl, hd_X3_fresh⟩ ⟨Nat.le_of_ble_eq_true rfl, Nat.le_of_ble_eq_true rfl⟩) (preV hKC hN wC (k := 0) (by decide) (eC_0 adC _) (q := (RX3, TX3, 14)) rfl) rfl rfl hl.1 rfl (lv_room (Nat.le_of_ble_eq_true rfl)) dL_law_1259 (rm_ok hnc hns)) (fun H locs wC wL => ?_)
      rw [pr1 f1]
      rw [pr2 f1] at wC
      refine lv_iload hx hb dL_law_1262 (lv_at hl 9 rfl) ?_
      refine lv_sipush (v := 900) hx hb dL_law_1264 (by decide) ?_
      refine lv_idiv hx hb dL_law_1267 (by decide) ?_
      refine lv_icmp_ne (tgt := 1326) hx hb dL_law_1268 (by decide) (fun c1268 => ?_) (fun c1268 => ?_)
      · exact absurd rfl c1268
      · have t1268 : (v18 / 900).toInt = (v18 / 900).toInt := qt_eq c1268
        refine lv_aload_n hx hb dL_law_1271 rfl (lv_at hl 1 rfl) ?_
        refine lv_iconst (v := 2) hx hb dL_law_1272 (by decide) ?_
        refine callWi2 wC wL hdis (va_runV (As := [.int 2]) (rest := []) S (c_X3_fresh l adC D H.size T 2 hRT.ok) (cwV 1 S.2.2.2.2 gL_law_X3_fresh rfl rfl rfl ⟨rfl, hd_X3_fresh⟩ ⟨Nat.le_of_ble_eq_true rfl, Nat.le_of_ble_eq_true rfl⟩) (preV hKC hN wC (k := 0) (by decide) (eC_0 adC _) (q := (RX3, TX3, 14)) rfl) rfl rfl hl.1 rfl (lv_room (Nat.le_of_ble_eq_true rfl)) dL_law_1273 (rm_ok hnc hns)) (fun H locs wC wL => ?_)
        rw [pr1 f2]
        rw [pr2 f2] at wC
        refine lv_iload hx hb dL_law_1276 (lv_at hl 9 rfl) ?_
        refine lv_bipush (v := 100) hx hb dL_law_1278 (by decide) ?_
        refine lv_idiv hx hb dL_law_1280 (by decide) ?_
        refine lv_bipush (v := 9) hx hb dL_law_1281 (by decide) ?_
        refine lv_irem hx hb dL_law_1283 (by decide) ?_
        refine lv_icmp_ne (tgt := 1326) hx hb dL_law_1284 (by decide) (fun c1284 => ?_) (fun c1284 => ?_)
        · exact absurd rfl c1284
        · have t1284 : ((v18 / 100) - (v18 / 100) / 9 * 9).toInt = ((v18 / 100) - ((v18 / 100) / 9) * 9).toInt := qt_eq c1284
          refine lv_aload_n hx hb dL_law_1287 rfl (lv_at hl 1 rfl) ?_
          refine lv_iconst (v := 3) hx hb dL_law_1288 (by decide) ?_
          refine callWi2 wC wL hdis (va_runV (As := [.int 3]) (rest := []) S (c_X3_fresh l adC D H.size T 3 hRT.ok) (cwV 1 S.2.2.2.2 gL_law_X3_fresh rfl rfl rfl ⟨rfl, hd_X3_fresh⟩ ⟨Nat.le_of_ble_eq_true rfl, Nat.le_of_ble_eq_true rfl⟩) (preV hKC hN wC (k := 0) (by decide) (eC_0 adC _) (q := (RX3, TX3, 14)) rfl) rfl rfl hl.1 rfl (lv_room (Nat.le_of_ble_eq_true rfl)) dL_law_1289 (rm_ok hnc hns)) (fun H locs wC wL => ?_)
          rw [pr1 f3]
          rw [pr2 f3] at wC
          refine lv_iload hx hb dL_law_1292 (lv_at hl 9 rfl) ?_
          refine lv_bipush (v := 10) hx hb dL_law_1294 (by decide) ?_
          refine lv_idiv hx hb dL_law_1296 (by decide) ?_
          refine lv_bipush (v := 10) hx hb dL_law_1297 (by decide) ?_
          refine lv_irem hx hb dL_law_1299 (by decide) ?_
          refine lv_icmp_ne (tgt := 1326) hx hb dL_law_1300 (by decide) (fun c1300 => ?_) (fun c1300 => ?_)
          · exact absurd rfl c1300
          · have t1300 : ((v18 / 10) - (v18 / 10) / 10 * 10).toInt = ((v18 / 10) - ((v18 / 10) / 10) * 10).toInt := qt_eq c1300
            refine lv_aload_n hx hb dL_law_1303 rfl (lv_at hl 1 rfl) ?_
            refine lv_iconst (v := 4) hx hb dL_law_1304 (by decide) ?_
            refine callWi2 wC wL hdis (va_runV (As := [.int 4]) (rest := []) S (c_X3_fresh l adC D H.size T 4 hRT.ok) (cwV 1 S.2.2.2.2 gL_law_X3_fresh rfl rfl rfl ⟨rfl, hd_X3_fresh⟩ ⟨Nat.le_of_ble_eq_true rfl, Nat.le_of_ble_eq_true rfl⟩) (preV hKC hN wC (k := 0) (by decide) (eC_0 adC _) (q := (RX3, TX3, 14)) rfl) rfl rfl hl.1 rfl (lv_room (Nat.le_of_ble_eq_true rfl)) dL_law_1305 (rm_ok hnc hns)) (fun H locs wC wL => ?_)
            rw [pr1 f4]
            rw [pr2 f4] at wC
            refine lv_iload hx hb dL_law_1308 (lv_at hl 9 rfl) ?_
            refine lv_bipush (v := 10) hx hb dL_law_1310 (by decide) ?_
            refine lv_irem hx hb dL_law_1312 (by decide) ?_
            refine lv_icmp_ne (tgt := 1326) hx hb dL_law_1313 (by decide) (fun c1313 => ?_) (fun c1313 => ?_)
            · exact absurd rfl c1313
            · have t1313 : (v18 - v18 / 10 * 10).toInt = (v18 - (v18 / 10) * 10).toInt := qt_eq c1313
              refine lv_aload_n hx hb dL_law_1316 rfl (lv_at hl 1 rfl) ?_
              refine lv_iconst (v := (-1)) hx hb dL_law_1317 (by decide) ?_
              refine callWi2 wC wL hdis (va_runV (As := [.int (-1)]) (rest := []) S (c_X3_fresh l adC D H.size T (-1) hRT.ok) (cwV 1 S.2.2.2.2 gL_law_X3_fresh rfl rfl rfl ⟨rfl, hd_X3_fresh⟩ ⟨Nat.le_of_ble_eq_true rfl, Nat.le_of_ble_eq_true rfl⟩) (preV hKC hN wC (k := 0) (by decide) (eC_0 adC _) (q := (RX3, TX3, 14)) rfl) rfl rfl hl.1 rfl (lv_room (Nat.le_of_ble_eq_true rfl)) dL_law_1318 (rm_ok hnc hns)) (fun H locs wC wL => ?_)
              rw [pr1 f5]
              rw [pr2 f5] at wC
              refine lv_bipush (v := (-2)) hx hb dL_law_1321 (by decide) ?_
              refine lv_icmp_eq (tgt := 1328) hx hb dL_law_1323 (by decide) (fun c1323 => ?_) (fun c1323 => ?_)
              · have h7 : T 0 7 = σ 0 7 := by rw [tT 0 (by omega)]
                exact (next T ⟨hRT, by rw [tT 0 (by omega)]; exact hB.2.1, hB.2.2.1⟩ (by rw [h7]; exact h10)) h100 hdis H locs wC wL ls (lv_sub hl [0, 1, 2, 3, 4, 5, 6, 7] rfl)
              · exact absurd rfl c1323
  intro h100 hdis H locs wC wL ls hl
  obtain ⟨hL, C0, hKC⟩ := id hC
  obtain ⟨hx, hb, hr, hml, hown, hts, hX, hbl, hlocks, hgv⟩ := C0
  have hN : NW s := NW_of hts
  have S : CallFix p m c cL_law 30 s #[Value.ref b] wsL_law RL := ⟨hx, hb, hml, hown, fun w h => hts w (wsL_law_in w h)⟩
  have hbA : ¬ (fun q : Nat => s.heap.size ≤ q) b := Nat.not_le.mpr hbl
  have hKL := KL_of hKC h100
  have z0 : (0 : Int32).toInt = 0 := by decide
  have z1 : (1 : Int32).toInt = 1 := by decide
  refine lv_iload hx hb dL_law_1042 (lv_at hl 6 rfl) ?_
  refine lv_if_ne (tgt := 1328) hx hb dL_law_1044 (by decide) (fun c1044 => ?_) (fun c1044 => ?_)
  · exact absurd h6 c1044
  · have t1044 : v6.toInt = 0 := qt_eq c1044
    refine lv_iconst (v := (-1)) hx hb dL_law_1047 (by decide) ?_
    refine lv_istore (lv' := [(17, .int (-1)), (0, .ref b), (1, .ref (adC 0)), (2, .ref (adL 0)), (3, .ref (adL 1)), (4, .ref (adL 2)), (5, .int v5), (6, .int v6), (10, .int v10)]) hx hb dL_law_1048 hl (by decide) rfl (fun ls hl => ?_)
    refine lv_iconst (v := 0) hx hb dL_law_1050 (by decide) ?_
    refine lv_istore (lv' := [(18, .int 0), (17, .int (-1)), (0, .ref b), (1, .ref (adC 0)), (2, .ref (adL 0)), (3, .ref (adL 1)), (4, .ref (adL 2)), (5, .int v5), (6, .int v6), (10, .int v10)]) hx hb dL_law_1051 hl (by decide) rfl (fun ls hl => ?_)
    refine lv_bipush (v := 80) hx hb dL_law_1053 (by decide) ?_
    refine lv_istore (lv' := [(19, .int 80), (18, .int 0), (17, .int (-1)), (0, .ref b), (1, .ref (adC 0)), (2, .ref (adL 0)), (3, .ref (adL 1)), (4, .ref (adL 2)), (5, .int v5), (6, .int v6), (10, .int v10)]) hx hb dL_law_1055 hl (by decide) rfl (fun ls hl => ?_)
    exact (l_1057 hC hnc hns hB h1247 100 (-1) 0 80 (by decide) (by decide) FD_0 (by decide)) h100 hdis H locs wC wL ls (lv_sub hl [3, 4, 5, 6, 7, 8, 9, 10, 2, 1, 0] rfl)
