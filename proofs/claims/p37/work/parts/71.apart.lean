/-! the law's walk: apart and twins -/
set_option maxHeartbeats 8000000 in
set_option maxRecDepth 100000 in
theorem l_188 {p : Program} {l : Launch} {e : Env} {s : State} {m : MethodId} {below : List Frame} {meth : Method} {c : Code} {D : va_G} {b L : Nat} {xs : Nat → Int32} {adC : Nat → Nat} (hC : LC p s m meth c D b L xs adC) {adL : Nat → Nat} {σ τ : St} {nc ns : Nat} (hnc : nc ≤ 1000) (hns : ns ≤ 10000) {v5 v6 v7 v10 v12 : Int32} (hB : Bs σ τ v5 v6) (h10 : v10 = σ 0 7) (h12 : 0 ≤ v12.toInt ∧ v12.toInt < v5.toInt)
    (hex : LG p l e s m below meth c D b adC adL 3 σ τ nc ns 267 [(0, .ref b), (1, .ref (adC 0)), (2, .ref (adL 0)), (3, .ref (adL 1)), (4, .ref (adL 2)), (5, .int v5), (6, .int v6), (7, .int v7), (10, .int v10), (11, .int (nI (c1 σ (ix (σ 0 4)) (ix v12) + c2 σ (ix v12) (ix (σ 0 4))))), (12, .int v12)] []) : ∀ (k : Nat) (v13 : Int32), 0 ≤ v13.toInt → v13.toInt ≤ v5.toInt → v5.toInt < v13.toInt + k → LG p l e s m below meth c D b adC adL 3 σ τ nc ns 188 [(0, .ref b), (1, .ref (adC 0)), (2, .ref (adL 0)), (3, .ref (adL 1)), (4, .ref (adL 2)), (5, .int v5), (6, .int v6), (7, .int v7), (10, .int v10), (11, .int (nI (c1 σ (ix (σ 0 4)) (ix v12) + c2 σ (ix v12) (ix v13)))), (12, .int v12), (13, .int v13)] [] := by
  intro k
  induction k with
  | zero => intro v13 a1 a2 a3; exact absurd a3 (by omega)
  | succ k ih =>
  intro v13 a1 a2 a3
  intro h100 hdis H locs wC wL ls hl
  obtain ⟨hL, C0, hKC⟩ := id hC
  obtain ⟨hx, hb, hr, hml, hown, hts, hX, hbl, hlocks, hgv⟩ := C0
  have hN : NW s := NW_of hts
  have S : CallFix p m c cL_law 30 s #[Value.ref b] wsL_law RL := ⟨hx, hb, hml, hown, fun w h => hts w (wsL_law_in w h)⟩
  have hbA : ¬ (fun q : Nat => s.heap.size ≤ q) b := Nat.not_le.mpr hbl
  have hKL := KL_of hKC h100
  have z0 : (0 : Int32).toInt = 0 := by decide
  have z1 : (1 : Int32).toInt = 1 := by decide
  have hR := hB.1
  have hn := hB.n
  refine lv_iload hx hb dL_law_188 (lv_at hl 11 rfl) ?_
  refine lv_iload hx hb dL_law_190 (lv_at hl 5 rfl) ?_
  refine lv_icmp_ge (tgt := 267) hx hb dL_law_192 (by decide) (fun c192 => ?_) (fun c192 => ?_)
  · have t192 : v5.toInt ≤ v13.toInt := qt_le c192
    have e13 : ix v13 = ix (σ 0 4) := by rw [← hB.2.1]; exact congrArg ix (qm_eq (by omega))
    rw [e13] at hl
    exact hex h100 hdis H locs wC wL ls (lv_sub hl [0, 1, 2, 3, 4, 5, 6, 7, 8, 9, 10] rfl)
  · have t192 : v13.toInt < v5.toInt := qt_nle c192
    refine lv_aload_n hx hb dL_law_195 rfl (lv_at hl 3 rfl) ?_
    refine lv_aload hx hb dL_law_196 (lv_at hl 4 rfl) ?_
    refine lv_iload hx hb dL_law_198 (lv_at hl 10 rfl) ?_
    refine lv_iload hx hb dL_law_200 (lv_at hl 11 rfl) ?_
    refine call0i (va_runS (As := [.ref (adL 1), .ref (adL 2), .int v12, .int v13]) (rest := []) S (c_L_apart l adL D H.size τ v12 v13 (by omega) (by omega)) (va_cwS 4 S.2.2.2.2 gL_law_L_apart rfl rfl rfl hd_L_apart ⟨Nat.le_of_ble_eq_true rfl, Nat.le_of_ble_eq_true rfl⟩) (preS hKL hN wL) rfl rfl hl.1 rfl (lv_room (Nat.le_of_ble_eq_true rfl)) dL_law_202 (rm_ok hnc hns)) ?_
    refine lv_istore (lv' := [(14, .int (f_L_apart τ v12 v13)), (0, .ref b), (1, .ref (adC 0)), (2, .ref (adL 0)), (3, .ref (adL 1)), (4, .ref (adL 2)), (5, .int v5), (6, .int v6), (7, .int v7), (10, .int v10), (11, .int (nI (c1 σ (ix (σ 0 4)) (ix v12) + c2 σ (ix v12) (ix v13)))), (12, .int v12), (13, .int v13)]) hx hb dL_law_205 hl (by decide) rfl (fun ls hl => ?_)
    have q14 : (f_L_apart τ v12 v13) = apS σ (25 + ix v12) (25 + ix v13) := L_apart_eq hR (by omega) (by omega) (by omega) (by omega)
    have q15 : f_X3_apart σ v12 v13 = (f_L_apart τ v12 v13) := q_apart hR (by omega) (by omega) (by omega) (by omega)
    generalize (f_L_apart τ v12 v13) = v14 at hl q14 q15
    refine lv_aload_n hx hb dL_law_207 rfl (lv_at hl 2 rfl) ?_
    refine lv_iload hx hb dL_law_208 (lv_at hl 11 rfl) ?_
    refine lv_iload hx hb dL_law_210 (lv_at hl 12 rfl) ?_
    refine call0i (va_runV (As := [.int v12, .int v13]) (rest := []) S (c_X3_apart l adC D H.size σ v12 v13 hR.ok) (cwV 2 S.2.2.2.2 gL_law_X3_apart rfl rfl rfl ⟨rfl, hd_X3_apart⟩ ⟨Nat.le_of_ble_eq_true rfl, Nat.le_of_ble_eq_true rfl⟩) (preV hKC hN wC (k := 0) (by decide) (eC_0 adC _) (q := (RX3, TX3, 14)) rfl) rfl rfl hl.1 rfl (lv_room (Nat.le_of_ble_eq_true rfl)) dL_law_212 (rm_ok hnc hns)) ?_
    refine lv_iload hx hb dL_law_215 (lv_at hl 0 rfl) ?_
    refine lv_icmp_eq (tgt := 222) hx hb dL_law_217 (by decide) (fun c217 => ?_) (fun c217 => ?_)
    · have t217 : (f_X3_apart σ v12 v13).toInt = v14.toInt := qt_eq c217
      refine lv_iload hx hb dL_law_222 (lv_at hl 11 rfl) ?_
      refine lv_iload hx hb dL_law_224 (lv_at hl 12 rfl) ?_
      refine lv_icmp_ge (tgt := 261) hx hb dL_law_226 (by decide) (fun c226 => ?_) (fun c226 => ?_)
      · have t226 : v13.toInt ≤ v12.toInt := qt_le c226
        have ec := c2_off (σ := σ) (x := ix v12) (y := ix v13) (fun q => by have := ix_toInt (x := v12) (by omega); have := ix_toInt (x := v13) (by omega); omega)
        refine lv_iinc (v := (v13 + 1)) (lv' := [(13, .int (v13 + 1)), (14, .int v14), (0, .ref b), (1, .ref (adC 0)), (2, .ref (adL 0)), (3, .ref (adL 1)), (4, .ref (adL 2)), (5, .int v5), (6, .int v6), (7, .int v7), (10, .int v10), (11, .int (nI (c1 σ (ix (σ 0 4)) (ix v12) + c2 σ (ix v12) (ix v13)))), (12, .int v12)]) hx hb dL_law_261 hl (k := 12) rfl rfl (by decide) rfl (fun ls hl => ?_)
        refine lv_goto (tgt := 188) hx hb dL_law_264 (by decide) ?_
        have e13 := inc_toInt (a := v13) (by omega) (by omega)
        have j13 := ix_toInt (x := v13) (by omega)
        have k13 := ix_toInt (x := v13 + 1) (by omega)
        have ei : ix (v13 + 1) = ix v13 + 1 := by omega
        rw [← ec, ← ei] at hl
        exact (ih (v13 + 1) (by omega) (by omega) (by omega)) h100 hdis H locs wC wL ls (lv_sub hl [2, 3, 4, 5, 6, 7, 8, 9, 10, 11, 12, 0] rfl)
      · have t226 : v12.toInt < v13.toInt := qt_nle c226
        have eq14 := q14
        refine lv_bipush (v := 8) hx hb dL_law_229 (by decide) ?_
        refine lv_iload hx hb dL_law_231 (lv_at hl 0 rfl) ?_
        refine lv_imul hx hb dL_law_233 ?_
        refine lv_iload hx hb dL_law_234 (lv_at hl 9 rfl) ?_
        refine lv_icmp_gt (tgt := 261) hx hb dL_law_236 (by decide) (fun c236 => ?_) (fun c236 => ?_)
        · have t236 : v10.toInt < (8 * v14).toInt := qt_lt c236
          have ec := c2_off (σ := σ) (x := ix v12) (y := ix v13) (fun q => al_iff.mp q.2 (by rw [← q14, ← h10]; exact c236))
          refine lv_iinc (v := (v13 + 1)) (lv' := [(13, .int (v13 + 1)), (14, .int v14), (0, .ref b), (1, .ref (adC 0)), (2, .ref (adL 0)), (3, .ref (adL 1)), (4, .ref (adL 2)), (5, .int v5), (6, .int v6), (7, .int v7), (10, .int v10), (11, .int (nI (c1 σ (ix (σ 0 4)) (ix v12) + c2 σ (ix v12) (ix v13)))), (12, .int v12)]) hx hb dL_law_261 hl (k := 12) rfl rfl (by decide) rfl (fun ls hl => ?_)
          refine lv_goto (tgt := 188) hx hb dL_law_264 (by decide) ?_
          have e13 := inc_toInt (a := v13) (by omega) (by omega)
          have j13 := ix_toInt (x := v13) (by omega)
          have k13 := ix_toInt (x := v13 + 1) (by omega)
          have ei : ix (v13 + 1) = ix v13 + 1 := by omega
          rw [← ec, ← ei] at hl
          exact (ih (v13 + 1) (by omega) (by omega) (by omega)) h100 hdis H locs wC wL ls (lv_sub hl [2, 3, 4, 5, 6, 7, 8, 9, 10, 11, 12, 0] rfl)
        · have t236 : (8 * v14).toInt ≤ v10.toInt := qt_nlt c236
          have ha : al σ (ix v12) (ix v13) := al_iff.mpr (by rw [← q14, ← h10]; exact c236)
          refine lv_aload_n hx hb dL_law_239 rfl (lv_at hl 2 rfl) ?_
          refine lv_iload hx hb dL_law_240 (lv_at hl 10 rfl) ?_
          refine call0i (va_runV (As := [.int (nI (c1 σ (ix (σ 0 4)) (ix v12) + c2 σ (ix v12) (ix v13)))]) (rest := []) S (c_X3_twins l adC D H.size σ (nI (c1 σ (ix (σ 0 4)) (ix v12) + c2 σ (ix v12) (ix v13))) hR.ok) (cwV 1 S.2.2.2.2 gL_law_X3_twins rfl rfl rfl ⟨rfl, hd_X3_twins⟩ ⟨Nat.le_of_ble_eq_true rfl, Nat.le_of_ble_eq_true rfl⟩) (preV hKC hN wC (k := 0) (by decide) (eC_0 adC _) (q := (RX3, TX3, 14)) rfl) rfl rfl hl.1 rfl (lv_room (Nat.le_of_ble_eq_true rfl)) dL_law_242 (rm_ok hnc hns)) ?_
          refine lv_bipush (v := 10) hx hb dL_law_245 (by decide) ?_
          refine lv_iload hx hb dL_law_247 (lv_at hl 11 rfl) ?_
          refine lv_imul hx hb dL_law_249 ?_
          refine lv_iload hx hb dL_law_250 (lv_at hl 12 rfl) ?_
          refine lv_iadd hx hb dL_law_252 ?_
          refine lv_icmp_eq (tgt := 258) hx hb dL_law_253 (by decide) (fun c253 => ?_) (fun c253 => ?_)
          · have t253 : (f_X3_twins σ (nI (c1 σ (ix (σ 0 4)) (ix v12) + c2 σ (ix v12) (ix v13)))).toInt = ((10 * v12) + v13).toInt := qt_eq c253
            have ec := c2_hit (σ := σ) (x := ix v12) (y := ix v13) (by have := ix_toInt (x := v12) (by omega); have := ix_toInt (x := v13) (by omega); omega) ha
            refine lv_iinc (v := ((nI (c1 σ (ix (σ 0 4)) (ix v12) + c2 σ (ix v12) (ix v13))) + 1)) (lv' := [(11, .int ((nI (c1 σ (ix (σ 0 4)) (ix v12) + c2 σ (ix v12) (ix v13))) + 1)), (14, .int v14), (0, .ref b), (1, .ref (adC 0)), (2, .ref (adL 0)), (3, .ref (adL 1)), (4, .ref (adL 2)), (5, .int v5), (6, .int v6), (7, .int v7), (10, .int v10), (12, .int v12), (13, .int v13)]) hx hb dL_law_258 hl (k := 10) rfl rfl (by decide) rfl (fun ls hl => ?_)
            refine lv_iinc (v := (v13 + 1)) (lv' := [(13, .int (v13 + 1)), (11, .int ((nI (c1 σ (ix (σ 0 4)) (ix v12) + c2 σ (ix v12) (ix v13))) + 1)), (14, .int v14), (0, .ref b), (1, .ref (adC 0)), (2, .ref (adL 0)), (3, .ref (adL 1)), (4, .ref (adL 2)), (5, .int v5), (6, .int v6), (7, .int v7), (10, .int v10), (12, .int v12)]) hx hb dL_law_261 hl (k := 12) rfl rfl (by decide) rfl (fun ls hl => ?_)
            refine lv_goto (tgt := 188) hx hb dL_law_264 (by decide) ?_
            have e13 := inc_toInt (a := v13) (by omega) (by omega)
            have j13 := ix_toInt (x := v13) (by omega)
            have k13 := ix_toInt (x := v13 + 1) (by omega)
            have ei : ix (v13 + 1) = ix v13 + 1 := by omega
            rw [n1, Nat.add_assoc, ← ec, ← ei] at hl
            exact (ih (v13 + 1) (by omega) (by omega) (by omega)) h100 hdis H locs wC wL ls (lv_sub hl [3, 4, 5, 6, 7, 8, 9, 10, 11, 1, 12, 0] rfl)
          · exact absurd (q_twin hR (by omega) (by omega) (by omega) ha) c253
    · exact absurd q15 c217
set_option maxHeartbeats 8000000 in
set_option maxRecDepth 100000 in
theorem l_178 {p : Program} {l : Launch} {e : Env} {s : State} {m : MethodId} {below : List Frame} {meth : Method} {c : Code} {D : va_G} {b L : Nat} {xs : Nat → Int32} {adC : Nat → Nat} (hC : LC p s m meth c D b L xs adC) {adL : Nat → Nat} {σ τ : St} {nc ns : Nat} (hnc : nc ≤ 1000) (hns : ns ≤ 10000) {v5 v6 v7 v10 : Int32} (hB : Bs σ τ v5 v6) (h10 : v10 = σ 0 7)
    (hex : LG p l e s m below meth c D b adC adL 3 σ τ nc ns 273 [(0, .ref b), (1, .ref (adC 0)), (2, .ref (adL 0)), (3, .ref (adL 1)), (4, .ref (adL 2)), (5, .int v5), (6, .int v6), (7, .int v7), (10, .int v10), (11, .int (nI (c1 σ (ix (σ 0 4)) (ix (σ 0 4)))))] []) : ∀ (k : Nat) (v12 : Int32), 0 ≤ v12.toInt → v12.toInt ≤ v5.toInt → v5.toInt < v12.toInt + k → LG p l e s m below meth c D b adC adL 3 σ τ nc ns 178 [(0, .ref b), (1, .ref (adC 0)), (2, .ref (adL 0)), (3, .ref (adL 1)), (4, .ref (adL 2)), (5, .int v5), (6, .int v6), (7, .int v7), (10, .int v10), (11, .int (nI (c1 σ (ix (σ 0 4)) (ix v12)))), (12, .int v12)] [] := by
  intro k
  induction k with
  | zero => intro v12 a1 a2 a3; exact absurd a3 (by omega)
  | succ k ih =>
  intro v12 a1 a2 a3
  have hn0 := hB.n
  have h267 : v12.toInt < v5.toInt → LG p l e s m below meth c D b adC adL 3 σ τ nc ns 267 [(0, .ref b), (1, .ref (adC 0)), (2, .ref (adL 0)), (3, .ref (adL 1)), (4, .ref (adL 2)), (5, .int v5), (6, .int v6), (7, .int v7), (10, .int v10), (11, .int (nI (c1 σ (ix (σ 0 4)) (ix v12) + c2 σ (ix v12) (ix (σ 0 4))))), (12, .int v12)] [] := by
    intro hlt
    intro h100 hdis H locs wC wL ls hl
    obtain ⟨hL, C0, hKC⟩ := id hC
    obtain ⟨hx, hb, hr, hml, hown, hts, hX, hbl, hlocks, hgv⟩ := C0
    have hN : NW s := NW_of hts
    have S : CallFix p m c cL_law 30 s #[Value.ref b] wsL_law RL := ⟨hx, hb, hml, hown, fun w h => hts w (wsL_law_in w h)⟩
    have hbA : ¬ (fun q : Nat => s.heap.size ≤ q) b := Nat.not_le.mpr hbl
    have hKL := KL_of hKC h100
    have z0 : (0 : Int32).toInt = 0 := by decide
    have z1 : (1 : Int32).toInt = 1 := by decide
    refine lv_iinc (v := (v12 + 1)) (lv' := [(12, .int (v12 + 1)), (0, .ref b), (1, .ref (adC 0)), (2, .ref (adL 0)), (3, .ref (adL 1)), (4, .ref (adL 2)), (5, .int v5), (6, .int v6), (7, .int v7), (10, .int v10), (11, .int (nI (c1 σ (ix (σ 0 4)) (ix v12) + c2 σ (ix v12) (ix (σ 0 4)))))]) hx hb dL_law_267 hl (k := 10) rfl rfl (by decide) rfl (fun ls hl => ?_)
    refine lv_goto (tgt := 178) hx hb dL_law_270 (by decide) ?_
    have e12 := inc_toInt (a := v12) (by omega) (by omega)
    have j12 := ix_toInt (x := v12) (by omega)
    have k12 := ix_toInt (x := v12 + 1) (by omega)
    have ei : ix (v12 + 1) = ix v12 + 1 := by omega
    have e1 : c1 σ (ix (σ 0 4)) (ix v12) + c2 σ (ix v12) (ix (σ 0 4)) = c1 σ (ix (σ 0 4)) (ix v12 + 1) := rfl
    rw [e1, ← ei] at hl
    exact (ih (v12 + 1) (by omega) (by omega) (by omega)) h100 hdis H locs wC wL ls (lv_sub hl [1, 2, 3, 4, 5, 6, 7, 8, 9, 10, 0] rfl)
  intro h100 hdis H locs wC wL ls hl
  obtain ⟨hL, C0, hKC⟩ := id hC
  obtain ⟨hx, hb, hr, hml, hown, hts, hX, hbl, hlocks, hgv⟩ := C0
  have hN : NW s := NW_of hts
  have S : CallFix p m c cL_law 30 s #[Value.ref b] wsL_law RL := ⟨hx, hb, hml, hown, fun w h => hts w (wsL_law_in w h)⟩
  have hbA : ¬ (fun q : Nat => s.heap.size ≤ q) b := Nat.not_le.mpr hbl
  have hKL := KL_of hKC h100
  have z0 : (0 : Int32).toInt = 0 := by decide
  have z1 : (1 : Int32).toInt = 1 := by decide
  refine lv_iload hx hb dL_law_178 (lv_at hl 10 rfl) ?_
  refine lv_iload hx hb dL_law_180 (lv_at hl 5 rfl) ?_
  refine lv_icmp_ge (tgt := 273) hx hb dL_law_182 (by decide) (fun c182 => ?_) (fun c182 => ?_)
  · have t182 : v5.toInt ≤ v12.toInt := qt_le c182
    have e12 : ix v12 = ix (σ 0 4) := by rw [← hB.2.1]; exact congrArg ix (qm_eq (by omega))
    rw [e12] at hl
    exact hex h100 hdis H locs wC wL ls (lv_sub hl [0, 1, 2, 3, 4, 5, 6, 7, 8, 9] rfl)
  · have t182 : v12.toInt < v5.toInt := qt_nle c182
    refine lv_iconst (v := 0) hx hb dL_law_185 (by decide) ?_
    refine lv_istore (lv' := [(13, .int 0), (0, .ref b), (1, .ref (adC 0)), (2, .ref (adL 0)), (3, .ref (adL 1)), (4, .ref (adL 2)), (5, .int v5), (6, .int v6), (7, .int v7), (10, .int v10), (11, .int (nI (c1 σ (ix (σ 0 4)) (ix v12)))), (12, .int v12)]) hx hb dL_law_186 hl (by decide) rfl (fun ls hl => ?_)
    have e0 : c1 σ (ix (σ 0 4)) (ix v12) + c2 σ (ix v12) (ix 0) = c1 σ (ix (σ 0 4)) (ix v12) := rfl
    rw [← e0] at hl
    exact (l_188 hC hnc hns hB h10 ⟨by omega, by omega⟩ (h267 (by omega)) 100 0 (by omega) (by omega) (by omega)) h100 hdis H locs wC wL ls (lv_sub hl [1, 2, 3, 4, 5, 6, 7, 8, 9, 10, 11, 0] rfl)
set_option maxHeartbeats 8000000 in
set_option maxRecDepth 100000 in
theorem s_apart {p : Program} {l : Launch} {e : Env} {s : State} {m : MethodId} {below : List Frame} {meth : Method} {c : Code} {D : va_G} {b L : Nat} {xs : Nat → Int32} {adC : Nat → Nat} (hC : LC p s m meth c D b L xs adC) {adL : Nat → Nat} {σ τ : St} {nc ns : Nat} (hnc : nc ≤ 1000) (hns : ns ≤ 10000) {v5 v6 v7 v10 : Int32} (hB : Bs σ τ v5 v6) (h10 : v10 = σ 0 7)
    (next : LG p l e s m below meth c D b adC adL 3 σ τ nc ns 317 [(0, .ref b), (1, .ref (adC 0)), (2, .ref (adL 0)), (3, .ref (adL 1)), (4, .ref (adL 2)), (5, .int v5), (6, .int v6), (7, .int v7), (10, .int v10)] []) : LG p l e s m below meth c D b adC adL 3 σ τ nc ns 172 [(0, .ref b), (1, .ref (adC 0)), (2, .ref (adL 0)), (3, .ref (adL 1)), (4, .ref (adL 2)), (5, .int v5), (6, .int v6), (7, .int v7), (10, .int v10)] [] := by
  have h273 : LG p l e s m below meth c D b adC adL 3 σ τ nc ns 273 [(0, .ref b), (1, .ref (adC 0)), (2, .ref (adL 0)), (3, .ref (adL 1)), (4, .ref (adL 2)), (5, .int v5), (6, .int v6), (7, .int v7), (10, .int v10), (11, .int (nI (c1 σ (ix (σ 0 4)) (ix (σ 0 4)))))] [] := by
    intro h100 hdis H locs wC wL ls hl
    obtain ⟨hL, C0, hKC⟩ := id hC
    obtain ⟨hx, hb, hr, hml, hown, hts, hX, hbl, hlocks, hgv⟩ := C0
    have hN : NW s := NW_of hts
    have S : CallFix p m c cL_law 30 s #[Value.ref b] wsL_law RL := ⟨hx, hb, hml, hown, fun w h => hts w (wsL_law_in w h)⟩
    have hbA : ¬ (fun q : Nat => s.heap.size ≤ q) b := Nat.not_le.mpr hbl
    have hKL := KL_of hKC h100
    have z0 : (0 : Int32).toInt = 0 := by decide
    have z1 : (1 : Int32).toInt = 1 := by decide
    have hR := hB.1
    have hn := hB.n
    refine lv_aload_n hx hb dL_law_273 rfl (lv_at hl 1 rfl) ?_
    refine lv_iconst (v := (-1)) hx hb dL_law_274 (by decide) ?_
    refine call0i (va_runV (As := [.int (-1)]) (rest := []) S (c_X3_twins l adC D H.size σ (-1) hR.ok) (cwV 1 S.2.2.2.2 gL_law_X3_twins rfl rfl rfl ⟨rfl, hd_X3_twins⟩ ⟨Nat.le_of_ble_eq_true rfl, Nat.le_of_ble_eq_true rfl⟩) (preV hKC hN wC (k := 0) (by decide) (eC_0 adC _) (q := (RX3, TX3, 14)) rfl) rfl rfl hl.1 rfl (lv_room (Nat.le_of_ble_eq_true rfl)) dL_law_275 (rm_ok hnc hns)) ?_
    refine lv_iload hx hb dL_law_278 (lv_at hl 9 rfl) ?_
    refine lv_icmp_ne (tgt := 315) hx hb dL_law_280 (by decide) (fun c280 => ?_) (fun c280 => ?_)
    · exact absurd (q_twins_m1 hR) c280
    · have t280 : (f_X3_twins σ (-1)).toInt = (nI (c1 σ (ix (σ 0 4)) (ix (σ 0 4)))).toInt := qt_eq c280
      refine lv_aload_n hx hb dL_law_283 rfl (lv_at hl 1 rfl) ?_
      refine lv_iload hx hb dL_law_284 (lv_at hl 9 rfl) ?_
      refine call0i (va_runV (As := [.int (nI (c1 σ (ix (σ 0 4)) (ix (σ 0 4))))]) (rest := []) S (c_X3_twins l adC D H.size σ (nI (c1 σ (ix (σ 0 4)) (ix (σ 0 4)))) hR.ok) (cwV 1 S.2.2.2.2 gL_law_X3_twins rfl rfl rfl ⟨rfl, hd_X3_twins⟩ ⟨Nat.le_of_ble_eq_true rfl, Nat.le_of_ble_eq_true rfl⟩) (preV hKC hN wC (k := 0) (by decide) (eC_0 adC _) (q := (RX3, TX3, 14)) rfl) rfl rfl hl.1 rfl (lv_room (Nat.le_of_ble_eq_true rfl)) dL_law_286 (rm_ok hnc hns)) ?_
      refine lv_bipush (v := (-9)) hx hb dL_law_289 (by decide) ?_
      refine lv_icmp_ne (tgt := 315) hx hb dL_law_291 (by decide) (fun c291 => ?_) (fun c291 => ?_)
      · exact absurd (q_twins_all hR) c291
      · have t291 : (f_X3_twins σ (nI (c1 σ (ix (σ 0 4)) (ix (σ 0 4))))).toInt = -9 := qt_eq c291
        refine lv_aload_n hx hb dL_law_294 rfl (lv_at hl 1 rfl) ?_
        refine lv_bipush (v := (-2)) hx hb dL_law_295 (by decide) ?_
        refine call0i (va_runV (As := [.int (-2)]) (rest := []) S (c_X3_twins l adC D H.size σ (-2) hR.ok) (cwV 1 S.2.2.2.2 gL_law_X3_twins rfl rfl rfl ⟨rfl, hd_X3_twins⟩ ⟨Nat.le_of_ble_eq_true rfl, Nat.le_of_ble_eq_true rfl⟩) (preV hKC hN wC (k := 0) (by decide) (eC_0 adC _) (q := (RX3, TX3, 14)) rfl) rfl rfl hl.1 rfl (lv_room (Nat.le_of_ble_eq_true rfl)) dL_law_297 (rm_ok hnc hns)) ?_
        refine lv_iconst (v := (-1)) hx hb dL_law_300 (by decide) ?_
        refine lv_icmp_ne (tgt := 315) hx hb dL_law_301 (by decide) (fun c301 => ?_) (fun c301 => ?_)
        · exact absurd q_twins_m2 c301
        · have t301 : (f_X3_twins σ (-2)).toInt = -1 := qt_eq c301
          refine lv_aload_n hx hb dL_law_304 rfl (lv_at hl 1 rfl) ?_
          refine lv_iconst (v := 0) hx hb dL_law_305 (by decide) ?_
          refine lv_iload hx hb dL_law_306 (lv_at hl 5 rfl) ?_
          refine call0i (va_runV (As := [.int 0, .int v5]) (rest := []) S (c_X3_apart l adC D H.size σ 0 v5 hR.ok) (cwV 2 S.2.2.2.2 gL_law_X3_apart rfl rfl rfl ⟨rfl, hd_X3_apart⟩ ⟨Nat.le_of_ble_eq_true rfl, Nat.le_of_ble_eq_true rfl⟩) (preV hKC hN wC (k := 0) (by decide) (eC_0 adC _) (q := (RX3, TX3, 14)) rfl) rfl rfl hl.1 rfl (lv_room (Nat.le_of_ble_eq_true rfl)) dL_law_308 (rm_ok hnc hns)) ?_
          refine lv_iconst (v := (-1)) hx hb dL_law_311 (by decide) ?_
          refine lv_icmp_eq (tgt := 317) hx hb dL_law_312 (by decide) (fun c312 => ?_) (fun c312 => ?_)
          · have t312 : (f_X3_apart σ 0 v5).toInt = -1 := qt_eq c312
            exact next h100 hdis H locs wC wL ls (lv_sub hl [0, 1, 2, 3, 4, 5, 6, 7, 8] rfl)
          · exact absurd (q_apart_n (by omega)) c312
  intro h100 hdis H locs wC wL ls hl
  obtain ⟨hL, C0, hKC⟩ := id hC
  obtain ⟨hx, hb, hr, hml, hown, hts, hX, hbl, hlocks, hgv⟩ := C0
  have hN : NW s := NW_of hts
  have S : CallFix p m c cL_law 30 s #[Value.ref b] wsL_law RL := ⟨hx, hb, hml, hown, fun w h => hts w (wsL_law_in w h)⟩
  have hbA : ¬ (fun q : Nat => s.heap.size ≤ q) b := Nat.not_le.mpr hbl
  have hKL := KL_of hKC h100
  have z0 : (0 : Int32).toInt = 0 := by decide
  have z1 : (1 : Int32).toInt = 1 := by decide
  refine lv_iconst (v := 0) hx hb dL_law_172 (by decide) ?_
  refine lv_istore (lv' := [(11, .int 0), (0, .ref b), (1, .ref (adC 0)), (2, .ref (adL 0)), (3, .ref (adL 1)), (4, .ref (adL 2)), (5, .int v5), (6, .int v6), (7, .int v7), (10, .int v10)]) hx hb dL_law_173 hl (by decide) rfl (fun ls hl => ?_)
  refine lv_iconst (v := 0) hx hb dL_law_175 (by decide) ?_
  refine lv_istore (lv' := [(12, .int 0), (11, .int 0), (0, .ref b), (1, .ref (adC 0)), (2, .ref (adL 0)), (3, .ref (adL 1)), (4, .ref (adL 2)), (5, .int v5), (6, .int v6), (7, .int v7), (10, .int v10)]) hx hb dL_law_176 hl (by decide) rfl (fun ls hl => ?_)
  have hn := hB.n
  have e0 : c1 σ (ix (σ 0 4)) (ix 0) = 0 := rfl
  have e1 : nI (c1 σ (ix (σ 0 4)) (ix 0)) = 0 := rfl
  refine l_178 hC hnc hns hB h10 h273 100 0 (by omega) (by omega) (by omega) h100 hdis H locs wC wL ls ?_
  rw [e1]
  exact lv_sub hl [2, 3, 4, 5, 6, 7, 8, 9, 10, 1, 0] rfl
