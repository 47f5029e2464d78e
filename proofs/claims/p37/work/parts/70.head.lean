/-! the law's walk: head of a round; apart and twins -/
set_option maxHeartbeats 8000000 in
set_option maxRecDepth 100000 in
theorem s_head {p : Program} {l : Launch} {e : Env} {s : State} {m : MethodId} {below : List Frame} {meth : Method} {c : Code} {D : va_G} {b L : Nat} {xs : Nat → Int32} {adC : Nat → Nat} (hC : LC p s m meth c D b L xs adC) {adL : Nat → Nat} {σ τ : St} {nc ns : Nat} (hnc : nc ≤ 1000) (hns : ns ≤ 10000) {v5 v6 : Int32} (hB : Bs σ τ v5 v6)
    (next : ∀ (σ' τ' : St) (v7 v10 : Int32), Bs σ' τ' v5 v6 → v10 = σ' 0 7 → LG p l e s m below meth c D b adC adL 3 σ' τ' nc ns 172 [(0, .ref b), (1, .ref (adC 0)), (2, .ref (adL 0)), (3, .ref (adL 1)), (4, .ref (adL 2)), (5, .int v5), (6, .int v6), (7, .int v7), (10, .int v10)] []) : LG p l e s m below meth c D b adC adL 3 σ τ nc ns 80 [(0, .ref b), (1, .ref (adC 0)), (2, .ref (adL 0)), (3, .ref (adL 1)), (4, .ref (adL 2)), (5, .int v5), (6, .int v6)] [] := by
  intro h100 hdis H locs wC wL ls hl
  obtain ⟨hL, C0, hKC⟩ := id hC
  obtain ⟨hx, hb, hr, hml, hown, hts, hX, hbl, hlocks, hgv⟩ := C0
  have hN : NW s := NW_of hts
  have S : CallFix p m c cL_law 30 s #[Value.ref b] wsL_law RL := ⟨hx, hb, hml, hown, fun w h => hts w (wsL_law_in w h)⟩
  have hbA : ¬ (fun q : Nat => s.heap.size ≤ q) b := Nat.not_le.mpr hbl
  have hKL := KL_of hKC h100
  have z0 : (0 : Int32).toInt = 0 := by decide
  have z1 : (1 : Int32).toInt = 1 := by decide
  have hR := hB.1
  have hn := hB.n
  have h6 := hB.2.2.1
  have z9 : (9 : Int32).toInt = 9 := by decide
  have z3 : (3 : Int32).toInt = 3 := by decide
  have e85 := a_toInt (a := 9) (b := v6) (by omega) (by omega)
  refine lv_aload_n hx hb dL_law_80 rfl (lv_at hl 0 rfl) ?_
  refine lv_bipush (v := 9) hx hb dL_law_81 (by decide) ?_
  refine lv_iload hx hb dL_law_83 (lv_at hl 6 rfl) ?_
  refine lv_iadd hx hb dL_law_85 ?_
  refine call0i (va_runS (As := [.ref b, .int (9 + v6)]) (rest := []) S (c_L_cell l b L xs (9 + v6) (by omega) (by omega)) (va_cwS 2 S.2.2.2.2 gL_law_L_cell rfl rfl rfl hd_L_cell ⟨Nat.le_of_ble_eq_true rfl, Nat.le_of_ble_eq_true rfl⟩) (preX hX hbl hbA wC.2.2.1) rfl rfl hl.1 rfl (lv_room (Nat.le_of_ble_eq_true rfl)) dL_law_86 (rm_ok hnc hns)) ?_
  refine lv_istore (lv' := [(7, .int (cellF L xs (9 + v6))), (0, .ref b), (1, .ref (adC 0)), (2, .ref (adL 0)), (3, .ref (adL 1)), (4, .ref (adL 2)), (5, .int v5), (6, .int v6)]) hx hb dL_law_89 hl (by decide) rfl (fun ls hl => ?_)
  generalize (cellF L xs (9 + v6)) = v7 at hl
  refine lv_iload hx hb dL_law_91 (lv_at hl 0 rfl) ?_
  refine lv_bipush (v := 9) hx hb dL_law_93 (by decide) ?_
  refine call0i (va_runS (As := [.int v7, .int 9]) (rest := []) S (c_L_low l v7 9 (by decide)) (va_cwS 2 S.2.2.2.2 gL_law_L_low rfl rfl rfl hd_L_low ⟨Nat.le_of_ble_eq_true rfl, Nat.le_of_ble_eq_true rfl⟩) pre0S rfl rfl hl.1 rfl (lv_room (Nat.le_of_ble_eq_true rfl)) dL_law_95 (rm_ok hnc hns)) ?_
  refine lv_istore (lv' := [(8, .int (f_L_low v7 9)), (7, .int v7), (0, .ref b), (1, .ref (adC 0)), (2, .ref (adL 0)), (3, .ref (adL 1)), (4, .ref (adL 2)), (5, .int v5), (6, .int v6)]) hx hb dL_law_98 hl (by decide) rfl (fun ls hl => ?_)
  have q8 : 0 ≤ (f_L_low v7 9).toInt ∧ (f_L_low v7 9).toInt < 9 := low_lt (by decide) (by decide)
  generalize (f_L_low v7 9) = v8 at hl q8
  refine lv_iconst (v := 1) hx hb dL_law_100 (by decide) ?_
  refine lv_iload hx hb dL_law_101 (lv_at hl 1 rfl) ?_
  refine lv_iconst (v := 4) hx hb dL_law_103 (by decide) ?_
  refine lv_ishr hx hb dL_law_104 ?_
  refine lv_bipush (v := 9) hx hb dL_law_105 (by decide) ?_
  refine call0i (va_runS (As := [.int (v7 >>> ((4 : Int32) &&& 31)), .int 9]) (rest := [.int 1]) S (c_L_low l (v7 >>> ((4 : Int32) &&& 31)) 9 (by decide)) (va_cwS 2 S.2.2.2.2 gL_law_L_low rfl rfl rfl hd_L_low ⟨Nat.le_of_ble_eq_true rfl, Nat.le_of_ble_eq_true rfl⟩) pre0S rfl rfl hl.1 rfl (lv_room (Nat.le_of_ble_eq_true rfl)) dL_law_107 (rm_ok hnc hns)) ?_
  refine lv_iadd hx hb dL_law_110 ?_
  refine lv_istore (lv' := [(9, .int (1 + (f_L_low (v7 >>> ((4 : Int32) &&& 31)) 9))), (8, .int v8), (7, .int v7), (0, .ref b), (1, .ref (adC 0)), (2, .ref (adL 0)), (3, .ref (adL 1)), (4, .ref (adL 2)), (5, .int v5), (6, .int v6)]) hx hb dL_law_111 hl (by decide) rfl (fun ls hl => ?_)
  have q9 : 1 ≤ (1 + (f_L_low (v7 >>> ((4 : Int32) &&& 31)) 9)).toInt ∧ (1 + (f_L_low (v7 >>> ((4 : Int32) &&& 31)) 9)).toInt ≤ 9 := low1
  generalize (1 + (f_L_low (v7 >>> ((4 : Int32) &&& 31)) 9)) = v9 at hl q9
  refine lv_aload_n hx hb dL_law_113 rfl (lv_at hl 4 rfl) ?_
  refine lv_iload hx hb dL_law_114 (lv_at hl 1 rfl) ?_
  refine lv_iload hx hb dL_law_116 (lv_at hl 0 rfl) ?_
  refine callWi2 wC wL hdis (va_runV (As := [.int v8, .int v9]) (rest := []) S (c_X3_half l adC D H.size σ v8 v9) (cwV 2 S.2.2.2.2 gL_law_X3_half rfl rfl rfl ⟨rfl, hd_X3_half⟩ ⟨Nat.le_of_ble_eq_true rfl, Nat.le_of_ble_eq_true rfl⟩) (preV hKC hN wC (k := 0) (by decide) (eC_0 adC _) (q := (RX3, TX3, 14)) rfl) rfl rfl hl.1 rfl (lv_room (Nat.le_of_ble_eq_true rfl)) dL_law_118 (rm_ok hnc hns)) (fun H locs wC wL => ?_)
  have q118 := q_half hR q8.1 (by omega) q9.1 q9.2
  rw [pr1 q118]
  rw [pr2 q118] at wC
  refine lv_aload_n hx hb dL_law_121 rfl (lv_at hl 5 rfl) ?_
  have e125 := a_toInt (a := 3) (b := v8) (by omega) (by omega)
  refine lv_iconst (v := 3) hx hb dL_law_122 (by decide) ?_
  refine lv_iload hx hb dL_law_123 (lv_at hl 1 rfl) ?_
  refine lv_iadd hx hb dL_law_125 ?_
  have g126 : vp_in (3 + v8) 16 := vpi (by omega) (by omega)
  refine r_iald (cA := adL 100) (N := 16) S hKL wL (k := 0) (by decide) (fun f => rfl) rfl g126 dL_law_126 ?_
  refine lv_icmp_eq (tgt := 132) hx hb dL_law_127 (by decide) (fun c127 => ?_) (fun c127 => ?_)
  · have t127 : (σ 4 (ix v8)).toInt = (τ 0 (ix (3 + v8))).toInt := qt_eq c127
    refine lv_aload_n hx hb dL_law_132 rfl (lv_at hl 5 rfl) ?_
    refine lv_iconst (v := 3) hx hb dL_law_133 (by decide) ?_
    refine lv_iload hx hb dL_law_134 (lv_at hl 1 rfl) ?_
    refine lv_iadd hx hb dL_law_136 ?_
    refine lv_iload hx hb dL_law_137 (lv_at hl 0 rfl) ?_
    have g139 : vp_in (3 + v8) 16 := vpi (by omega) (by omega)
    refine iast2 S hKL wC wL hdis (k := 0) (by decide) (cA := adL 100) (N := 16) (fun f => rfl) rfl g139 dL_law_139 (fun H locs wC wL => ?_)
    have hR1 := Rl_half hR q8.1 (by omega) q9.1 q9.2
    have e4 : u2 σ 4 (ix v8) v9 0 4 = σ 0 4 := u2_o (by omega) 4
    have e8 : u2 σ 4 (ix v8) v9 8 = σ 8 := u2_nc (by omega)
    generalize u2 σ 4 (ix v8) v9 = σ1 at wC hR1 e4 e8
    generalize u2 τ 0 (ix (3 + v8)) v9 = τ1 at wL hR1
    refine lv_iload hx hb dL_law_140 (lv_at hl 2 rfl) ?_
    refine lv_bipush (v := 8) hx hb dL_law_142 (by decide) ?_
    refine lv_ishr hx hb dL_law_144 ?_
    refine lv_sipush (v := 400) hx hb dL_law_145 (by decide) ?_
    refine call0i (va_runS (As := [.int (v7 >>> ((8 : Int32) &&& 31)), .int 400]) (rest := []) S (c_L_low l (v7 >>> ((8 : Int32) &&& 31)) 400 (by decide)) (va_cwS 2 S.2.2.2.2 gL_law_L_low rfl rfl rfl hd_L_low ⟨Nat.le_of_ble_eq_true rfl, Nat.le_of_ble_eq_true rfl⟩) pre0S rfl rfl hl.1 rfl (lv_room (Nat.le_of_ble_eq_true rfl)) dL_law_148 (rm_ok hnc hns)) ?_
    refine lv_istore (lv' := [(10, .int (f_L_low (v7 >>> ((8 : Int32) &&& 31)) 400)), (9, .int v9), (8, .int v8), (7, .int v7), (0, .ref b), (1, .ref (adC 0)), (2, .ref (adL 0)), (3, .ref (adL 1)), (4, .ref (adL 2)), (5, .int v5), (6, .int v6)]) hx hb dL_law_151 hl (by decide) rfl (fun ls hl => ?_)
    have q10 : 0 ≤ (f_L_low (v7 >>> ((8 : Int32) &&& 31)) 400).toInt ∧ (f_L_low (v7 >>> ((8 : Int32) &&& 31)) 400).toInt < 400 := low_lt (by decide) (by decide)
    generalize (f_L_low (v7 >>> ((8 : Int32) &&& 31)) 400) = v10 at hl q10
    refine lv_aload_n hx hb dL_law_153 rfl (lv_at hl 5 rfl) ?_
    refine lv_iload hx hb dL_law_154 (lv_at hl 0 rfl) ?_
    refine callWi2 wC wL hdis (va_runV (As := [.int v10]) (rest := []) S (c_X3_bound l adC D H.size σ1 v10) (cwV 1 S.2.2.2.2 gL_law_X3_bound rfl rfl rfl ⟨rfl, hd_X3_bound⟩ ⟨Nat.le_of_ble_eq_true rfl, Nat.le_of_ble_eq_true rfl⟩) (preV hKC hN wC (k := 0) (by decide) (eC_0 adC _) (q := (RX3, TX3, 14)) rfl) rfl rfl hl.1 rfl (lv_room (Nat.le_of_ble_eq_true rfl)) dL_law_156 (rm_ok hnc hns)) (fun H locs wC wL => ?_)
    have q156 := q_bound hR1 q10.1 (by omega)
    rw [pr1 q156]
    rw [pr2 q156] at wC
    refine lv_aload_n hx hb dL_law_159 rfl (lv_at hl 6 rfl) ?_
    refine lv_iconst (v := 2) hx hb dL_law_160 (by decide) ?_
    have g161 : vp_in 2 16 := vpi (by decide) (by decide)
    refine r_iald (cA := adL 100) (N := 16) S hKL wL (k := 0) (by decide) (fun f => rfl) rfl g161 dL_law_161 ?_
    refine lv_icmp_eq (tgt := 167) hx hb dL_law_162 (by decide) (fun c162 => ?_) (fun c162 => ?_)
    · have t162 : (σ1 0 7).toInt = (τ1 0 (ix 2)).toInt := qt_eq c162
      refine lv_aload_n hx hb dL_law_167 rfl (lv_at hl 6 rfl) ?_
      refine lv_iconst (v := 2) hx hb dL_law_168 (by decide) ?_
      refine lv_iload hx hb dL_law_169 (lv_at hl 0 rfl) ?_
      have g171 : vp_in 2 16 := vpi (by decide) (by decide)
      refine iast2 S hKL wC wL hdis (k := 0) (by decide) (cA := adL 100) (N := 16) (fun f => rfl) rfl g171 dL_law_171 (fun H locs wC wL => ?_)
      have hR2 := Rl_bound hR1 q10.1 (by omega)
      have f4 : u2 σ1 0 7 v10 0 4 = σ1 0 4 := u2_nk (by omega)
      have f8 : u2 σ1 0 7 v10 8 = σ1 8 := u2_nc (by omega)
      have f7 : u2 σ1 0 7 v10 0 7 = v10 := u2_self _ _ _ _
      generalize u2 σ1 0 7 v10 = σ2 at wC hR2 f4 f8 f7
      generalize u2 τ1 0 (ix 2) v10 = τ2 at wL hR2
      exact (next σ2 τ2 v7 v10 ⟨hR2, by rw [f4, e4]; exact hB.2.1, hB.2.2.1, fun z => by rw [f8, e8]; exact hB.2.2.2 z⟩ f7.symm) h100 hdis H locs wC wL ls (lv_sub hl [4, 5, 6, 7, 8, 9, 10, 3, 0] rfl)
    · exact absurd hR1.tb.symm c162
  · exact absurd (hR.th q8.1 (by omega)).symm c127
