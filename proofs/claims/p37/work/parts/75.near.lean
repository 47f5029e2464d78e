/-! the law's walk: near, steals -/
set_option maxHeartbeats 8000000 in
set_option maxRecDepth 100000 in
theorem l_842 {p : Program} {l : Launch} {e : Env} {s : State} {m : MethodId} {below : List Frame} {meth : Method} {c : Code} {D : va_G} {b L : Nat} {xs : Nat → Int32} {adC : Nat → Nat} (hC : LC p s m meth c D b L xs adC) {adL : Nat → Nat} {σ τ : St} {nc ns : Nat} (hnc : nc ≤ 1000) (hns : ns ≤ 10000) {v5 v6 v10 v12 v13 v16 v17 : Int32} (hB : Bs σ τ v5 v6) (h12 : 0 ≤ v12.toInt ∧ v12.toInt < v5.toInt) (h13 : 0 ≤ v13.toInt ∧ v13.toInt < v5.toInt) (h17 : 0 ≤ v17.toInt ∧ v17.toInt ≤ 10)
    (hex : LG p l e s m below meth c D b adC adL 3 σ τ nc ns 964 [(0, .ref b), (1, .ref (adC 0)), (2, .ref (adL 0)), (3, .ref (adL 1)), (4, .ref (adL 2)), (5, .int v5), (6, .int v6), (10, .int v10), (12, .int v12), (13, .int v13), (16, .int v16), (17, .int v17), (18, .int (8 * nearS σ (ix v12) (ix v13) v17))] []) : ∀ (k : Nat) (v19 : Int32), 0 ≤ v19.toInt → v19.toInt ≤ 9 → 9 < v19.toInt + k → LG p l e s m below meth c D b adC adL 3 σ τ nc ns 842 [(0, .ref b), (1, .ref (adC 0)), (2, .ref (adL 0)), (3, .ref (adL 1)), (4, .ref (adL 2)), (5, .int v5), (6, .int v6), (10, .int v10), (12, .int v12), (13, .int v13), (16, .int v16), (17, .int v17), (18, .int (sm (fun k => 8 * jabs (nowF (σ (25 + ix v12) k) (σ (25 + ix v13) k) v17 - σ (25 + ix v13) k)) (ix v19))), (19, .int v19)] [] := by
  intro k
  induction k with
  | zero => intro v19 a1 a2 a3; exact absurd a3 (by omega)
  | succ k ih =>
  intro v19 a1 a2 a3
  intro h100 hdis H locs wC wL ls hl
  obtain ⟨hL, C0, hKC⟩ := id hC
  obtain ⟨hx, hb, hr, hml, hown, hts, hX, hbl, hlocks, hgv⟩ := C0
  have hN : NW s := NW_of hts
  have S : CallFix p m c cL_law 30 s #[Value.ref b] wsL_law RL := ⟨hx, hb, hml, hown, fun w h => hts w (wsL_law_in w h)⟩
  have hbA : ¬ (fun q : Nat => s.heap.size ≤ q) b := Nat.not_le.mpr hbl
  have hKL := KL_of hKC h100
  have z0 : (0 : Int32).toInt = 0 := by decide
  have z1 : (1 : Int32).toInt = 1 := by decide
  have hR := hB.1
  have hn := hB.n
  have j19 := ix_toInt (x := v19) (by omega)
  refine lv_iload hx hb dL_law_842 (lv_at hl 13 rfl) ?_
  refine lv_bipush (v := 9) hx hb dL_law_844 (by decide) ?_
  refine lv_icmp_ge (tgt := 964) hx hb dL_law_846 (by decide) (fun c846 => ?_) (fun c846 => ?_)
  · have t846 : 9 ≤ v19.toInt := qt_le c846
    have e19 : ix v19 = 9 := by omega
    rw [e19, sm_mul] at hl
    exact hex h100 hdis H locs wC wL ls (lv_sub hl [0, 1, 2, 3, 4, 5, 6, 7, 8, 9, 10, 11, 12] rfl)
  · have t846 : v19.toInt < 9 := qt_nle c846
    have e857 := a_toInt (a := 1) (b := v19) (by omega) (by omega)
    have sx := hR.st (x := v12) (k := v19) (by omega) (by omega) (by omega) (by omega)
    have sy := hR.st (x := v13) (k := v19) (by omega) (by omega) (by omega) (by omega)
    have qn0 := q_near hR (x := v12) (y := v13) (t := v17) (k := v19) (by omega) (by omega) (by omega) (by omega) (by omega) (by omega) (by omega) (by omega)
    refine lv_aload_n hx hb dL_law_849 rfl (lv_at hl 3 rfl) ?_
    refine lv_aload hx hb dL_law_850 (lv_at hl 4 rfl) ?_
    refine lv_iload hx hb dL_law_852 (lv_at hl 8 rfl) ?_
    refine lv_iconst (v := 1) hx hb dL_law_854 (by decide) ?_
    refine lv_iload hx hb dL_law_855 (lv_at hl 13 rfl) ?_
    refine lv_iadd hx hb dL_law_857 ?_
    refine call0i (va_runS (As := [.ref (adL 1), .ref (adL 2), .int v12, .int (1 + v19)]) (rest := []) S (c_L_get l adL D H.size τ v12 (1 + v19) (by omega) (by omega)) (va_cwS 4 S.2.2.2.2 gL_law_L_get rfl rfl rfl hd_L_get ⟨Nat.le_of_ble_eq_true rfl, Nat.le_of_ble_eq_true rfl⟩) (preS hKL hN wL) rfl rfl hl.1 rfl (lv_room (Nat.le_of_ble_eq_true rfl)) dL_law_858 (rm_ok hnc hns)) ?_
    refine lv_istore (lv' := [(20, .int (f_L_get τ v12 (1 + v19))), (0, .ref b), (1, .ref (adC 0)), (2, .ref (adL 0)), (3, .ref (adL 1)), (4, .ref (adL 2)), (5, .int v5), (6, .int v6), (10, .int v10), (12, .int v12), (13, .int v13), (16, .int v16), (17, .int v17), (18, .int (sm (fun k => 8 * jabs (nowF (σ (25 + ix v12) k) (σ (25 + ix v13) k) v17 - σ (25 + ix v13) k)) (ix v19))), (19, .int v19)]) hx hb dL_law_861 hl (by decide) rfl (fun ls hl => ?_)
    have q20 : (f_L_get τ v12 (1 + v19)) = σ (25 + ix v12) (ix v19) := sx.1
    have qn1 : f_X3_near σ v12 v13 v17 v19 = nowF (f_L_get τ v12 (1 + v19)) (f_L_get τ v13 (1 + v19)) v17 := qn0
    generalize (f_L_get τ v12 (1 + v19)) = v20 at hl q20 qn1
    refine lv_aload_n hx hb dL_law_863 rfl (lv_at hl 4 rfl) ?_
    refine lv_aload hx hb dL_law_864 (lv_at hl 5 rfl) ?_
    refine lv_iload hx hb dL_law_866 (lv_at hl 10 rfl) ?_
    refine lv_iconst (v := 1) hx hb dL_law_868 (by decide) ?_
    refine lv_iload hx hb dL_law_869 (lv_at hl 14 rfl) ?_
    refine lv_iadd hx hb dL_law_871 ?_
    refine call0i (va_runS (As := [.ref (adL 1), .ref (adL 2), .int v13, .int (1 + v19)]) (rest := []) S (c_L_get l adL D H.size τ v13 (1 + v19) (by omega) (by omega)) (va_cwS 4 S.2.2.2.2 gL_law_L_get rfl rfl rfl hd_L_get ⟨Nat.le_of_ble_eq_true rfl, Nat.le_of_ble_eq_true rfl⟩) (preS hKL hN wL) rfl rfl hl.1 rfl (lv_room (Nat.le_of_ble_eq_true rfl)) dL_law_872 (rm_ok hnc hns)) ?_
    refine lv_istore (lv' := [(21, .int (f_L_get τ v13 (1 + v19))), (20, .int v20), (0, .ref b), (1, .ref (adC 0)), (2, .ref (adL 0)), (3, .ref (adL 1)), (4, .ref (adL 2)), (5, .int v5), (6, .int v6), (10, .int v10), (12, .int v12), (13, .int v13), (16, .int v16), (17, .int v17), (18, .int (sm (fun k => 8 * jabs (nowF (σ (25 + ix v12) k) (σ (25 + ix v13) k) v17 - σ (25 + ix v13) k)) (ix v19))), (19, .int v19)]) hx hb dL_law_875 hl (by decide) rfl (fun ls hl => ?_)
    have q21 : (f_L_get τ v13 (1 + v19)) = σ (25 + ix v13) (ix v19) := sy.1
    have qn2 : f_X3_near σ v12 v13 v17 v19 = nowF v20 (f_L_get τ v13 (1 + v19)) v17 := qn1
    generalize (f_L_get τ v13 (1 + v19)) = v21 at hl q21 qn2
    refine lv_iload hx hb dL_law_877 (lv_at hl 1 rfl) ?_
    refine lv_iload hx hb dL_law_879 (lv_at hl 0 rfl) ?_
    refine call0i (va_runS (As := [.int v20, .int v21]) (rest := []) S (c_L_off l v20 v21) (va_cwS 2 S.2.2.2.2 gL_law_L_off rfl rfl rfl hd_L_off ⟨Nat.le_of_ble_eq_true rfl, Nat.le_of_ble_eq_true rfl⟩) pre0S rfl rfl hl.1 rfl (lv_room (Nat.le_of_ble_eq_true rfl)) dL_law_881 (rm_ok hnc hns)) ?_
    refine lv_iload hx hb dL_law_884 (lv_at hl 13 rfl) ?_
    refine lv_imul hx hb dL_law_886 ?_
    refine lv_istore (lv' := [(22, .int ((f_L_off v20 v21) * v17)), (21, .int v21), (20, .int v20), (0, .ref b), (1, .ref (adC 0)), (2, .ref (adL 0)), (3, .ref (adL 1)), (4, .ref (adL 2)), (5, .int v5), (6, .int v6), (10, .int v10), (12, .int v12), (13, .int v13), (16, .int v16), (17, .int v17), (18, .int (sm (fun k => 8 * jabs (nowF (σ (25 + ix v12) k) (σ (25 + ix v13) k) v17 - σ (25 + ix v13) k)) (ix v19))), (19, .int v19)]) hx hb dL_law_887 hl (by decide) rfl (fun ls hl => ?_)
    refine lv_iload hx hb dL_law_889 (lv_at hl 0 rfl) ?_
    refine lv_iload hx hb dL_law_891 (lv_at hl 0 rfl) ?_
    refine lv_bipush (v := 10) hx hb dL_law_893 (by decide) ?_
    refine lv_irem hx hb dL_law_895 (by decide) ?_
    refine lv_isub hx hb dL_law_896 ?_
    refine lv_bipush (v := 10) hx hb dL_law_897 (by decide) ?_
    refine lv_idiv hx hb dL_law_899 (by decide) ?_
    refine lv_istore (lv' := [(22, .int ((((f_L_off v20 v21) * v17) - (((f_L_off v20 v21) * v17) - (((f_L_off v20 v21) * v17) / 10) * 10)) / 10)), (21, .int v21), (20, .int v20), (0, .ref b), (1, .ref (adC 0)), (2, .ref (adL 0)), (3, .ref (adL 1)), (4, .ref (adL 2)), (5, .int v5), (6, .int v6), (10, .int v10), (12, .int v12), (13, .int v13), (16, .int v16), (17, .int v17), (18, .int (sm (fun k => 8 * jabs (nowF (σ (25 + ix v12) k) (σ (25 + ix v13) k) v17 - σ (25 + ix v13) k)) (ix v19))), (19, .int v19)]) hx hb dL_law_900 hl (by decide) rfl (fun ls hl => ?_)
    refine lv_iload hx hb dL_law_902 (lv_at hl 1 rfl) ?_
    refine lv_iload hx hb dL_law_904 (lv_at hl 2 rfl) ?_
    refine lv_icmp_ge (tgt := 917) hx hb dL_law_906 (by decide) (fun c906 => ?_) (fun c906 => ?_)
    · have t906 : v20.toInt ≤ v21.toInt := qt_le c906
      refine lv_iload hx hb dL_law_917 (lv_at hl 2 rfl) ?_
      refine lv_iload hx hb dL_law_919 (lv_at hl 0 rfl) ?_
      refine lv_iadd hx hb dL_law_921 ?_
      refine lv_istore (lv' := [(23, .int (v20 + ((((f_L_off v20 v21) * v17) - (((f_L_off v20 v21) * v17) - (((f_L_off v20 v21) * v17) / 10) * 10)) / 10))), (22, .int ((((f_L_off v20 v21) * v17) - (((f_L_off v20 v21) * v17) - (((f_L_off v20 v21) * v17) / 10) * 10)) / 10)), (21, .int v21), (20, .int v20), (0, .ref b), (1, .ref (adC 0)), (2, .ref (adL 0)), (3, .ref (adL 1)), (4, .ref (adL 2)), (5, .int v5), (6, .int v6), (10, .int v10), (12, .int v12), (13, .int v13), (16, .int v16), (17, .int v17), (18, .int (sm (fun k => 8 * jabs (nowF (σ (25 + ix v12) k) (σ (25 + ix v13) k) v17 - σ (25 + ix v13) k)) (ix v19))), (19, .int v19)]) hx hb dL_law_922 hl (by decide) rfl (fun ls hl => ?_)
      have q23 : (v20 + ((((f_L_off v20 v21) * v17) - (((f_L_off v20 v21) * v17) - (((f_L_off v20 v21) * v17) / 10) * 10)) / 10)) = nowF v20 v21 v17 := by unfold nowF byF; first | rw [if_pos c906] | rw [if_neg c906]
      generalize (v20 + ((((f_L_off v20 v21) * v17) - (((f_L_off v20 v21) * v17) - (((f_L_off v20 v21) * v17) / 10) * 10)) / 10)) = v23 at hl q23
      have nb := now_eq (a := v20) (b := v21) (h := v17) (by rw [q20]; omega) (by rw [q20]; omega) (by rw [q21]; omega) (by rw [q21]; omega) (by omega) (by omega)
      rw [← q23] at nb
      refine lv_iload hx hb dL_law_924 (lv_at hl 16 rfl) ?_
      refine lv_bipush (v := 8) hx hb dL_law_926 (by decide) ?_
      refine lv_iload hx hb dL_law_928 (lv_at hl 0 rfl) ?_
      refine lv_iload hx hb dL_law_930 (lv_at hl 2 rfl) ?_
      refine call0i (va_runS (As := [.int v23, .int v21]) (rest := [.int 8, .int (sm (fun k => 8 * jabs (nowF (σ (25 + ix v12) k) (σ (25 + ix v13) k) v17 - σ (25 + ix v13) k)) (ix v19))]) S (c_L_off l v23 v21) (va_cwS 2 S.2.2.2.2 gL_law_L_off rfl rfl rfl hd_L_off ⟨Nat.le_of_ble_eq_true rfl, Nat.le_of_ble_eq_true rfl⟩) pre0S rfl rfl hl.1 rfl (lv_room (Nat.le_of_ble_eq_true rfl)) dL_law_932 (rm_ok hnc hns)) ?_
      have q932 : (f_L_off v23 v21) = jabs (v23 - v21) := off_eq (by omega) (by omega) (by rw [q21]; omega) (by rw [q21]; omega)
      generalize (f_L_off v23 v21) = w1 at hl q932 ⊢
      refine lv_imul hx hb dL_law_935 ?_
      refine lv_iadd hx hb dL_law_936 ?_
      refine lv_istore (lv' := [(18, .int ((sm (fun k => 8 * jabs (nowF (σ (25 + ix v12) k) (σ (25 + ix v13) k) v17 - σ (25 + ix v13) k)) (ix v19)) + (8 * w1))), (23, .int v23), (22, .int ((((f_L_off v20 v21) * v17) - (((f_L_off v20 v21) * v17) - (((f_L_off v20 v21) * v17) / 10) * 10)) / 10)), (21, .int v21), (20, .int v20), (0, .ref b), (1, .ref (adC 0)), (2, .ref (adL 0)), (3, .ref (adL 1)), (4, .ref (adL 2)), (5, .int v5), (6, .int v6), (10, .int v10), (12, .int v12), (13, .int v13), (16, .int v16), (17, .int v17), (19, .int v19)]) hx hb dL_law_937 hl (by decide) rfl (fun ls hl => ?_)
      refine lv_aload_n hx hb dL_law_939 rfl (lv_at hl 6 rfl) ?_
      refine lv_iload hx hb dL_law_940 (lv_at hl 13 rfl) ?_
      refine lv_iload hx hb dL_law_942 (lv_at hl 14 rfl) ?_
      refine lv_iload hx hb dL_law_944 (lv_at hl 16 rfl) ?_
      refine lv_iload hx hb dL_law_946 (lv_at hl 17 rfl) ?_
      refine call0i (va_runV (As := [.int v12, .int v13, .int v17, .int v19]) (rest := []) S (c_X3_near l adC D H.size σ v12 v13 v17 v19 hR.ok) (cwV 4 S.2.2.2.2 gL_law_X3_near rfl rfl rfl ⟨rfl, hd_X3_near⟩ ⟨Nat.le_of_ble_eq_true rfl, Nat.le_of_ble_eq_true rfl⟩) (preV hKC hN wC (k := 0) (by decide) (eC_0 adC _) (q := (RX3, TX3, 14)) rfl) rfl rfl hl.1 rfl (lv_room (Nat.le_of_ble_eq_true rfl)) dL_law_948 (rm_ok hnc hns)) ?_
      refine lv_iload hx hb dL_law_951 (lv_at hl 1 rfl) ?_
      refine lv_icmp_eq (tgt := 958) hx hb dL_law_953 (by decide) (fun c953 => ?_) (fun c953 => ?_)
      · have t953 : (f_X3_near σ v12 v13 v17 v19).toInt = v23.toInt := qt_eq c953
        refine lv_iinc (v := (v19 + 1)) (lv' := [(19, .int (v19 + 1)), (18, .int ((sm (fun k => 8 * jabs (nowF (σ (25 + ix v12) k) (σ (25 + ix v13) k) v17 - σ (25 + ix v13) k)) (ix v19)) + (8 * w1))), (23, .int v23), (22, .int ((((f_L_off v20 v21) * v17) - (((f_L_off v20 v21) * v17) - (((f_L_off v20 v21) * v17) / 10) * 10)) / 10)), (21, .int v21), (20, .int v20), (0, .ref b), (1, .ref (adC 0)), (2, .ref (adL 0)), (3, .ref (adL 1)), (4, .ref (adL 2)), (5, .int v5), (6, .int v6), (10, .int v10), (12, .int v12), (13, .int v13), (16, .int v16), (17, .int v17)]) hx hb dL_law_958 hl (k := 17) rfl rfl (by decide) rfl (fun ls hl => ?_)
        refine lv_goto (tgt := 842) hx hb dL_law_961 (by decide) ?_
        have e19 := inc_toInt (a := v19) (by omega) (by omega)
        have k19 := ix_toInt (x := v19 + 1) (by omega)
        have ei : ix (v19 + 1) = ix v19 + 1 := by omega
        have es : (sm (fun k => 8 * jabs (nowF (σ (25 + ix v12) k) (σ (25 + ix v13) k) v17 - σ (25 + ix v13) k)) (ix v19)) + 8 * jabs (nowF (σ (25 + ix v12) (ix v19)) (σ (25 + ix v13) (ix v19)) v17 - σ (25 + ix v13) (ix v19)) = sm (fun k => 8 * jabs (nowF (σ (25 + ix v12) k) (σ (25 + ix v13) k) v17 - σ (25 + ix v13) k)) (ix v19 + 1) := rfl
        rw [q932, q23, q20, q21, es, ← ei] at hl
        exact (ih (v19 + 1) (by omega) (by omega) (by omega)) h100 hdis H locs wC wL ls (lv_sub hl [6, 7, 8, 9, 10, 11, 12, 13, 14, 15, 16, 17, 1, 0] rfl)
      · exact absurd (qn2.trans q23.symm) c953
    · have t906 : v21.toInt < v20.toInt := qt_nle c906
      refine lv_iload hx hb dL_law_909 (lv_at hl 2 rfl) ?_
      refine lv_iload hx hb dL_law_911 (lv_at hl 0 rfl) ?_
      refine lv_isub hx hb dL_law_913 ?_
      refine lv_goto (tgt := 922) hx hb dL_law_914 (by decide) ?_
      refine lv_istore (lv' := [(23, .int (v20 - ((((f_L_off v20 v21) * v17) - (((f_L_off v20 v21) * v17) - (((f_L_off v20 v21) * v17) / 10) * 10)) / 10))), (22, .int ((((f_L_off v20 v21) * v17) - (((f_L_off v20 v21) * v17) - (((f_L_off v20 v21) * v17) / 10) * 10)) / 10)), (21, .int v21), (20, .int v20), (0, .ref b), (1, .ref (adC 0)), (2, .ref (adL 0)), (3, .ref (adL 1)), (4, .ref (adL 2)), (5, .int v5), (6, .int v6), (10, .int v10), (12, .int v12), (13, .int v13), (16, .int v16), (17, .int v17), (18, .int (sm (fun k => 8 * jabs (nowF (σ (25 + ix v12) k) (σ (25 + ix v13) k) v17 - σ (25 + ix v13) k)) (ix v19))), (19, .int v19)]) hx hb dL_law_922 hl (by decide) rfl (fun ls hl => ?_)
      have q23 : (v20 - ((((f_L_off v20 v21) * v17) - (((f_L_off v20 v21) * v17) - (((f_L_off v20 v21) * v17) / 10) * 10)) / 10)) = nowF v20 v21 v17 := by unfold nowF byF; first | rw [if_pos c906] | rw [if_neg c906]
      generalize (v20 - ((((f_L_off v20 v21) * v17) - (((f_L_off v20 v21) * v17) - (((f_L_off v20 v21) * v17) / 10) * 10)) / 10)) = v23 at hl q23
      have nb := now_eq (a := v20) (b := v21) (h := v17) (by rw [q20]; omega) (by rw [q20]; omega) (by rw [q21]; omega) (by rw [q21]; omega) (by omega) (by omega)
      rw [← q23] at nb
      refine lv_iload hx hb dL_law_924 (lv_at hl 16 rfl) ?_
      refine lv_bipush (v := 8) hx hb dL_law_926 (by decide) ?_
      refine lv_iload hx hb dL_law_928 (lv_at hl 0 rfl) ?_
      refine lv_iload hx hb dL_law_930 (lv_at hl 2 rfl) ?_
      refine call0i (va_runS (As := [.int v23, .int v21]) (rest := [.int 8, .int (sm (fun k => 8 * jabs (nowF (σ (25 + ix v12) k) (σ (25 + ix v13) k) v17 - σ (25 + ix v13) k)) (ix v19))]) S (c_L_off l v23 v21) (va_cwS 2 S.2.2.2.2 gL_law_L_off rfl rfl rfl hd_L_off ⟨Nat.le_of_ble_eq_true rfl, Nat.le_of_ble_eq_true rfl⟩) pre0S rfl rfl hl.1 rfl (lv_room (Nat.le_of_ble_eq_true rfl)) dL_law_932 (rm_ok hnc hns)) ?_
      have q932 : (f_L_off v23 v21) = jabs (v23 - v21) := off_eq (by omega) (by omega) (by rw [q21]; omega) (by rw [q21]; omega)
      generalize (f_L_off v23 v21) = w1 at hl q932 ⊢
      refine lv_imul hx hb dL_law_935 ?_
      refine lv_iadd hx hb dL_law_936 ?_
      refine lv_istore (lv' := [(18, .int ((sm (fun k => 8 * jabs (nowF (σ (25 + ix v12) k) (σ (25 + ix v13) k) v17 - σ (25 + ix v13) k)) (ix v19)) + (8 * w1))), (23, .int v23), (22, .int ((((f_L_off v20 v21) * v17) - (((f_L_off v20 v21) * v17) - (((f_L_off v20 v21) * v17) / 10) * 10)) / 10)), (21, .int v21), (20, .int v20), (0, .ref b), (1, .ref (adC 0)), (2, .ref (adL 0)), (3, .ref (adL 1)), (4, .ref (adL 2)), (5, .int v5), (6, .int v6), (10, .int v10), (12, .int v12), (13, .int v13), (16, .int v16), (17, .int v17), (19, .int v19)]) hx hb dL_law_937 hl (by decide) rfl (fun ls hl => ?_)
      refine lv_aload_n hx hb dL_law_939 rfl (lv_at hl 6 rfl) ?_
      refine lv_iload hx hb dL_law_940 (lv_at hl 13 rfl) ?_
      refine lv_iload hx hb dL_law_942 (lv_at hl 14 rfl) ?_
      refine lv_iload hx hb dL_law_944 (lv_at hl 16 rfl) ?_
      refine lv_iload hx hb dL_law_946 (lv_at hl 17 rfl) ?_
      refine call0i (va_runV (As := [.int v12, .int v13, .int v17, .int v19]) (rest := []) S (c_X3_near l adC D H.size σ v12 v13 v17 v19 hR.ok) (cwV 4 S.2.2.2.2 gL_law_X3_near rfl rfl rfl ⟨rfl, hd_X3_near⟩ ⟨Nat.le_of_ble_eq_true rfl, Nat.le_of_ble_eq_true rfl⟩) (preV hKC hN wC (k := 0) (by decide) (eC_0 adC _) (q := (RX3, TX3, 14)) rfl) rfl rfl hl.1 rfl (lv_room (Nat.le_of_ble_eq_true rfl)) dL_law_948 (rm_ok hnc hns)) ?_
      refine lv_iload hx hb dL_law_951 (lv_at hl 1 rfl) ?_
      refine lv_icmp_eq (tgt := 958) hx hb dL_law_953 (by decide) (fun c953 => ?_) (fun c953 => ?_)
      · have t953 : (f_X3_near σ v12 v13 v17 v19).toInt = v23.toInt := qt_eq c953
        refine lv_iinc (v := (v19 + 1)) (lv' := [(19, .int (v19 + 1)), (18, .int ((sm (fun k => 8 * jabs (nowF (σ (25 + ix v12) k) (σ (25 + ix v13) k) v17 - σ (25 + ix v13) k)) (ix v19)) + (8 * w1))), (23, .int v23), (22, .int ((((f_L_off v20 v21) * v17) - (((f_L_off v20 v21) * v17) - (((f_L_off v20 v21) * v17) / 10) * 10)) / 10)), (21, .int v21), (20, .int v20), (0, .ref b), (1, .ref (adC 0)), (2, .ref (adL 0)), (3, .ref (adL 1)), (4, .ref (adL 2)), (5, .int v5), (6, .int v6), (10, .int v10), (12, .int v12), (13, .int v13), (16, .int v16), (17, .int v17)]) hx hb dL_law_958 hl (k := 17) rfl rfl (by decide) rfl (fun ls hl => ?_)
        refine lv_goto (tgt := 842) hx hb dL_law_961 (by decide) ?_
        have e19 := inc_toInt (a := v19) (by omega) (by omega)
        have k19 := ix_toInt (x := v19 + 1) (by omega)
        have ei : ix (v19 + 1) = ix v19 + 1 := by omega
        have es : (sm (fun k => 8 * jabs (nowF (σ (25 + ix v12) k) (σ (25 + ix v13) k) v17 - σ (25 + ix v13) k)) (ix v19)) + 8 * jabs (nowF (σ (25 + ix v12) (ix v19)) (σ (25 + ix v13) (ix v19)) v17 - σ (25 + ix v13) (ix v19)) = sm (fun k => 8 * jabs (nowF (σ (25 + ix v12) k) (σ (25 + ix v13) k) v17 - σ (25 + ix v13) k)) (ix v19 + 1) := rfl
        rw [q932, q23, q20, q21, es, ← ei] at hl
        exact (ih (v19 + 1) (by omega) (by omega) (by omega)) h100 hdis H locs wC wL ls (lv_sub hl [6, 7, 8, 9, 10, 11, 12, 13, 14, 15, 16, 17, 1, 0] rfl)
      · exact absurd (qn2.trans q23.symm) c953
set_option maxHeartbeats 8000000 in
set_option maxRecDepth 100000 in
theorem l_831 {p : Program} {l : Launch} {e : Env} {s : State} {m : MethodId} {below : List Frame} {meth : Method} {c : Code} {D : va_G} {b L : Nat} {xs : Nat → Int32} {adC : Nat → Nat} (hC : LC p s m meth c D b L xs adC) {adL : Nat → Nat} {σ τ : St} {nc ns : Nat} (hnc : nc ≤ 1000) (hns : ns ≤ 10000) {v5 v6 v10 v12 v13 : Int32} (hB : Bs σ τ v5 v6) (h10 : v10 = σ 0 7) (h12 : 0 ≤ v12.toInt ∧ v12.toInt < v5.toInt) (h13 : 0 ≤ v13.toInt ∧ v13.toInt < v5.toInt)
    (hex : ∀ v16 : Int32, LSt (stl σ (ix v12) (ix v13)) 0 v16 → LG p l e s m below meth c D b adC adL 3 σ τ nc ns 986 [(0, .ref b), (1, .ref (adC 0)), (2, .ref (adL 0)), (3, .ref (adL 1)), (4, .ref (adL 2)), (5, .int v5), (6, .int v6), (10, .int v10), (12, .int v12), (13, .int v13), (16, .int v16)] []) : ∀ (k : Nat) (v16 v17 : Int32), -1 ≤ v17.toInt → v17.toInt ≤ 10 → LSt (stl σ (ix v12) (ix v13)) (v17.toInt + 1).toNat v16 → (v17.toInt + 1).toNat < k → LG p l e s m below meth c D b adC adL 3 σ τ nc ns 831 [(0, .ref b), (1, .ref (adC 0)), (2, .ref (adL 0)), (3, .ref (adL 1)), (4, .ref (adL 2)), (5, .int v5), (6, .int v6), (10, .int v10), (12, .int v12), (13, .int v13), (16, .int v16), (17, .int v17)] [] := by
  intro k
  induction k with
  | zero => intro v16 v17 a1 a2 b1 a3; exact absurd a3 (Nat.not_lt_zero _)
  | succ k ih =>
  intro v16 v17 a1 a2 hLS a3
  have h964 : 0 ≤ v17.toInt → LG p l e s m below meth c D b adC adL 3 σ τ nc ns 964 [(0, .ref b), (1, .ref (adC 0)), (2, .ref (adL 0)), (3, .ref (adL 1)), (4, .ref (adL 2)), (5, .int v5), (6, .int v6), (10, .int v10), (12, .int v12), (13, .int v13), (16, .int v16), (17, .int v17), (18, .int (8 * nearS σ (ix v12) (ix v13) v17))] [] := by
    intro h170
    have d17 := dn (v := v17) h170
    have e17 := d17.1
    have t1 := d17.2.1
    have t0 := d17.2.2.1
    have ev := d17.2.2.2.1
    have j17 := d17.2.2.2.2.1
    rw [t0] at a3 hLS
    intro h100 hdis H locs wC wL ls hl
    obtain ⟨hL, C0, hKC⟩ := id hC
    obtain ⟨hx, hb, hr, hml, hown, hts, hX, hbl, hlocks, hgv⟩ := C0
    have hN : NW s := NW_of hts
    have S : CallFix p m c cL_law 30 s #[Value.ref b] wsL_law RL := ⟨hx, hb, hml, hown, fun w h => hts w (wsL_law_in w h)⟩
    have hbA : ¬ (fun q : Nat => s.heap.size ≤ q) b := Nat.not_le.mpr hbl
    have hKL := KL_of hKC h100
    have z0 : (0 : Int32).toInt = 0 := by decide
    have z1 : (1 : Int32).toInt = 1 := by decide
    refine lv_iload hx hb dL_law_964 (lv_at hl 12 rfl) ?_
    refine lv_iload hx hb dL_law_966 (lv_at hl 7 rfl) ?_
    refine lv_icmp_gt (tgt := 976) hx hb dL_law_968 (by decide) (fun c968 => ?_) (fun c968 => ?_)
    · have t968 : v10.toInt < (8 * nearS σ (ix v12) (ix v13) v17).toInt := qt_lt c968
      have hL1 : LSt (stl σ (ix v12) (ix v13)) (ix v17) v16 := LSt_skip hLS (fun q => q (by rw [ev, ← h10]; exact c968))
      refine lv_iload hx hb dL_law_976 (lv_at hl 10 rfl) ?_
      refine lv_istore (lv' := [(16, .int v16), (0, .ref b), (1, .ref (adC 0)), (2, .ref (adL 0)), (3, .ref (adL 1)), (4, .ref (adL 2)), (5, .int v5), (6, .int v6), (10, .int v10), (12, .int v12), (13, .int v13), (17, .int v17), (18, .int (8 * nearS σ (ix v12) (ix v13) v17))]) hx hb dL_law_978 hl (by decide) rfl (fun ls hl => ?_)
      refine lv_iinc (v := (v17 + (-1))) (lv' := [(17, .int (v17 + (-1))), (16, .int v16), (0, .ref b), (1, .ref (adC 0)), (2, .ref (adL 0)), (3, .ref (adL 1)), (4, .ref (adL 2)), (5, .int v5), (6, .int v6), (10, .int v10), (12, .int v12), (13, .int v13), (18, .int (8 * nearS σ (ix v12) (ix v13) v17))]) hx hb dL_law_980 hl (k := 11) rfl rfl (by decide) rfl (fun ls hl => ?_)
      refine lv_goto (tgt := 831) hx hb dL_law_983 (by decide) ?_
      exact (ih v16 (v17 + (-1)) (by omega) (by omega) (by rw [t1]; exact hL1) (by rw [t1]; omega)) h100 hdis H locs wC wL ls (lv_sub hl [2, 3, 4, 5, 6, 7, 8, 9, 10, 11, 1, 0] rfl)
    · have t968 : (8 * nearS σ (ix v12) (ix v13) v17).toInt ≤ v10.toInt := qt_nlt c968
      have hL1 : LSt (stl σ (ix v12) (ix v13)) (ix v17) v17 := by have q := LSt_take (P := (stl σ (ix v12) (ix v13))) (t := (ix v17)) (by omega) (fun q => c968 (by rw [ev, ← h10] at q; exact q)); rw [ev] at q; exact q
      refine lv_iload hx hb dL_law_971 (lv_at hl 11 rfl) ?_
      refine lv_goto (tgt := 978) hx hb dL_law_973 (by decide) ?_
      refine lv_istore (lv' := [(16, .int v17), (0, .ref b), (1, .ref (adC 0)), (2, .ref (adL 0)), (3, .ref (adL 1)), (4, .ref (adL 2)), (5, .int v5), (6, .int v6), (10, .int v10), (12, .int v12), (13, .int v13), (17, .int v17), (18, .int (8 * nearS σ (ix v12) (ix v13) v17))]) hx hb dL_law_978 hl (by decide) rfl (fun ls hl => ?_)
      refine lv_iinc (v := (v17 + (-1))) (lv' := [(17, .int (v17 + (-1))), (16, .int v17), (0, .ref b), (1, .ref (adC 0)), (2, .ref (adL 0)), (3, .ref (adL 1)), (4, .ref (adL 2)), (5, .int v5), (6, .int v6), (10, .int v10), (12, .int v12), (13, .int v13), (18, .int (8 * nearS σ (ix v12) (ix v13) v17))]) hx hb dL_law_980 hl (k := 11) rfl rfl (by decide) rfl (fun ls hl => ?_)
      refine lv_goto (tgt := 831) hx hb dL_law_983 (by decide) ?_
      exact (ih v17 (v17 + (-1)) (by omega) (by omega) (by rw [t1]; exact hL1) (by rw [t1]; omega)) h100 hdis H locs wC wL ls (lv_sub hl [2, 3, 4, 5, 6, 7, 8, 9, 10, 11, 1, 0] rfl)
  intro h100 hdis H locs wC wL ls hl
  obtain ⟨hL, C0, hKC⟩ := id hC
  obtain ⟨hx, hb, hr, hml, hown, hts, hX, hbl, hlocks, hgv⟩ := C0
  have hN : NW s := NW_of hts
  have S : CallFix p m c cL_law 30 s #[Value.ref b] wsL_law RL := ⟨hx, hb, hml, hown, fun w h => hts w (wsL_law_in w h)⟩
  have hbA : ¬ (fun q : Nat => s.heap.size ≤ q) b := Nat.not_le.mpr hbl
  have hKL := KL_of hKC h100
  have z0 : (0 : Int32).toInt = 0 := by decide
  have z1 : (1 : Int32).toInt = 1 := by decide
  refine lv_iload hx hb dL_law_831 (lv_at hl 11 rfl) ?_
  refine lv_if_lt (tgt := 986) hx hb dL_law_833 (by decide) (fun c833 => ?_) (fun c833 => ?_)
  · have t833 : v17.toInt < 0 := qt_lt c833
    have t0 := dn1 (v := v17) (by omega) (by omega)
    rw [t0] at hLS
    exact (hex v16 hLS) h100 hdis H locs wC wL ls (lv_sub hl [0, 1, 2, 3, 4, 5, 6, 7, 8, 9, 10] rfl)
  · have t833 : 0 ≤ v17.toInt := qt_nlt c833
    refine lv_iconst (v := 0) hx hb dL_law_836 (by decide) ?_
    refine lv_istore (lv' := [(18, .int 0), (0, .ref b), (1, .ref (adC 0)), (2, .ref (adL 0)), (3, .ref (adL 1)), (4, .ref (adL 2)), (5, .int v5), (6, .int v6), (10, .int v10), (12, .int v12), (13, .int v13), (16, .int v16), (17, .int v17)]) hx hb dL_law_837 hl (by decide) rfl (fun ls hl => ?_)
    refine lv_iconst (v := 0) hx hb dL_law_839 (by decide) ?_
    refine lv_istore (lv' := [(19, .int 0), (18, .int 0), (0, .ref b), (1, .ref (adC 0)), (2, .ref (adL 0)), (3, .ref (adL 1)), (4, .ref (adL 2)), (5, .int v5), (6, .int v6), (10, .int v10), (12, .int v12), (13, .int v13), (16, .int v16), (17, .int v17)]) hx hb dL_law_840 hl (by decide) rfl (fun ls hl => ?_)
    have e0 : sm (fun k => 8 * jabs (nowF (σ (25 + ix v12) k) (σ (25 + ix v13) k) v17 - σ (25 + ix v13) k)) (ix 0) = 0 := rfl
    refine l_842 hC hnc hns hB h12 h13 ⟨by omega, by omega⟩ (h964 (by omega)) 100 0 (by omega) (by omega) (by omega) h100 hdis H locs wC wL ls ?_
    rw [e0]
    exact lv_sub hl [2, 3, 4, 5, 6, 7, 8, 9, 10, 11, 12, 13, 1, 0] rfl
set_option maxHeartbeats 8000000 in
set_option maxRecDepth 100000 in
theorem s_near {p : Program} {l : Launch} {e : Env} {s : State} {m : MethodId} {below : List Frame} {meth : Method} {c : Code} {D : va_G} {b L : Nat} {xs : Nat → Int32} {adC : Nat → Nat} (hC : LC p s m meth c D b L xs adC) {adL : Nat → Nat} {σ τ : St} {nc ns : Nat} (hnc : nc ≤ 1000) (hns : ns ≤ 10000) {v5 v6 v10 v12 v13 : Int32} (hB : Bs σ τ v5 v6) (h10 : v10 = σ 0 7) (h12 : 0 ≤ v12.toInt ∧ v12.toInt < v5.toInt) (h13 : 0 ≤ v13.toInt ∧ v13.toInt < v5.toInt) (hne : v12 ≠ v13)
    (next : ∀ σ' : St, Bs σ' τ v5 v6 → v10 = σ' 0 7 → LG p l e s m below meth c D b adC adL 3 σ' τ nc ns 1042 [(0, .ref b), (1, .ref (adC 0)), (2, .ref (adL 0)), (3, .ref (adL 1)), (4, .ref (adL 2)), (5, .int v5), (6, .int v6), (10, .int v10)] []) : LG p l e s m below meth c D b adC adL 3 σ τ nc ns 823 [(0, .ref b), (1, .ref (adC 0)), (2, .ref (adL 0)), (3, .ref (adL 1)), (4, .ref (adL 2)), (5, .int v5), (6, .int v6), (10, .int v10), (12, .int v12), (13, .int v13)] [] := by
  have h986 : ∀ v16 : Int32, LSt (stl σ (ix v12) (ix v13)) 0 v16 → LG p l e s m below meth c D b adC adL 3 σ τ nc ns 986 [(0, .ref b), (1, .ref (adC 0)), (2, .ref (adL 0)), (3, .ref (adL 1)), (4, .ref (adL 2)), (5, .int v5), (6, .int v6), (10, .int v10), (12, .int v12), (13, .int v13), (16, .int v16)] [] := by
    intro v16 hLS
    intro h100 hdis H locs wC wL ls hl
    obtain ⟨hL, C0, hKC⟩ := id hC
    obtain ⟨hx, hb, hr, hml, hown, hts, hX, hbl, hlocks, hgv⟩ := C0
    have hN : NW s := NW_of hts
    have S : CallFix p m c cL_law 30 s #[Value.ref b] wsL_law RL := ⟨hx, hb, hml, hown, fun w h => hts w (wsL_law_in w h)⟩
    have hbA : ¬ (fun q : Nat => s.heap.size ≤ q) b := Nat.not_le.mpr hbl
    have hKL := KL_of hKC h100
    have z0 : (0 : Int32).toInt = 0 := by decide
    have z1 : (1 : Int32).toInt = 1 := by decide
    have hR := hB.1
    have hn := hB.n
    refine lv_aload_n hx hb dL_law_986 rfl (lv_at hl 1 rfl) ?_
    refine lv_iload hx hb dL_law_987 (lv_at hl 8 rfl) ?_
    refine lv_iload hx hb dL_law_989 (lv_at hl 9 rfl) ?_
    refine callWi2 wC wL hdis (va_runV (As := [.int v12, .int v13]) (rest := []) S (c_X3_steals l adC D H.size σ v12 v13 hR.ok) (cwV 2 S.2.2.2.2 gL_law_X3_steals rfl rfl rfl ⟨rfl, hd_X3_steals⟩ ⟨Nat.le_of_ble_eq_true rfl, Nat.le_of_ble_eq_true rfl⟩) (preV hKC hN wC (k := 0) (by decide) (eC_0 adC _) (q := (RX3, TX3, 14)) rfl) rfl rfl hl.1 rfl (lv_room (Nat.le_of_ble_eq_true rfl)) dL_law_991 (rm_ok hnc hns)) (fun H locs wC wL => ?_)
    have q991 := q_steals hR (x := v12) (y := v13) (by omega) (by omega) (by omega) (by omega) hne hLS
    rw [q991.1]
    have hB1 := hB.fo (Or.inl rfl) q991.2
    have g1 := q991.2.1 7 (by omega)
    generalize (f_X3_steals σ v12 v13).2 = σ1 at wC hB1 g1
    have n1_ := hB1.n
    have hR1 := hB1.1
    refine lv_iload hx hb dL_law_994 (lv_at hl 10 rfl) ?_
    refine lv_icmp_ne (tgt := 1040) hx hb dL_law_996 (by decide) (fun c996 => ?_) (fun c996 => ?_)
    · exact absurd rfl c996
    · have t996 : v16.toInt = v16.toInt := qt_eq c996
      refine lv_aload_n hx hb dL_law_999 rfl (lv_at hl 1 rfl) ?_
      refine lv_iload hx hb dL_law_1000 (lv_at hl 8 rfl) ?_
      refine lv_iload hx hb dL_law_1002 (lv_at hl 8 rfl) ?_
      refine callWi2 wC wL hdis (va_runV (As := [.int v12, .int v12]) (rest := []) S (c_X3_steals l adC D H.size σ1 v12 v12 hB1.1.ok) (cwV 2 S.2.2.2.2 gL_law_X3_steals rfl rfl rfl ⟨rfl, hd_X3_steals⟩ ⟨Nat.le_of_ble_eq_true rfl, Nat.le_of_ble_eq_true rfl⟩) (preV hKC hN wC (k := 0) (by decide) (eC_0 adC _) (q := (RX3, TX3, 14)) rfl) rfl rfl hl.1 rfl (lv_room (Nat.le_of_ble_eq_true rfl)) dL_law_1004 (rm_ok hnc hns)) (fun H locs wC wL => ?_)
      have q1004 := q_steals_xx (σ := σ1) (x := v12)
      rw [pr1 q1004]
      rw [pr2 q1004] at wC
      refine lv_iconst (v := (-1)) hx hb dL_law_1007 (by decide) ?_
      refine lv_icmp_ne (tgt := 1040) hx hb dL_law_1008 (by decide) (fun c1008 => ?_) (fun c1008 => ?_)
      · exact absurd rfl c1008
      · refine lv_aload_n hx hb dL_law_1011 rfl (lv_at hl 1 rfl) ?_
        refine lv_iload hx hb dL_law_1012 (lv_at hl 8 rfl) ?_
        refine lv_iload hx hb dL_law_1014 (lv_at hl 9 rfl) ?_
        refine lv_iconst (v := (-1)) hx hb dL_law_1016 (by decide) ?_
        refine lv_iconst (v := 0) hx hb dL_law_1017 (by decide) ?_
        refine call0i (va_runV (As := [.int v12, .int v13, .int (-1), .int 0]) (rest := []) S (c_X3_near l adC D H.size σ1 v12 v13 (-1) 0 hB1.1.ok) (cwV 4 S.2.2.2.2 gL_law_X3_near rfl rfl rfl ⟨rfl, hd_X3_near⟩ ⟨Nat.le_of_ble_eq_true rfl, Nat.le_of_ble_eq_true rfl⟩) (preV hKC hN wC (k := 0) (by decide) (eC_0 adC _) (q := (RX3, TX3, 14)) rfl) rfl rfl hl.1 rfl (lv_room (Nat.le_of_ble_eq_true rfl)) dL_law_1018 (rm_ok hnc hns)) ?_
        refine lv_bipush (v := (-2)) hx hb dL_law_1021 (by decide) ?_
        refine lv_icmp_ne (tgt := 1040) hx hb dL_law_1023 (by decide) (fun c1023 => ?_) (fun c1023 => ?_)
        · exact absurd (q_near_m hR1 (by omega) (by omega) (by omega) (by omega)) c1023
        · have t1023 : (f_X3_near σ1 v12 v13 (-1) 0).toInt = -2 := qt_eq c1023
          refine lv_aload_n hx hb dL_law_1026 rfl (lv_at hl 1 rfl) ?_
          refine lv_iload hx hb dL_law_1027 (lv_at hl 8 rfl) ?_
          refine lv_iload hx hb dL_law_1029 (lv_at hl 5 rfl) ?_
          refine lv_iconst (v := 0) hx hb dL_law_1031 (by decide) ?_
          refine lv_iconst (v := 0) hx hb dL_law_1032 (by decide) ?_
          refine call0i (va_runV (As := [.int v12, .int v5, .int 0, .int 0]) (rest := []) S (c_X3_near l adC D H.size σ1 v12 v5 0 0 hB1.1.ok) (cwV 4 S.2.2.2.2 gL_law_X3_near rfl rfl rfl ⟨rfl, hd_X3_near⟩ ⟨Nat.le_of_ble_eq_true rfl, Nat.le_of_ble_eq_true rfl⟩) (preV hKC hN wC (k := 0) (by decide) (eC_0 adC _) (q := (RX3, TX3, 14)) rfl) rfl rfl hl.1 rfl (lv_room (Nat.le_of_ble_eq_true rfl)) dL_law_1033 (rm_ok hnc hns)) ?_
          refine lv_iconst (v := (-1)) hx hb dL_law_1036 (by decide) ?_
          refine lv_icmp_eq (tgt := 1042) hx hb dL_law_1037 (by decide) (fun c1037 => ?_) (fun c1037 => ?_)
          · have t1037 : (f_X3_near σ1 v12 v5 0 0).toInt = -1 := qt_eq c1037
            exact (next σ1 hB1 (by rw [g1]; exact h10)) h100 hdis H locs wC wL ls (lv_sub hl [0, 1, 2, 3, 4, 5, 6, 7] rfl)
          · exact absurd (by rw [hB1.2.1]; exact q_near_n hR1) c1037
  intro h100 hdis H locs wC wL ls hl
  obtain ⟨hL, C0, hKC⟩ := id hC
  obtain ⟨hx, hb, hr, hml, hown, hts, hX, hbl, hlocks, hgv⟩ := C0
  have hN : NW s := NW_of hts
  have S : CallFix p m c cL_law 30 s #[Value.ref b] wsL_law RL := ⟨hx, hb, hml, hown, fun w h => hts w (wsL_law_in w h)⟩
  have hbA : ¬ (fun q : Nat => s.heap.size ≤ q) b := Nat.not_le.mpr hbl
  have hKL := KL_of hKC h100
  have z0 : (0 : Int32).toInt = 0 := by decide
  have z1 : (1 : Int32).toInt = 1 := by decide
  refine lv_bipush (v := (-9)) hx hb dL_law_823 (by decide) ?_
  refine lv_istore (lv' := [(16, .int (-9)), (0, .ref b), (1, .ref (adC 0)), (2, .ref (adL 0)), (3, .ref (adL 1)), (4, .ref (adL 2)), (5, .int v5), (6, .int v6), (10, .int v10), (12, .int v12), (13, .int v13)]) hx hb dL_law_825 hl (by decide) rfl (fun ls hl => ?_)
  refine lv_bipush (v := 10) hx hb dL_law_827 (by decide) ?_
  refine lv_istore (lv' := [(17, .int 10), (16, .int (-9)), (0, .ref b), (1, .ref (adC 0)), (2, .ref (adL 0)), (3, .ref (adL 1)), (4, .ref (adL 2)), (5, .int v5), (6, .int v6), (10, .int v10), (12, .int v12), (13, .int v13)]) hx hb dL_law_829 hl (by decide) rfl (fun ls hl => ?_)
  exact (l_831 hC hnc hns hB h10 h12 h13 h986 100 (-9) 10 (by decide) (by decide) LSt_0 (by decide)) h100 hdis H locs wC wL ls (lv_sub hl [2, 3, 4, 5, 6, 7, 8, 9, 10, 11, 1, 0] rfl)
