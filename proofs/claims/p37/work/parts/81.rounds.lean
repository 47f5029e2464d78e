/-! the law's walk: the rounds, and the end -/
set_option maxHeartbeats 8000000 in
set_option maxRecDepth 100000 in
theorem s_end {p : Program} {l : Launch} {e : Env} {s : State} {m : MethodId} {below : List Frame} {meth : Method} {c : Code} {D : va_G} {b L : Nat} {xs : Nat → Int32} {adC : Nat → Nat} (hC : LC p s m meth c D b L xs adC) {adL : Nat → Nat} {σ τ : St} {nc ns : Nat} (hnc : nc ≤ 1000) (hns : ns ≤ 10000) {v5 v6 : Int32} (hR : Rl σ τ) : LG p l e s m below meth c D b adC adL 3 σ τ nc ns 1900 [(0, .ref b), (1, .ref (adC 0)), (2, .ref (adL 0)), (3, .ref (adL 1)), (4, .ref (adL 2)), (5, .int v5), (6, .int v6)] [] := by
  intro h100 hdis H locs wC wL ls hl
  obtain ⟨hL, C0, hKC⟩ := id hC
  obtain ⟨hx, hb, hr, hml, hown, hts, hX, hbl, hlocks, hgv⟩ := C0
  have hN : NW s := NW_of hts
  have S : CallFix p m c cL_law 30 s #[Value.ref b] wsL_law RL := ⟨hx, hb, hml, hown, fun w h => hts w (wsL_law_in w h)⟩
  have hbA : ¬ (fun q : Nat => s.heap.size ≤ q) b := Nat.not_le.mpr hbl
  have hKL := KL_of hKC h100
  have z0 : (0 : Int32).toInt = 0 := by decide
  have z1 : (1 : Int32).toInt = 1 := by decide
  refine lv_aload_n hx hb dL_law_1900 rfl (lv_at hl 1 rfl) ?_
  refine lv_iconst (v := 0) hx hb dL_law_1901 (by decide) ?_
  refine lv_iconst (v := 4) hx hb dL_law_1902 (by decide) ?_
  refine lv_iconst (v := 1) hx hb dL_law_1903 (by decide) ?_
  refine lv_iconst (v := 0) hx hb dL_law_1904 (by decide) ?_
  refine callWi2 wC wL hdis (va_runV (As := [.int 0, .int 4, .int 1, .int 0]) (rest := []) S (c_X3_who l adC D H.size σ 0 4 1 0 hR.ok) (cwV 4 S.2.2.2.2 gL_law_X3_who rfl rfl rfl ⟨rfl, hd_X3_who⟩ ⟨Nat.le_of_ble_eq_true rfl, Nat.le_of_ble_eq_true rfl⟩) (preV hKC hN wC (k := 0) (by decide) (eC_0 adC _) (q := (RX3, TX3, 14)) rfl) rfl rfl hl.1 rfl (lv_room (Nat.le_of_ble_eq_true rfl)) dL_law_1905 (rm_ok hnc hns)) (fun H locs wC wL => ?_)
  have q1905 := q_who_s4 (σ := σ) (wd := 0) (l := 1) (i := 0)
  rw [pr1 q1905]
  rw [pr2 q1905] at wC
  have hR1 := hR.f 0
  generalize u2 σ 0 9 0 = σ1 at wC hR1
  refine lv_iconst (v := (-1)) hx hb dL_law_1908 (by decide) ?_
  refine lv_icmp_ne (tgt := 1933) hx hb dL_law_1909 (by decide) (fun c1909 => ?_) (fun c1909 => ?_)
  · exact absurd rfl c1909
  · refine lv_aload_n hx hb dL_law_1912 rfl (lv_at hl 1 rfl) ?_
    refine lv_iconst (v := 0) hx hb dL_law_1913 (by decide) ?_
    refine lv_iconst (v := 0) hx hb dL_law_1914 (by decide) ?_
    refine lv_iconst (v := 4) hx hb dL_law_1915 (by decide) ?_
    refine lv_iconst (v := 1) hx hb dL_law_1916 (by decide) ?_
    refine lv_iconst (v := 0) hx hb dL_law_1917 (by decide) ?_
    refine lv_iconst (v := 0) hx hb dL_law_1918 (by decide) ?_
    refine callWl2 wC wL hdis (va_runV (As := [.int 0, .int 0, .int 4, .int 1, .int 0, .int 0]) (rest := []) S (c_X3_odds l adC D H.size σ1 0 0 4 1 0 0 hR1.ok) (cwV 6 S.2.2.2.2 gL_law_X3_odds rfl rfl rfl ⟨rfl, hd_X3_odds⟩ ⟨Nat.le_of_ble_eq_true rfl, Nat.le_of_ble_eq_true rfl⟩) (preV hKC hN wC (k := 0) (by decide) (eC_0 adC _) (q := (RX3, TX3, 14)) rfl) rfl rfl hl.1 rfl (lv_room (Nat.le_of_ble_eq_true rfl)) dL_law_1919 (rm_ok hnc hns)) (fun H locs wC wL => ?_)
    have q1919 := q_odds_4 (wd := 0) (l := 1) (c := 0) (d := 0) hR1
    rw [pr1 q1919]
    rw [pr2 q1919] at wC
    refine lv_ldc2 hx hb S.2.2.2.1 (hts _ (tb_t2 (List.mem_of_getElem? (i := 97) rfl))) dL_law_1922 ?_
    refine W.lcmp hx hb dL_law_1925 ?_
    refine lv_if_ne (tgt := 1933) hx hb dL_law_1926 (by decide) (fun c1926 => ?_) (fun c1926 => ?_)
    · exact absurd (lgc_self _) c1926
    · refine lv_iconst (v := 1) hx hb dL_law_1929 (by decide) ?_
      refine lv_goto (tgt := 1934) hx hb dL_law_1930 (by decide) ?_
      refine va_forget (fun q hq => wC.2.2.1.2.2 q hq) ?_
      refine W.widen (k := 600000) (n := 7302250) (by omega) (by omega) ?_
      exact lw_ret hx hb hr hlocks dL_law_1934
set_option maxHeartbeats 8000000 in
set_option maxRecDepth 100000 in
theorem l_74 {p : Program} {l : Launch} {e : Env} {s : State} {m : MethodId} {below : List Frame} {meth : Method} {c : Code} {D : va_G} {b L : Nat} {xs : Nat → Int32} {adC : Nat → Nat} (hC : LC p s m meth c D b L xs adC) {v5 : Int32} : ∀ (k : Nat) (v6 : Int32) (adL : Nat → Nat) (σ τ : St) (nc ns : Nat), Rl σ τ → v5 = σ 0 4 → (v6 = 0 → σ 8 0 = -1) → 0 ≤ v6.toInt → v6.toInt ≤ 3 → 3 < v6.toInt + k → (nc : Int) ≤ 100 + 200 * v6.toInt → (ns : Int) ≤ 2000 + 2000 * v6.toInt → LG p l e s m below meth c D b adC adL 3 σ τ nc ns 74 [(0, .ref b), (1, .ref (adC 0)), (2, .ref (adL 0)), (3, .ref (adL 1)), (4, .ref (adL 2)), (5, .int v5), (6, .int v6)] [] := by
  intro k
  induction k with
  | zero => intro v6 adL σ τ nc ns b1 b2 b3 a1 a2 a3; exact absurd a3 (by omega)
  | succ k ih =>
  intro v6 adL σ τ nc ns hR h5 h8 a1 a2 a3 a4 a5
  have hnc : nc ≤ 700 := by omega
  have hns : ns ≤ 8000 := by omega
  intro h100 hdis H locs wC wL ls hl
  obtain ⟨hL, C0, hKC⟩ := id hC
  obtain ⟨hx, hb, hr, hml, hown, hts, hX, hbl, hlocks, hgv⟩ := C0
  have hN : NW s := NW_of hts
  have S : CallFix p m c cL_law 30 s #[Value.ref b] wsL_law RL := ⟨hx, hb, hml, hown, fun w h => hts w (wsL_law_in w h)⟩
  have hbA : ¬ (fun q : Nat => s.heap.size ≤ q) b := Nat.not_le.mpr hbl
  have hKL := KL_of hKC h100
  have z0 : (0 : Int32).toInt = 0 := by decide
  have z1 : (1 : Int32).toInt = 1 := by decide
  refine lv_iload hx hb dL_law_74 (lv_at hl 6 rfl) ?_
  refine lv_iconst (v := 3) hx hb dL_law_76 (by decide) ?_
  refine lv_icmp_ge (tgt := 1900) hx hb dL_law_77 (by decide) (fun c77 => ?_) (fun c77 => ?_)
  · have t77 : 3 ≤ v6.toInt := qt_le c77
    exact (s_end hC (by omega) (by omega) hR) h100 hdis H locs wC wL ls (lv_sub hl [0, 1, 2, 3, 4, 5, 6] rfl)
  · have t77 : v6.toInt < 3 := qt_nle c77
    have e6 := inc_toInt (a := v6) (by omega) (by omega)
    have n6 : ¬ v6 + 1 = 0 := fun q => by have q1 := qt_eq q; omega
    have hB : Bs σ τ v5 v6 := ⟨hR, h5, ⟨by omega, by omega⟩, h8⟩
    refine s_head hC (by omega) (by omega) hB (fun σ1 τ1 v7 v10 hB1 h1 => ?_) h100 hdis H locs wC wL ls (lv_sub hl [0, 1, 2, 3, 4, 5, 6] rfl)
    refine s_apart hC (by omega) (by omega) hB1 h1 ?_
    refine s_stop hC (by omega) (by omega) hB1 h1 (fun σ2 v12 v13 v14 hB2 h2 q12 q13 hne q14 hst => ?_)
    refine s_sets hC (by omega) (by omega) hB2 h2 q12 q13 q14 hst (fun adL' σ3 τ3 v15 nc' ns' hnc' hns' hB3 h3 hf hLB => ?_)
    obtain ⟨f3, rfl⟩ := hf
    have hst3 : Stq (u2 σ2 0 9 f3) (ix v14) := Stp_same hst (u2_nc (by omega))
    have etk : tk (u2 σ2 0 9 f3) (ix v12) (ix v13) (ix v14) = tk σ2 (ix v12) (ix v13) (ix v14) := tk_same (u2_nk (by omega)) (u2_nc (by omega)) (u2_nc (by omega)) (u2_nc (by omega))
    refine s_forged hC (by omega) (by omega) hB3 h3 q12 q13 hne q14 hst3 (by rw [etk]; exact hLB) (fun σ4 hB4 h4 => ?_)
    refine s_near hC (by omega) (by omega) hB4 h4 q12 q13 hne (fun σ5 hB5 h5' => ?_)
    refine s_fresh hC (by omega) (by omega) hB5 h5' (fun σ6 hB6 h6 => ?_)
    refine s_door hC (by omega) (by omega) hB6 h6 (fun adL2 σ7 τ7 v20 hB7 h7 q20 hD7 => ?_)
    refine s_hours hC (by omega) (by omega) hB7 h7 q20 hD7 (fun adL3 τ8 hB8 hD8 h48 => ?_)
    refine s_odds hC (by omega) (by omega) hB8 q20 hD8 h48 (fun σ9 v24 hB9 hF9 hW => ?_)
    refine s_who hC (by omega) (by omega) hB9 q20 hD8 hF9 hW (fun σ10 hB10 => ?_)
    exact ih (v6 + 1) adL3 σ10 τ8 _ _ hB10.1 hB10.2.1 (fun q => absurd q n6) (by omega) (by omega) (by omega) (by omega) (by omega)
