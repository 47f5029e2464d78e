/-! the law's walk: odds -/
set_option maxHeartbeats 8000000 in
set_option maxRecDepth 100000 in
theorem l_1620 {p : Program} {l : Launch} {e : Env} {s : State} {m : MethodId} {below : List Frame} {meth : Method} {c : Code} {D : va_G} {b L : Nat} {xs : Nat → Int32} {adC : Nat → Nat} (hC : LC p s m meth c D b L xs adC) {adL : Nat → Nat} {τ : St} {nc ns : Nat} (hnc : nc ≤ 1000) (hns : ns ≤ 10000) {σ0 : St} {v5 v6 v20 : Int32} (hB0 : Br σ0 τ v5 v6) (h20 : 0 ≤ v20.toInt ∧ v20.toInt < 4) (hD0 : Dr σ0 (τ 3)) (h4 : ∀ x, x < (ix (σ0 0 4)) → τ 4 x = nI (hc σ0 v20 x 10))
    (hex : ∀ (σ' : St) (v24 : Int32), Br σ' τ v5 v6 → Fx (only 7) σ0 σ' → WD (fun z => hc σ0 v20 z 10) (ix (σ0 0 4)) 0 v24 → LG p l e s m below meth c D b adC adL 5 σ' τ nc ns 1752 [(0, .ref b), (1, .ref (adC 0)), (2, .ref (adL 0)), (3, .ref (adL 1)), (4, .ref (adL 2)), (5, .int v5), (6, .int v6), (20, .int v20), (24, .int v24)] []) : ∀ (k : Nat) (v24 v25 : Int32) (σ : St), Br σ τ v5 v6 → Fx (only 7) σ0 σ → -1 ≤ v25.toInt → v25.toInt < v5.toInt → WD (fun z => hc σ0 v20 z 10) (ix (σ0 0 4)) (v25.toInt + 1).toNat v24 → (v25.toInt + 1).toNat < k → LG p l e s m below meth c D b adC adL 5 σ τ nc ns 1620 [(0, .ref b), (1, .ref (adC 0)), (2, .ref (adL 0)), (3, .ref (adL 1)), (4, .ref (adL 2)), (5, .int v5), (6, .int v6), (20, .int v20), (22, .int (nI (hall σ0 v20 (ix (σ0 0 4))))), (23, .ref (adL 4)), (24, .int v24), (25, .int v25)] [] := by
  intro k
  induction k with
  | zero => intro v24 v25 σ b1 b2 a1 a2 b3 a3; exact absurd a3 (Nat.not_lt_zero _)
  | succ k ih =>
  intro v24 v25 σ hB hF a1 a2 hW a3
  have hn := hB.n
  have hN0 := hB0.1.nN
  have hn0 := hB0.n
  have j25 : 0 ≤ v25.toInt → (ix v25 : Int) = v25.toInt := fun q => ix_toInt q
  have h1660 : 0 ≤ v25.toInt → ∀ w24 : Int32, WD (fun z => hc σ0 v20 z 10) (ix (σ0 0 4)) (ix v25) w24 → LG p l e s m below meth c D b adC adL 5 σ τ nc ns 1660 [(0, .ref b), (1, .ref (adC 0)), (2, .ref (adL 0)), (3, .ref (adL 1)), (4, .ref (adL 2)), (5, .int v5), (6, .int v6), (20, .int v20), (22, .int (nI (hall σ0 v20 (ix (σ0 0 4))))), (23, .ref (adL 4)), (24, .int w24), (25, .int v25)] [] := by
    intro h25 w24 hW1
    have d25 := dn (v := v25) h25
    have e25 := d25.1
    have t1 := d25.2.1
    have j25 := d25.2.2.2.2.1
    rw [d25.2.2.1] at a3
    have hx25 : ix v25 < (ix (σ0 0 4)) := ixlt h25 (by rw [← hn0.1]; exact a2)
    intro h100 hdis H locs wC wL ls hl
    obtain ⟨hL, C0, hKC⟩ := id hC
    obtain ⟨hx, hb, hr, hml, hown, hts, hX, hbl, hlocks, hgv⟩ := C0
    have hN : NW s := NW_of hts
    have S : CallFix p m c cL_law 30 s #[Value.ref b] wsL_law RL := ⟨hx, hb, hml, hown, fun w h => hts w (wsL_law_in w h)⟩
    have hbA : ¬ (fun q : Nat => s.heap.size ≤ q) b := Nat.not_le.mpr hbl
    have hKL := KL_of hKC h100
    have z0 : (0 : Int32).toInt = 0 := by decide
    have z1 : (1 : Int32).toInt = 1 := by decide
    have hn1 := hB.n
    refine lv_aload_n hx hb dL_law_1660 rfl (lv_at hl 1 rfl) ?_
    refine lv_iload hx hb dL_law_1661 (lv_at hl 11 rfl) ?_
    refine lv_iload hx hb dL_law_1663 (lv_at hl 7 rfl) ?_
    refine lv_iconst (v := 1) hx hb dL_law_1665 (by decide) ?_
    refine lv_iconst (v := 1) hx hb dL_law_1666 (by decide) ?_
    refine lv_bipush (v := 10) hx hb dL_law_1667 (by decide) ?_
    refine lv_iconst (v := 0) hx hb dL_law_1669 (by decide) ?_
    refine callWl2 wC wL hdis (va_runV (As := [.int v25, .int v20, .int 1, .int 1, .int 10, .int 0]) (rest := []) S (c_X3_odds l adC D H.size σ v25 v20 1 1 10 0 hB.1.ok) (cwV 6 S.2.2.2.2 gL_law_X3_odds rfl rfl rfl ⟨rfl, hd_X3_odds⟩ ⟨Nat.le_of_ble_eq_true rfl, Nat.le_of_ble_eq_true rfl⟩) (preV hKC hN wC (k := 0) (by decide) (eC_0 adC _) (q := (RX3, TX3, 14)) rfl) rfl rfl hl.1 rfl (lv_room (Nat.le_of_ble_eq_true rfl)) dL_law_1670 (rm_ok hnc hns)) (fun H locs wC wL => ?_)
    have q1670 := q_odds (z := v25) (wd := v20) (q := 0) hB.1 (Dr_fx hF hD0) h25 (by rw [← hB.n.1]; exact a2) h20.1 (lt4 h20.2) (by decide)
    rw [hc_fx hF, hall_fx hF, show ix (σ 0 4) = (ix (σ0 0 4)) from by rw [hF.1 4 (by decide)]] at q1670
    rw [q1670.1]
    have hF_σ1 := Fx.tr hF q1670.2
    have hB_σ1 := hB.fo (k := 7) (Or.inr (Or.inl rfl)) q1670.2
    generalize (f_X3_odds σ v25 v20 1 1 10 0).2 = σ1 at wC hF_σ1 hB_σ1
    refine lv_lstore (lv' := [(26, .long (if (hall σ0 v20 (ix (σ0 0 4))) = 0 then (-9223372036854775808 : Int64) else (f_X3_ofShare (nI (hc σ0 v20 (ix v25) 10)) (nI (hall σ0 v20 (ix (σ0 0 4)))) 0).toInt64)), (0, .ref b), (1, .ref (adC 0)), (2, .ref (adL 0)), (3, .ref (adL 1)), (4, .ref (adL 2)), (5, .int v5), (6, .int v6), (20, .int v20), (22, .int (nI (hall σ0 v20 (ix (σ0 0 4))))), (23, .ref (adL 4)), (24, .int w24), (25, .int v25)]) hx hb dL_law_1673 hl (by decide) rfl (fun ls hl => ?_)
    generalize q26 : (if (hall σ0 v20 (ix (σ0 0 4))) = 0 then (-9223372036854775808 : Int64) else (f_X3_ofShare (nI (hc σ0 v20 (ix v25) 10)) (nI (hall σ0 v20 (ix (σ0 0 4)))) 0).toInt64) = v26 at hl
    refine lv_aload_n hx hb dL_law_1675 rfl (lv_at hl 2 rfl) ?_
    refine lv_iload hx hb dL_law_1676 (lv_at hl 12 rfl) ?_
    refine lv_iload hx hb dL_law_1678 (lv_at hl 8 rfl) ?_
    refine lv_iconst (v := 1) hx hb dL_law_1680 (by decide) ?_
    refine lv_iconst (v := 1) hx hb dL_law_1681 (by decide) ?_
    refine lv_bipush (v := 10) hx hb dL_law_1682 (by decide) ?_
    refine lv_iconst (v := 1) hx hb dL_law_1684 (by decide) ?_
    refine callWl2 wC wL hdis (va_runV (As := [.int v25, .int v20, .int 1, .int 1, .int 10, .int 1]) (rest := []) S (c_X3_odds l adC D H.size σ1 v25 v20 1 1 10 1 hB_σ1.1.ok) (cwV 6 S.2.2.2.2 gL_law_X3_odds rfl rfl rfl ⟨rfl, hd_X3_odds⟩ ⟨Nat.le_of_ble_eq_true rfl, Nat.le_of_ble_eq_true rfl⟩) (preV hKC hN wC (k := 0) (by decide) (eC_0 adC _) (q := (RX3, TX3, 14)) rfl) rfl rfl hl.1 rfl (lv_room (Nat.le_of_ble_eq_true rfl)) dL_law_1685 (rm_ok hnc hns)) (fun H locs wC wL => ?_)
    have q1685 := q_odds (z := v25) (wd := v20) (q := 1) hB_σ1.1 (Dr_fx hF_σ1 hD0) h25 (by rw [← hB_σ1.n.1]; exact a2) h20.1 (lt4 h20.2) (by decide)
    rw [hc_fx hF_σ1, hall_fx hF_σ1, show ix (σ1 0 4) = (ix (σ0 0 4)) from by rw [hF_σ1.1 4 (by decide)]] at q1685
    rw [q1685.1]
    have hF_σ2 := Fx.tr hF_σ1 q1685.2
    have hB_σ2 := hB_σ1.fo (k := 7) (Or.inr (Or.inl rfl)) q1685.2
    generalize (f_X3_odds σ1 v25 v20 1 1 10 1).2 = σ2 at wC hF_σ2 hB_σ2
    refine lv_lstore (lv' := [(28, .long (if (hall σ0 v20 (ix (σ0 0 4))) = 0 then (-9223372036854775808 : Int64) else (f_X3_ofShare (nI (hc σ0 v20 (ix v25) 10)) (nI (hall σ0 v20 (ix (σ0 0 4)))) 1).toInt64)), (26, .long v26), (0, .ref b), (1, .ref (adC 0)), (2, .ref (adL 0)), (3, .ref (adL 1)), (4, .ref (adL 2)), (5, .int v5), (6, .int v6), (20, .int v20), (22, .int (nI (hall σ0 v20 (ix (σ0 0 4))))), (23, .ref (adL 4)), (24, .int w24), (25, .int v25)]) hx hb dL_law_1688 hl (by decide) rfl (fun ls hl => ?_)
    generalize q28 : (if (hall σ0 v20 (ix (σ0 0 4))) = 0 then (-9223372036854775808 : Int64) else (f_X3_ofShare (nI (hc σ0 v20 (ix v25) 10)) (nI (hall σ0 v20 (ix (σ0 0 4)))) 1).toInt64) = v28 at hl
    refine lv_iload hx hb dL_law_1690 (lv_at hl 10 rfl) ?_
    refine lv_if_ne (tgt := 1707) hx hb dL_law_1692 (by decide) (fun c1692 => ?_) (fun c1692 => ?_)
    · have t1692 : (nI (hall σ0 v20 (ix (σ0 0 4)))).toInt ≠ 0 := qt_ne c1692
      have hne : ¬ (hall σ0 v20 (ix (σ0 0 4))) = 0 := fun z => c1692 (by rw [z]; rfl)
      rw [if_neg hne] at q26 q28
      have od := odds_tab (hc σ0 v20 (ix v25) 10) hc11 (hall σ0 v20 (ix (σ0 0 4))) (hall81 hN0.2.1) hne
      rw [q26, q28] at od
      refine lv_lload hx hb dL_law_1707 (lv_at hl 0 rfl) ?_
      refine lv_lconst (v := 1) hx hb dL_law_1709 (by decide) ?_
      refine W.lcmp hx hb dL_law_1710 ?_
      refine lv_if_lt (tgt := 1744) hx hb dL_law_1711 (by decide) (fun c1711 => ?_) (fun c1711 => ?_)
      · exact absurd c1711 od.1
      · refine lv_iload hx hb dL_law_1714 (lv_at hl 10 rfl) ?_
        refine lv_i2l hx hb dL_law_1716 rfl ?_
        refine lv_lload hx hb dL_law_1717 (lv_at hl 0 rfl) ?_
        refine lv_lrem hx hb dL_law_1719 od.2.1 ?_
        refine lv_lconst (v := 0) hx hb dL_law_1720 (by decide) ?_
        refine W.lcmp hx hb dL_law_1721 ?_
        refine lv_if_ne (tgt := 1744) hx hb dL_law_1722 (by decide) (fun c1722 => ?_) (fun c1722 => ?_)
        · exact absurd od.2.2.1 c1722
        · refine lv_lload hx hb dL_law_1725 (lv_at hl 1 rfl) ?_
          refine lv_iload hx hb dL_law_1727 (lv_at hl 10 rfl) ?_
          refine lv_i2l hx hb dL_law_1729 rfl ?_
          refine lv_lload hx hb dL_law_1730 (lv_at hl 0 rfl) ?_
          refine lv_ldiv hx hb dL_law_1732 od.2.1 ?_
          refine lv_lmul hx hb dL_law_1733 ?_
          refine lv_aload hx hb dL_law_1734 (lv_at hl 11 rfl) ?_
          refine lv_iload hx hb dL_law_1736 (lv_at hl 13 rfl) ?_
          have g1738 : vp_in v25 8 := vp8 h25 a2 hn0.2.2
          refine r_iald (cA := adL 100) (N := 8) S hKL wL (k := 4) (by decide) (fun f => rfl) rfl g1738 dL_law_1738 ?_
          refine lv_i2l hx hb dL_law_1739 rfl ?_
          refine W.lcmp hx hb dL_law_1740 ?_
          refine lv_if_eq (tgt := 1746) hx hb dL_law_1741 (by decide) (fun c1741 => ?_) (fun c1741 => ?_)
          · refine lv_iinc (v := (v25 + (-1))) (lv' := [(25, .int (v25 + (-1))), (28, .long v28), (26, .long v26), (0, .ref b), (1, .ref (adC 0)), (2, .ref (adL 0)), (3, .ref (adL 1)), (4, .ref (adL 2)), (5, .int v5), (6, .int v6), (20, .int v20), (22, .int (nI (hall σ0 v20 (ix (σ0 0 4))))), (23, .ref (adL 4)), (24, .int w24)]) hx hb dL_law_1746 hl (k := 13) rfl rfl (by decide) rfl (fun ls hl => ?_)
            refine lv_goto (tgt := 1620) hx hb dL_law_1749 (by decide) ?_
            exact (ih w24 (v25 + (-1)) σ2 hB_σ2 hF_σ2 d25.2.2.2.2.2.1 (Int.lt_of_le_of_lt d25.2.2.2.2.2.2 a2) (by rw [t1]; exact hW1) (by rw [t1]; exact ar3 a3)) h100 hdis H locs wC wL ls (lv_sub hl [3, 4, 5, 6, 7, 8, 9, 10, 11, 12, 13, 0] rfl)
          · exact absurd (by rw [h4 (ix v25) hx25]; exact od.2.2.2) c1741
    · have t1692 : (nI (hall σ0 v20 (ix (σ0 0 4)))).toInt = 0 := qt_eq c1692
      have h0 : (hall σ0 v20 (ix (σ0 0 4))) = 0 := hall_z c1692 (hz1000 (hall81 hN0.2.1))
      rw [if_pos h0] at q26
      refine lv_lload hx hb dL_law_1695 (lv_at hl 1 rfl) ?_
      refine lv_ldc2 hx hb S.2.2.2.1 (hts _ (tb_t2 (List.mem_of_getElem? (i := 97) rfl))) dL_law_1697 ?_
      refine W.lcmp hx hb dL_law_1700 ?_
      refine lv_if_eq (tgt := 1746) hx hb dL_law_1701 (by decide) (fun c1701 => ?_) (fun c1701 => ?_)
      · refine lv_iinc (v := (v25 + (-1))) (lv' := [(25, .int (v25 + (-1))), (28, .long v28), (26, .long v26), (0, .ref b), (1, .ref (adC 0)), (2, .ref (adL 0)), (3, .ref (adL 1)), (4, .ref (adL 2)), (5, .int v5), (6, .int v6), (20, .int v20), (22, .int (nI (hall σ0 v20 (ix (σ0 0 4))))), (23, .ref (adL 4)), (24, .int w24)]) hx hb dL_law_1746 hl (k := 13) rfl rfl (by decide) rfl (fun ls hl => ?_)
        refine lv_goto (tgt := 1620) hx hb dL_law_1749 (by decide) ?_
        exact (ih w24 (v25 + (-1)) σ2 hB_σ2 hF_σ2 d25.2.2.2.2.2.1 (Int.lt_of_le_of_lt d25.2.2.2.2.2.2 a2) (by rw [t1]; exact hW1) (by rw [t1]; exact ar3 a3)) h100 hdis H locs wC wL ls (lv_sub hl [3, 4, 5, 6, 7, 8, 9, 10, 11, 12, 13, 0] rfl)
      · exact absurd (by rw [← q26]; exact lgc_self _) c1701
  intro h100 hdis H locs wC wL ls hl
  obtain ⟨hL, C0, hKC⟩ := id hC
  obtain ⟨hx, hb, hr, hml, hown, hts, hX, hbl, hlocks, hgv⟩ := C0
  have hN : NW s := NW_of hts
  have S : CallFix p m c cL_law 30 s #[Value.ref b] wsL_law RL := ⟨hx, hb, hml, hown, fun w h => hts w (wsL_law_in w h)⟩
  have hbA : ¬ (fun q : Nat => s.heap.size ≤ q) b := Nat.not_le.mpr hbl
  have hKL := KL_of hKC h100
  have z0 : (0 : Int32).toInt = 0 := by decide
  have z1 : (1 : Int32).toInt = 1 := by decide
  refine lv_iload hx hb dL_law_1620 (lv_at hl 11 rfl) ?_
  refine lv_if_lt (tgt := 1752) hx hb dL_law_1622 (by decide) (fun c1622 => ?_) (fun c1622 => ?_)
  · have t1622 : v25.toInt < 0 := qt_lt c1622
    have t0 := dn1 (v := v25) a1 t1622
    rw [t0] at hW
    exact (hex σ v24 hB hF hW) h100 hdis H locs wC wL ls (lv_sub hl [0, 1, 2, 3, 4, 5, 6, 7, 10] rfl)
  · have t1622 : 0 ≤ v25.toInt := qt_nlt c1622
    have d25 := dn (v := v25) t1622
    rw [d25.2.2.1] at hW
    have ev := d25.2.2.2.1
    have hx25 : ix v25 < (ix (σ0 0 4)) := ixlt t1622 (by rw [← hn0.1]; exact a2)
    have p4 := c4 (h4 (ix v25) hx25) hc11
    have hge := WD_ge hN0.2.1 hW
    refine lv_aload hx hb dL_law_1625 (lv_at hl 9 rfl) ?_
    refine lv_iload hx hb dL_law_1627 (lv_at hl 11 rfl) ?_
    have g1629 : vp_in v25 8 := vp8 t1622 a2 hn0.2.2
    refine r_iald (cA := adL 100) (N := 8) S hKL wL (k := 4) (by decide) (fun f => rfl) rfl g1629 dL_law_1629 ?_
    refine lv_if_le (tgt := 1656) hx hb dL_law_1630 (by decide) (fun c1630 => ?_) (fun c1630 => ?_)
    · have t1630 : (τ 4 (ix v25)).toInt ≤ 0 := qt_le c1630
      have hW1 : WD (fun z => hc σ0 v20 z 10) (ix (σ0 0 4)) (ix v25) v24 := WD_skip hN0.2.1 hW (Or.inl (ze1 p4 t1630))
      refine lv_iload hx hb dL_law_1656 (lv_at hl 10 rfl) ?_
      refine lv_istore (lv' := [(24, .int v24), (0, .ref b), (1, .ref (adC 0)), (2, .ref (adL 0)), (3, .ref (adL 1)), (4, .ref (adL 2)), (5, .int v5), (6, .int v6), (20, .int v20), (22, .int (nI (hall σ0 v20 (ix (σ0 0 4))))), (23, .ref (adL 4)), (25, .int v25)]) hx hb dL_law_1658 hl (by decide) rfl (fun ls hl => ?_)
      exact (h1660 t1622 v24 hW1) h100 hdis H locs wC wL ls (lv_sub hl [1, 2, 3, 4, 5, 6, 7, 8, 9, 10, 0, 11] rfl)
    · have t1630 : 0 < (τ 4 (ix v25)).toInt := qt_nle c1630
      refine lv_iload hx hb dL_law_1633 (lv_at hl 10 rfl) ?_
      refine lv_if_lt (tgt := 1651) hx hb dL_law_1635 (by decide) (fun c1635 => ?_) (fun c1635 => ?_)
      · have t1635 : v24.toInt < 0 := qt_lt c1635
        have hW1 : WD (fun z => hc σ0 v20 z 10) (ix (σ0 0 4)) (ix v25) v25 := by have q := WD_take (P := (fun z => hc σ0 v20 z 10)) hN0.2.1 hx25 hW (ze2 p4 t1630) (Or.inl t1635); rw [ev] at q; exact q
        refine lv_iload hx hb dL_law_1651 (lv_at hl 11 rfl) ?_
        refine lv_goto (tgt := 1658) hx hb dL_law_1653 (by decide) ?_
        refine lv_istore (lv' := [(24, .int v25), (0, .ref b), (1, .ref (adC 0)), (2, .ref (adL 0)), (3, .ref (adL 1)), (4, .ref (adL 2)), (5, .int v5), (6, .int v6), (20, .int v20), (22, .int (nI (hall σ0 v20 (ix (σ0 0 4))))), (23, .ref (adL 4)), (25, .int v25)]) hx hb dL_law_1658 hl (by decide) rfl (fun ls hl => ?_)
        exact (h1660 t1622 v25 hW1) h100 hdis H locs wC wL ls (lv_sub hl [1, 2, 3, 4, 5, 6, 7, 8, 9, 10, 0, 11] rfl)
      · have t1635 : 0 ≤ v24.toInt := qt_nlt c1635
        have hx24 := ze5 hge t1635
        have p5 := c4 (h4 (ix v24) hx24) hc11
        refine lv_aload hx hb dL_law_1638 (lv_at hl 9 rfl) ?_
        refine lv_iload hx hb dL_law_1640 (lv_at hl 11 rfl) ?_
        have g1642 : vp_in v25 8 := vp8 t1622 a2 hn0.2.2
        refine r_iald (cA := adL 100) (N := 8) S hKL wL (k := 4) (by decide) (fun f => rfl) rfl g1642 dL_law_1642 ?_
        refine lv_aload hx hb dL_law_1643 (lv_at hl 9 rfl) ?_
        refine lv_iload hx hb dL_law_1645 (lv_at hl 10 rfl) ?_
        have g1647 : vp_in v24 8 := vp8N hge t1635 hN0.2.1
        refine r_iald (cA := adL 100) (N := 8) S hKL wL (k := 4) (by decide) (fun f => rfl) rfl g1647 dL_law_1647 ?_
        refine lv_icmp_lt (tgt := 1656) hx hb dL_law_1648 (by decide) (fun c1648 => ?_) (fun c1648 => ?_)
        · have t1648 : (τ 4 (ix v25)).toInt < (τ 4 (ix v24)).toInt := qt_lt c1648
          have hW1 : WD (fun z => hc σ0 v20 z 10) (ix (σ0 0 4)) (ix v25) v24 := WD_skip hN0.2.1 hW (Or.inr ⟨t1635, ze3 p4 p5 t1648⟩)
          refine lv_iload hx hb dL_law_1656 (lv_at hl 10 rfl) ?_
          refine lv_istore (lv' := [(24, .int v24), (0, .ref b), (1, .ref (adC 0)), (2, .ref (adL 0)), (3, .ref (adL 1)), (4, .ref (adL 2)), (5, .int v5), (6, .int v6), (20, .int v20), (22, .int (nI (hall σ0 v20 (ix (σ0 0 4))))), (23, .ref (adL 4)), (25, .int v25)]) hx hb dL_law_1658 hl (by decide) rfl (fun ls hl => ?_)
          exact (h1660 t1622 v24 hW1) h100 hdis H locs wC wL ls (lv_sub hl [1, 2, 3, 4, 5, 6, 7, 8, 9, 10, 0, 11] rfl)
        · have t1648 : (τ 4 (ix v24)).toInt ≤ (τ 4 (ix v25)).toInt := qt_nlt c1648
          have hW1 : WD (fun z => hc σ0 v20 z 10) (ix (σ0 0 4)) (ix v25) v25 := by have q := WD_take (P := (fun z => hc σ0 v20 z 10)) hN0.2.1 hx25 hW (ze2 p4 t1630) (Or.inr (ze4 p5 p4 t1648)); rw [ev] at q; exact q
          refine lv_iload hx hb dL_law_1651 (lv_at hl 11 rfl) ?_
          refine lv_goto (tgt := 1658) hx hb dL_law_1653 (by decide) ?_
          refine lv_istore (lv' := [(24, .int v25), (0, .ref b), (1, .ref (adC 0)), (2, .ref (adL 0)), (3, .ref (adL 1)), (4, .ref (adL 2)), (5, .int v5), (6, .int v6), (20, .int v20), (22, .int (nI (hall σ0 v20 (ix (σ0 0 4))))), (23, .ref (adL 4)), (25, .int v25)]) hx hb dL_law_1658 hl (by decide) rfl (fun ls hl => ?_)
          exact (h1660 t1622 v25 hW1) h100 hdis H locs wC wL ls (lv_sub hl [1, 2, 3, 4, 5, 6, 7, 8, 9, 10, 0, 11] rfl)
set_option maxHeartbeats 8000000 in
set_option maxRecDepth 100000 in
theorem s_odds {p : Program} {l : Launch} {e : Env} {s : State} {m : MethodId} {below : List Frame} {meth : Method} {c : Code} {D : va_G} {b L : Nat} {xs : Nat → Int32} {adC : Nat → Nat} (hC : LC p s m meth c D b L xs adC) {adL : Nat → Nat} {σ τ : St} {nc ns : Nat} (hnc : nc ≤ 1000) (hns : ns ≤ 10000) {v5 v6 v20 : Int32} (hB : Br σ τ v5 v6) (h20 : 0 ≤ v20.toInt ∧ v20.toInt < 4) (hD : Dr σ (τ 3)) (h4 : ∀ x, x < (ix (σ 0 4)) → τ 4 x = nI (hc σ v20 x 10))
    (next : ∀ (σ' : St) (v24 : Int32), Br σ' τ v5 v6 → Fx (only 7) σ σ' → WD (fun z => hc σ v20 z 10) (ix (σ 0 4)) 0 v24 → LG p l e s m below meth c D b adC adL 5 σ' τ nc ns 1752 [(0, .ref b), (1, .ref (adC 0)), (2, .ref (adL 0)), (3, .ref (adL 1)), (4, .ref (adL 2)), (5, .int v5), (6, .int v6), (20, .int v20), (24, .int v24)] []) : LG p l e s m below meth c D b adC adL 5 σ τ nc ns 1610 [(0, .ref b), (1, .ref (adC 0)), (2, .ref (adL 0)), (3, .ref (adL 1)), (4, .ref (adL 2)), (5, .int v5), (6, .int v6), (20, .int v20), (22, .int (nI (hall σ v20 (ix (σ 0 4))))), (23, .ref (adL 4))] [] := by
  intro h100 hdis H locs wC wL ls hl
  obtain ⟨hL, C0, hKC⟩ := id hC
  obtain ⟨hx, hb, hr, hml, hown, hts, hX, hbl, hlocks, hgv⟩ := C0
  have hN : NW s := NW_of hts
  have S : CallFix p m c cL_law 30 s #[Value.ref b] wsL_law RL := ⟨hx, hb, hml, hown, fun w h => hts w (wsL_law_in w h)⟩
  have hbA : ¬ (fun q : Nat => s.heap.size ≤ q) b := Nat.not_le.mpr hbl
  have hKL := KL_of hKC h100
  have z0 : (0 : Int32).toInt = 0 := by decide
  have z1 : (1 : Int32).toInt = 1 := by decide
  have hn := hB.n
  have o0 := od0 hn.2.1 hn.2.2
  refine lv_bipush (v := (-9)) hx hb dL_law_1610 (by decide) ?_
  refine lv_istore (lv' := [(24, .int (-9)), (0, .ref b), (1, .ref (adC 0)), (2, .ref (adL 0)), (3, .ref (adL 1)), (4, .ref (adL 2)), (5, .int v5), (6, .int v6), (20, .int v20), (22, .int (nI (hall σ v20 (ix (σ 0 4))))), (23, .ref (adL 4))]) hx hb dL_law_1612 hl (by decide) rfl (fun ls hl => ?_)
  refine lv_iload hx hb dL_law_1614 (lv_at hl 6 rfl) ?_
  refine lv_iconst (v := 1) hx hb dL_law_1616 (by decide) ?_
  refine lv_isub hx hb dL_law_1617 ?_
  refine lv_istore (lv' := [(25, .int (v5 - 1)), (24, .int (-9)), (0, .ref b), (1, .ref (adC 0)), (2, .ref (adL 0)), (3, .ref (adL 1)), (4, .ref (adL 2)), (5, .int v5), (6, .int v6), (20, .int v20), (22, .int (nI (hall σ v20 (ix (σ 0 4))))), (23, .ref (adL 4))]) hx hb dL_law_1618 hl (by decide) rfl (fun ls hl => ?_)
  exact (l_1620 hC hnc hns hB h20 hD h4 next 100 (-9) (v5 - 1) σ hB Fx.id_ o0.1 o0.2.1 (by rw [o0.2.2.1, ← hB.2.1]; exact Or.inl ⟨rfl, fun u hu hN2 => absurd hN2 (Nat.not_lt.mpr hu)⟩) (by rw [o0.2.2.1]; exact o0.2.2.2)) h100 hdis H locs wC wL ls (lv_sub hl [2, 3, 4, 5, 6, 7, 8, 9, 10, 11, 1, 0] rfl)
