/-! the law's walk: forged, and what it refuses -/
set_option maxHeartbeats 8000000 in
set_option maxRecDepth 100000 in
theorem s_forged {p : Program} {l : Launch} {e : Env} {s : State} {m : MethodId} {below : List Frame} {meth : Method} {c : Code} {D : va_G} {b L : Nat} {xs : Nat → Int32} {adC : Nat → Nat} (hC : LC p s m meth c D b L xs adC) {adL : Nat → Nat} {σ τ : St} {nc ns : Nat} (hnc : nc ≤ 1000) (hns : ns ≤ 10000) {v5 v6 v10 v12 v13 v14 v15 : Int32} (hB : Bs σ τ v5 v6) (h10 : v10 = σ 0 7) (h12 : 0 ≤ v12.toInt ∧ v12.toInt < v5.toInt) (h13 : 0 ≤ v13.toInt ∧ v13.toInt < v5.toInt) (hne : v12 ≠ v13) (h14 : 0 ≤ v14.toInt ∧ v14.toInt < 8) (hst : Stq σ (ix v14)) (hLB : LB (tk σ (ix v12) (ix v13) (ix v14)) (2 ^ ix v14) 0 v15)
    (next : ∀ (σ' : St), Bs σ' τ v5 v6 → v10 = σ' 0 7 → LG p l e s m below meth c D b adC adL 3 σ' τ nc ns 823 [(0, .ref b), (1, .ref (adC 0)), (2, .ref (adL 0)), (3, .ref (adL 1)), (4, .ref (adL 2)), (5, .int v5), (6, .int v6), (10, .int v10), (12, .int v12), (13, .int v13)] []) : LG p l e s m below meth c D b adC adL 3 σ τ nc ns 655 [(0, .ref b), (1, .ref (adC 0)), (2, .ref (adL 0)), (3, .ref (adL 1)), (4, .ref (adL 2)), (5, .int v5), (6, .int v6), (10, .int v10), (12, .int v12), (13, .int v13), (14, .int v14), (15, .int v15)] [] := by
  intro h100 hdis H locs wC wL ls hl
  obtain ⟨hL, C0, hKC⟩ := id hC
  obtain ⟨hx, hb, hr, hml, hown, hts, hX, hbl, hlocks, hgv⟩ := C0
  have hN : NW s := NW_of hts
  have S : CallFix p m c cL_law 30 s #[Value.ref b] wsL_law RL := ⟨hx, hb, hml, hown, fun w h => hts w (wsL_law_in w h)⟩
  have hbA : ¬ (fun q : Nat => s.heap.size ≤ q) b := Nat.not_le.mpr hbl
  have hKL := KL_of hKC h100
  have z0 : (0 : Int32).toInt = 0 := by decide
  have z1 : (1 : Int32).toInt = 1 := by decide
  have hR := hB.1
  have hn := hB.n
  refine lv_aload_n hx hb dL_law_655 rfl (lv_at hl 1 rfl) ?_
  refine lv_iload hx hb dL_law_656 (lv_at hl 8 rfl) ?_
  refine lv_iload hx hb dL_law_658 (lv_at hl 9 rfl) ?_
  refine lv_iconst (v := 1) hx hb dL_law_660 (by decide) ?_
  refine lv_iconst (v := 1) hx hb dL_law_661 (by decide) ?_
  refine lv_iconst (v := 0) hx hb dL_law_662 (by decide) ?_
  refine lv_iload hx hb dL_law_663 (lv_at hl 10 rfl) ?_
  refine callWi2 wC wL hdis (va_runV (As := [.int v12, .int v13, .int 1, .int 1, .int 0, .int v14]) (rest := []) S (c_X3_forged l adC D H.size σ v12 v13 1 1 0 v14 hR.ok) (cwV 6 S.2.2.2.2 gL_law_X3_forged rfl rfl rfl ⟨rfl, hd_X3_forged⟩ ⟨Nat.le_of_ble_eq_true rfl, Nat.le_of_ble_eq_true rfl⟩) (preV hKC hN wC (k := 0) (by decide) (eC_0 adC _) (q := (RX3, TX3, 14)) rfl) rfl rfl hl.1 rfl (lv_room (Nat.le_of_ble_eq_true rfl)) dL_law_665 (rm_ok hnc hns)) (fun H locs wC wL => ?_)
  have q665 := q_forged (s := ix v14) hR (by omega) (by omega) (by omega) (by omega) hne (by have := ix_toInt (x := v14) (by omega); omega) hst hLB
  rw [← nI_ix (x := v14) (by omega)] at q665
  rw [q665.1]
  have hB1 := hB.fo (Or.inl rfl) q665.2
  have g1 := q665.2.1 7 (by omega)
  generalize (f_X3_forged σ v12 v13 1 1 0 v14).2 = σ1 at wC hB1 g1
  have n1_ := hB1.n
  refine lv_iload hx hb dL_law_668 (lv_at hl 11 rfl) ?_
  refine lv_icmp_ne (tgt := 821) hx hb dL_law_670 (by decide) (fun c670 => ?_) (fun c670 => ?_)
  · exact absurd rfl c670
  · have t670 : v15.toInt = v15.toInt := qt_eq c670
    refine lv_aload_n hx hb dL_law_673 rfl (lv_at hl 1 rfl) ?_
    refine lv_iload hx hb dL_law_674 (lv_at hl 8 rfl) ?_
    refine lv_iload hx hb dL_law_676 (lv_at hl 8 rfl) ?_
    refine lv_iconst (v := 1) hx hb dL_law_678 (by decide) ?_
    refine lv_iconst (v := 1) hx hb dL_law_679 (by decide) ?_
    refine lv_iconst (v := 0) hx hb dL_law_680 (by decide) ?_
    refine lv_iload hx hb dL_law_681 (lv_at hl 10 rfl) ?_
    refine callWi2 wC wL hdis (va_runV (As := [.int v12, .int v12, .int 1, .int 1, .int 0, .int v14]) (rest := []) S (c_X3_forged l adC D H.size σ1 v12 v12 1 1 0 v14 hB1.1.ok) (cwV 6 S.2.2.2.2 gL_law_X3_forged rfl rfl rfl ⟨rfl, hd_X3_forged⟩ ⟨Nat.le_of_ble_eq_true rfl, Nat.le_of_ble_eq_true rfl⟩) (preV hKC hN wC (k := 0) (by decide) (eC_0 adC _) (q := (RX3, TX3, 14)) rfl) rfl rfl hl.1 rfl (lv_room (Nat.le_of_ble_eq_true rfl)) dL_law_683 (rm_ok hnc hns)) (fun H locs wC wL => ?_)
    have q683 := q_forged_xx (σ := σ1) (x := v12) (a := 1) (b := 1) (c := 0) (d := v14)
    rw [pr1 q683]
    rw [pr2 q683] at wC
    have g2 : u2 σ1 0 9 0 0 7 = σ1 0 7 := u2_nk (by omega)
    have hB2 := hB1.flt 0
    generalize u2 σ1 0 9 0 = σ2 at wC hB2 g2
    have n2 := hB2.n
    refine lv_iconst (v := (-1)) hx hb dL_law_686 (by decide) ?_
    refine lv_icmp_ne (tgt := 821) hx hb dL_law_687 (by decide) (fun c687 => ?_) (fun c687 => ?_)
    · exact absurd rfl c687
    · refine lv_aload_n hx hb dL_law_690 rfl (lv_at hl 1 rfl) ?_
      refine lv_iload hx hb dL_law_691 (lv_at hl 8 rfl) ?_
      refine lv_iload hx hb dL_law_693 (lv_at hl 9 rfl) ?_
      refine lv_iconst (v := 4) hx hb dL_law_695 (by decide) ?_
      refine lv_iconst (v := 1) hx hb dL_law_696 (by decide) ?_
      refine lv_iconst (v := 0) hx hb dL_law_697 (by decide) ?_
      refine lv_iconst (v := 0) hx hb dL_law_698 (by decide) ?_
      refine callWi2 wC wL hdis (va_runV (As := [.int v12, .int v13, .int 4, .int 1, .int 0, .int 0]) (rest := []) S (c_X3_forged l adC D H.size σ2 v12 v13 4 1 0 0 hB2.1.ok) (cwV 6 S.2.2.2.2 gL_law_X3_forged rfl rfl rfl ⟨rfl, hd_X3_forged⟩ ⟨Nat.le_of_ble_eq_true rfl, Nat.le_of_ble_eq_true rfl⟩) (preV hKC hN wC (k := 0) (by decide) (eC_0 adC _) (q := (RX3, TX3, 14)) rfl) rfl rfl hl.1 rfl (lv_room (Nat.le_of_ble_eq_true rfl)) dL_law_699 (rm_ok hnc hns)) (fun H locs wC wL => ?_)
      have q699 := q_forged_sp (a := 4) (b := 1) (c := 0) (d := 0) hB2.1 (by omega) (by omega) (by omega) (by omega) hne (by decide) sp_s4
      rw [pr1 q699]
      rw [pr2 q699] at wC
      have g3 : u2 σ2 0 9 0 0 7 = σ2 0 7 := u2_nk (by omega)
      have hB3 := hB2.flt 0
      generalize u2 σ2 0 9 0 = σ3 at wC hB3 g3
      have n3 := hB3.n
      refine lv_iconst (v := (-1)) hx hb dL_law_702 (by decide) ?_
      refine lv_icmp_ne (tgt := 821) hx hb dL_law_703 (by decide) (fun c703 => ?_) (fun c703 => ?_)
      · exact absurd rfl c703
      · refine lv_aload_n hx hb dL_law_706 rfl (lv_at hl 1 rfl) ?_
        refine lv_iload hx hb dL_law_707 (lv_at hl 8 rfl) ?_
        refine lv_iload hx hb dL_law_709 (lv_at hl 9 rfl) ?_
        refine lv_iconst (v := 1) hx hb dL_law_711 (by decide) ?_
        refine lv_iconst (v := 3) hx hb dL_law_712 (by decide) ?_
        refine lv_iconst (v := 0) hx hb dL_law_713 (by decide) ?_
        refine lv_iconst (v := 0) hx hb dL_law_714 (by decide) ?_
        refine callWi2 wC wL hdis (va_runV (As := [.int v12, .int v13, .int 1, .int 3, .int 0, .int 0]) (rest := []) S (c_X3_forged l adC D H.size σ3 v12 v13 1 3 0 0 hB3.1.ok) (cwV 6 S.2.2.2.2 gL_law_X3_forged rfl rfl rfl ⟨rfl, hd_X3_forged⟩ ⟨Nat.le_of_ble_eq_true rfl, Nat.le_of_ble_eq_true rfl⟩) (preV hKC hN wC (k := 0) (by decide) (eC_0 adC _) (q := (RX3, TX3, 14)) rfl) rfl rfl hl.1 rfl (lv_room (Nat.le_of_ble_eq_true rfl)) dL_law_715 (rm_ok hnc hns)) (fun H locs wC wL => ?_)
        have q715 := q_forged_sp (a := 1) (b := 3) (c := 0) (d := 0) hB3.1 (by omega) (by omega) (by omega) (by omega) hne (by decide) sp_l3
        rw [pr1 q715]
        rw [pr2 q715] at wC
        have g4 : u2 σ3 0 9 0 0 7 = σ3 0 7 := u2_nk (by omega)
        have hB4 := hB3.flt 0
        generalize u2 σ3 0 9 0 = σ4 at wC hB4 g4
        have n4 := hB4.n
        refine lv_bipush (v := (-2)) hx hb dL_law_718 (by decide) ?_
        refine lv_icmp_ne (tgt := 821) hx hb dL_law_720 (by decide) (fun c720 => ?_) (fun c720 => ?_)
        · exact absurd rfl c720
        · refine lv_aload_n hx hb dL_law_723 rfl (lv_at hl 1 rfl) ?_
          refine lv_iload hx hb dL_law_724 (lv_at hl 8 rfl) ?_
          refine lv_iload hx hb dL_law_726 (lv_at hl 9 rfl) ?_
          refine lv_iconst (v := 1) hx hb dL_law_728 (by decide) ?_
          refine lv_iconst (v := 0) hx hb dL_law_729 (by decide) ?_
          refine lv_iconst (v := 0) hx hb dL_law_730 (by decide) ?_
          refine lv_iconst (v := 1) hx hb dL_law_731 (by decide) ?_
          refine callWi2 wC wL hdis (va_runV (As := [.int v12, .int v13, .int 1, .int 0, .int 0, .int 1]) (rest := []) S (c_X3_forged l adC D H.size σ4 v12 v13 1 0 0 1 hB4.1.ok) (cwV 6 S.2.2.2.2 gL_law_X3_forged rfl rfl rfl ⟨rfl, hd_X3_forged⟩ ⟨Nat.le_of_ble_eq_true rfl, Nat.le_of_ble_eq_true rfl⟩) (preV hKC hN wC (k := 0) (by decide) (eC_0 adC _) (q := (RX3, TX3, 14)) rfl) rfl rfl hl.1 rfl (lv_room (Nat.le_of_ble_eq_true rfl)) dL_law_732 (rm_ok hnc hns)) (fun H locs wC wL => ?_)
          have q732 := q_forged_sp (a := 1) (b := 0) (c := 0) (d := 1) hB4.1 (by omega) (by omega) (by omega) (by omega) hne (by decide) (sp_l0 hB4.1.sh)
          rw [pr1 q732]
          rw [pr2 q732] at wC
          have g5 : u2 σ4 0 9 2 0 7 = σ4 0 7 := u2_nk (by omega)
          have hB5 := hB4.flt 2
          generalize u2 σ4 0 9 2 = σ5 at wC hB5 g5
          have n5 := hB5.n
          refine lv_bipush (v := (-12)) hx hb dL_law_735 (by decide) ?_
          refine lv_icmp_ne (tgt := 821) hx hb dL_law_737 (by decide) (fun c737 => ?_) (fun c737 => ?_)
          · exact absurd rfl c737
          · refine lv_aload_n hx hb dL_law_740 rfl (lv_at hl 1 rfl) ?_
            refine lv_iload hx hb dL_law_741 (lv_at hl 8 rfl) ?_
            refine lv_iload hx hb dL_law_743 (lv_at hl 9 rfl) ?_
            refine lv_iconst (v := 1) hx hb dL_law_745 (by decide) ?_
            refine lv_iconst (v := 1) hx hb dL_law_746 (by decide) ?_
            refine lv_iconst (v := 0) hx hb dL_law_747 (by decide) ?_
            refine lv_bipush (v := 13) hx hb dL_law_748 (by decide) ?_
            refine callWi2 wC wL hdis (va_runV (As := [.int v12, .int v13, .int 1, .int 1, .int 0, .int 13]) (rest := []) S (c_X3_forged l adC D H.size σ5 v12 v13 1 1 0 13 hB5.1.ok) (cwV 6 S.2.2.2.2 gL_law_X3_forged rfl rfl rfl ⟨rfl, hd_X3_forged⟩ ⟨Nat.le_of_ble_eq_true rfl, Nat.le_of_ble_eq_true rfl⟩) (preV hKC hN wC (k := 0) (by decide) (eC_0 adC _) (q := (RX3, TX3, 14)) rfl) rfl rfl hl.1 rfl (lv_room (Nat.le_of_ble_eq_true rfl)) dL_law_750 (rm_ok hnc hns)) (fun H locs wC wL => ?_)
            have q750 := q_forged_sp (a := 1) (b := 1) (c := 0) (d := 13) hB5.1 (by omega) (by omega) (by omega) (by omega) hne (by decide) ((sp_e hB5.1.sh (by decide) (by decide)).2.1 (by decide) (by decide))
            rw [pr1 q750]
            rw [pr2 q750] at wC
            have g6 : u2 σ5 0 9 3 0 7 = σ5 0 7 := u2_nk (by omega)
            have hB6 := hB5.flt 3
            generalize u2 σ5 0 9 3 = σ6 at wC hB6 g6
            have n6 := hB6.n
            refine lv_bipush (v := (-13)) hx hb dL_law_753 (by decide) ?_
            refine lv_icmp_ne (tgt := 821) hx hb dL_law_755 (by decide) (fun c755 => ?_) (fun c755 => ?_)
            · exact absurd rfl c755
            · refine lv_aload_n hx hb dL_law_758 rfl (lv_at hl 1 rfl) ?_
              refine lv_iload hx hb dL_law_759 (lv_at hl 8 rfl) ?_
              refine lv_iload hx hb dL_law_761 (lv_at hl 9 rfl) ?_
              refine lv_iconst (v := 1) hx hb dL_law_763 (by decide) ?_
              refine lv_iconst (v := 1) hx hb dL_law_764 (by decide) ?_
              refine lv_iconst (v := 0) hx hb dL_law_765 (by decide) ?_
              refine lv_bipush (v := 11) hx hb dL_law_766 (by decide) ?_
              refine callWi2 wC wL hdis (va_runV (As := [.int v12, .int v13, .int 1, .int 1, .int 0, .int 11]) (rest := []) S (c_X3_forged l adC D H.size σ6 v12 v13 1 1 0 11 hB6.1.ok) (cwV 6 S.2.2.2.2 gL_law_X3_forged rfl rfl rfl ⟨rfl, hd_X3_forged⟩ ⟨Nat.le_of_ble_eq_true rfl, Nat.le_of_ble_eq_true rfl⟩) (preV hKC hN wC (k := 0) (by decide) (eC_0 adC _) (q := (RX3, TX3, 14)) rfl) rfl rfl hl.1 rfl (lv_room (Nat.le_of_ble_eq_true rfl)) dL_law_768 (rm_ok hnc hns)) (fun H locs wC wL => ?_)
              have q768 := q_forged_11 hB6.1 (by omega) (by omega) (by omega) (by omega) hne
              rw [pr1 q768]
              rw [pr2 q768] at wC
              have g7 : u2 σ6 0 9 0 0 7 = σ6 0 7 := u2_nk (by omega)
              have hB7 := hB6.flt 0
              generalize u2 σ6 0 9 0 = σ7 at wC hB7 g7
              have n7 := hB7.n
              refine lv_bipush (v := (-2)) hx hb dL_law_771 (by decide) ?_
              refine lv_icmp_ne (tgt := 821) hx hb dL_law_773 (by decide) (fun c773 => ?_) (fun c773 => ?_)
              · exact absurd rfl c773
              · refine lv_aload_n hx hb dL_law_776 rfl (lv_at hl 1 rfl) ?_
                refine lv_iload hx hb dL_law_777 (lv_at hl 8 rfl) ?_
                refine lv_iload hx hb dL_law_779 (lv_at hl 9 rfl) ?_
                refine lv_iconst (v := 1) hx hb dL_law_781 (by decide) ?_
                refine lv_iconst (v := 1) hx hb dL_law_782 (by decide) ?_
                refine lv_iconst (v := 0) hx hb dL_law_783 (by decide) ?_
                refine lv_iconst (v := (-1)) hx hb dL_law_784 (by decide) ?_
                refine callWi2 wC wL hdis (va_runV (As := [.int v12, .int v13, .int 1, .int 1, .int 0, .int (-1)]) (rest := []) S (c_X3_forged l adC D H.size σ7 v12 v13 1 1 0 (-1) hB7.1.ok) (cwV 6 S.2.2.2.2 gL_law_X3_forged rfl rfl rfl ⟨rfl, hd_X3_forged⟩ ⟨Nat.le_of_ble_eq_true rfl, Nat.le_of_ble_eq_true rfl⟩) (preV hKC hN wC (k := 0) (by decide) (eC_0 adC _) (q := (RX3, TX3, 14)) rfl) rfl rfl hl.1 rfl (lv_room (Nat.le_of_ble_eq_true rfl)) dL_law_785 (rm_ok hnc hns)) (fun H locs wC wL => ?_)
                have q785 := q_forged_sp (a := 1) (b := 1) (c := 0) (d := -1) hB7.1 (by omega) (by omega) (by omega) (by omega) hne (by decide) ((sp_e hB7.1.sh (by decide) (by decide)).2.2 (by decide))
                rw [pr1 q785]
                rw [pr2 q785] at wC
                have g8 : u2 σ7 0 9 4 0 7 = σ7 0 7 := u2_nk (by omega)
                have hB8 := hB7.flt 4
                generalize u2 σ7 0 9 4 = σ8 at wC hB8 g8
                have n8 := hB8.n
                refine lv_bipush (v := (-14)) hx hb dL_law_788 (by decide) ?_
                refine lv_icmp_ne (tgt := 821) hx hb dL_law_790 (by decide) (fun c790 => ?_) (fun c790 => ?_)
                · exact absurd rfl c790
                · refine lv_aload_n hx hb dL_law_793 rfl (lv_at hl 1 rfl) ?_
                  refine lv_iconst (v := 1) hx hb dL_law_794 (by decide) ?_
                  refine lv_iconst (v := 1) hx hb dL_law_795 (by decide) ?_
                  refine lv_iconst (v := 0) hx hb dL_law_796 (by decide) ?_
                  refine callWi2 wC wL hdis (va_runV (As := [.int 1, .int 1, .int 0]) (rest := []) S (c_X3_put l adC D H.size σ8 1 1 0 hB8.1.ok) (cwV 3 S.2.2.2.2 gL_law_X3_put rfl rfl rfl ⟨rfl, hd_X3_put⟩ ⟨Nat.le_of_ble_eq_true rfl, Nat.le_of_ble_eq_true rfl⟩) (preV hKC hN wC (k := 0) (by decide) (eC_0 adC _) (q := (RX3, TX3, 14)) rfl) rfl rfl hl.1 rfl (lv_room (Nat.le_of_ble_eq_true rfl)) dL_law_797 (rm_ok hnc hns)) (fun H locs wC wL => ?_)
                  have q797 := q_put1 (v := 0) (i := 1) hB8.1.sh (by decide) (by decide) (by decide) (by decide)
                  rw [pr1 q797]
                  rw [pr2 q797] at wC
                  have hF9 := Fx_put (σ := σ8) (k := ix 1) (v := 0) (w := 0)
                  have hB9 := hB8.b3 hF9
                  have g9 := hF9.1 7 (by omega)
                  have hz : u2 (u2 σ8 0 9 0) 14 (ix 1) 0 14 1 = 0 := u2_self _ _ _ _
                  generalize u2 (u2 σ8 0 9 0) 14 (ix 1) 0 = σ9 at wC hB9 g9 hz
                  have n9 := hB9.n
                  refine lv_iconst (v := 1) hx hb dL_law_800 (by decide) ?_
                  refine lv_icmp_ne (tgt := 821) hx hb dL_law_801 (by decide) (fun c801 => ?_) (fun c801 => ?_)
                  · exact absurd rfl c801
                  · refine lv_aload_n hx hb dL_law_804 rfl (lv_at hl 1 rfl) ?_
                    refine lv_iload hx hb dL_law_805 (lv_at hl 8 rfl) ?_
                    refine lv_iload hx hb dL_law_807 (lv_at hl 9 rfl) ?_
                    refine lv_iconst (v := 1) hx hb dL_law_809 (by decide) ?_
                    refine lv_iconst (v := 1) hx hb dL_law_810 (by decide) ?_
                    refine lv_iconst (v := 0) hx hb dL_law_811 (by decide) ?_
                    refine lv_iconst (v := 1) hx hb dL_law_812 (by decide) ?_
                    refine callWi2 wC wL hdis (va_runV (As := [.int v12, .int v13, .int 1, .int 1, .int 0, .int 1]) (rest := []) S (c_X3_forged l adC D H.size σ9 v12 v13 1 1 0 1 hB9.1.ok) (cwV 6 S.2.2.2.2 gL_law_X3_forged rfl rfl rfl ⟨rfl, hd_X3_forged⟩ ⟨Nat.le_of_ble_eq_true rfl, Nat.le_of_ble_eq_true rfl⟩) (preV hKC hN wC (k := 0) (by decide) (eC_0 adC _) (q := (RX3, TX3, 14)) rfl) rfl rfl hl.1 rfl (lv_room (Nat.le_of_ble_eq_true rfl)) dL_law_813 (rm_ok hnc hns)) (fun H locs wC wL => ?_)
                    have q813 := q_forged_1 hB9.1 (by omega) (by omega) (by omega) (by omega) hne hz
                    rw [pr1 q813]
                    rw [pr2 q813] at wC
                    have g10 : u2 σ9 0 9 0 0 7 = σ9 0 7 := u2_nk (by omega)
                    have hB10 := hB9.flt 0
                    generalize u2 σ9 0 9 0 = σ10 at wC hB10 g10
                    have n10 := hB10.n
                    refine lv_bipush (v := (-2)) hx hb dL_law_816 (by decide) ?_
                    refine lv_icmp_eq (tgt := 823) hx hb dL_law_818 (by decide) (fun c818 => ?_) (fun c818 => ?_)
                    · have h10e : v10 = σ10 0 7 := by rw [g10, g9, g8, g7, g6, g5, g4, g3, g2, g1]; exact h10
                      exact (next σ10 hB10 h10e) h100 hdis H locs wC wL ls (lv_sub hl [0, 1, 2, 3, 4, 5, 6, 7, 8, 9] rfl)
                    · exact absurd rfl c818
