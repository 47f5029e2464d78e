/-! the law's walk: who -/
theorem k18 {k : Nat} (h : k < 8) : 10 + k ≠ ix 18 := by rw [show ix 18 = 18 from rfl]; omega
set_option maxHeartbeats 8000000 in
set_option maxRecDepth 100000 in
theorem s_who {p : Program} {l : Launch} {e : Env} {s : State} {m : MethodId} {below : List Frame} {meth : Method} {c : Code} {D : va_G} {b L : Nat} {xs : Nat → Int32} {adC : Nat → Nat} (hC : LC p s m meth c D b L xs adC) {adL : Nat → Nat} {σ σ0 τ : St} {nc ns : Nat} (hnc : nc ≤ 1000) (hns : ns ≤ 10000) {v5 v6 v20 v24 : Int32} (hB : Br σ τ v5 v6) (h20 : 0 ≤ v20.toInt ∧ v20.toInt < 4) (hD0 : Dr σ0 (τ 3)) (hF : Fx (only 7) σ0 σ) (hW : WD (fun z => hc σ0 v20 z 10) (ix (σ0 0 4)) 0 v24)
    (next : ∀ σ' : St, Br σ' τ v5 v6 → LG p l e s m below meth c D b adC adL 3 σ' τ nc ns 74 [(0, .ref b), (1, .ref (adC 0)), (2, .ref (adL 0)), (3, .ref (adL 1)), (4, .ref (adL 2)), (5, .int v5), (6, .int (v6 + 1))] []) : LG p l e s m below meth c D b adC adL 5 σ τ nc ns 1752 [(0, .ref b), (1, .ref (adC 0)), (2, .ref (adL 0)), (3, .ref (adL 1)), (4, .ref (adL 2)), (5, .int v5), (6, .int v6), (20, .int v20), (24, .int v24)] [] := by
  intro h100 hdis H locs wC wL ls hl
  obtain ⟨hL, C0, hKC⟩ := id hC
  obtain ⟨hx, hb, hr, hml, hown, hts, hX, hbl, hlocks, hgv⟩ := C0
  have hN : NW s := NW_of hts
  have S : CallFix p m c cL_law 30 s #[Value.ref b] wsL_law RL := ⟨hx, hb, hml, hown, fun w h => hts w (wsL_law_in w h)⟩
  have hbA : ¬ (fun q : Nat => s.heap.size ≤ q) b := Nat.not_le.mpr hbl
  have hKL := KL_of hKC h100
  have z0 : (0 : Int32).toInt = 0 := by decide
  have z1 : (1 : Int32).toInt = 1 := by decide
  have hR := hB.1
  have hn := hB.n
  refine lv_aload_n hx hb dL_law_1752 rfl (lv_at hl 1 rfl) ?_
  refine lv_iload hx hb dL_law_1753 (lv_at hl 7 rfl) ?_
  refine lv_iconst (v := 1) hx hb dL_law_1755 (by decide) ?_
  refine lv_iconst (v := 1) hx hb dL_law_1756 (by decide) ?_
  refine lv_bipush (v := 10) hx hb dL_law_1757 (by decide) ?_
  refine callWi2 wC wL hdis (va_runV (As := [.int v20, .int 1, .int 1, .int 10]) (rest := []) S (c_X3_who l adC D H.size σ v20 1 1 10 hR.ok) (cwV 4 S.2.2.2.2 gL_law_X3_who rfl rfl rfl ⟨rfl, hd_X3_who⟩ ⟨Nat.le_of_ble_eq_true rfl, Nat.le_of_ble_eq_true rfl⟩) (preV hKC hN wC (k := 0) (by decide) (eC_0 adC _) (q := (RX3, TX3, 14)) rfl) rfl rfl hl.1 rfl (lv_room (Nat.le_of_ble_eq_true rfl)) dL_law_1759 (rm_ok hnc hns)) (fun H locs wC wL => ?_)
  have q1759 := q_who (wd := v20) hR (Dr_fx hF hD0) (by omega) (by omega) (r := v24) (by rw [show (fun z => hc σ v20 z 10) = (fun z => hc σ0 v20 z 10) from funext (fun z => hc_fx hF), show ix (σ 0 4) = (ix (σ0 0 4)) from by rw [hF.1 4 (by omega)]]; exact hW)
  rw [q1759.1]
  have hB1 := hB.fo (k := 7) (by omega) q1759.2
  have hF1 := Fx.tr hF q1759.2
  generalize (f_X3_who σ v20 1 1 10).2 = σ1 at wC hB1 hF1
  have hD1 := Dr_fx hF1 hD0
  refine lv_iload hx hb dL_law_1762 (lv_at hl 8 rfl) ?_
  refine lv_icmp_ne (tgt := 1892) hx hb dL_law_1764 (by decide) (fun c1764 => ?_) (fun c1764 => ?_)
  · exact absurd rfl c1764
  · have t1764 : v24.toInt = v24.toInt := qt_eq c1764
    refine lv_aload_n hx hb dL_law_1767 rfl (lv_at hl 1 rfl) ?_
    refine lv_iconst (v := 4) hx hb dL_law_1768 (by decide) ?_
    refine lv_iconst (v := 1) hx hb dL_law_1769 (by decide) ?_
    refine lv_iconst (v := 1) hx hb dL_law_1770 (by decide) ?_
    refine lv_bipush (v := 10) hx hb dL_law_1771 (by decide) ?_
    refine callWi2 wC wL hdis (va_runV (As := [.int 4, .int 1, .int 1, .int 10]) (rest := []) S (c_X3_who l adC D H.size σ1 4 1 1 10 hB1.1.ok) (cwV 4 S.2.2.2.2 gL_law_X3_who rfl rfl rfl ⟨rfl, hd_X3_who⟩ ⟨Nat.le_of_ble_eq_true rfl, Nat.le_of_ble_eq_true rfl⟩) (preV hKC hN wC (k := 0) (by decide) (eC_0 adC _) (q := (RX3, TX3, 14)) rfl) rfl rfl hl.1 rfl (lv_room (Nat.le_of_ble_eq_true rfl)) dL_law_1773 (rm_ok hnc hns)) (fun H locs wC wL => ?_)
    have q1773 := q_who_4 hB1.1 hD1
    rw [pr1 q1773]
    rw [pr2 q1773] at wC
    have hB2 := hB1.flt 0
    have hD2 := hD1.f (v0 := 0)
    have ft2 : u2 σ1 0 9 0 0 9 = 0 := u2_self _ _ _ _
    generalize u2 σ1 0 9 0 = σ2 at wC hB2 hD2 ft2
    refine lv_bipush (v := (-2)) hx hb dL_law_1776 (by decide) ?_
    refine lv_icmp_ne (tgt := 1892) hx hb dL_law_1778 (by decide) (fun c1778 => ?_) (fun c1778 => ?_)
    · exact absurd rfl c1778
    · refine lv_aload_n hx hb dL_law_1781 rfl (lv_at hl 1 rfl) ?_
      refine lv_iload hx hb dL_law_1782 (lv_at hl 7 rfl) ?_
      refine lv_iconst (v := 1) hx hb dL_law_1784 (by decide) ?_
      refine lv_iconst (v := 1) hx hb dL_law_1785 (by decide) ?_
      refine lv_bipush (v := 16) hx hb dL_law_1786 (by decide) ?_
      refine callWi2 wC wL hdis (va_runV (As := [.int v20, .int 1, .int 1, .int 16]) (rest := []) S (c_X3_who l adC D H.size σ2 v20 1 1 16 hB2.1.ok) (cwV 4 S.2.2.2.2 gL_law_X3_who rfl rfl rfl ⟨rfl, hd_X3_who⟩ ⟨Nat.le_of_ble_eq_true rfl, Nat.le_of_ble_eq_true rfl⟩) (preV hKC hN wC (k := 0) (by decide) (eC_0 adC _) (q := (RX3, TX3, 14)) rfl) rfl rfl hl.1 rfl (lv_room (Nat.le_of_ble_eq_true rfl)) dL_law_1788 (rm_ok hnc hns)) (fun H locs wC wL => ?_)
      have q1788 := q_who_16 (wd := v20) hB2.1
      rw [pr1 q1788]
      rw [pr2 q1788] at wC
      have hB3 := hB2.flt 3
      have hD3 := hD2.f (v0 := 3)
      have ft3 : u2 σ2 0 9 3 0 9 = 3 := u2_self _ _ _ _
      generalize u2 σ2 0 9 3 = σ3 at wC hB3 hD3 ft3
      refine lv_bipush (v := (-13)) hx hb dL_law_1791 (by decide) ?_
      refine lv_icmp_ne (tgt := 1892) hx hb dL_law_1793 (by decide) (fun c1793 => ?_) (fun c1793 => ?_)
      · exact absurd rfl c1793
      · refine lv_aload_n hx hb dL_law_1796 rfl (lv_at hl 1 rfl) ?_
        refine lv_iload hx hb dL_law_1797 (lv_at hl 7 rfl) ?_
        refine lv_iconst (v := 1) hx hb dL_law_1799 (by decide) ?_
        refine lv_iconst (v := 0) hx hb dL_law_1800 (by decide) ?_
        refine lv_bipush (v := 10) hx hb dL_law_1801 (by decide) ?_
        refine callWi2 wC wL hdis (va_runV (As := [.int v20, .int 1, .int 0, .int 10]) (rest := []) S (c_X3_who l adC D H.size σ3 v20 1 0 10 hB3.1.ok) (cwV 4 S.2.2.2.2 gL_law_X3_who rfl rfl rfl ⟨rfl, hd_X3_who⟩ ⟨Nat.le_of_ble_eq_true rfl, Nat.le_of_ble_eq_true rfl⟩) (preV hKC hN wC (k := 0) (by decide) (eC_0 adC _) (q := (RX3, TX3, 14)) rfl) rfl rfl hl.1 rfl (lv_room (Nat.le_of_ble_eq_true rfl)) dL_law_1803 (rm_ok hnc hns)) (fun H locs wC wL => ?_)
        have q1803 := q_who_l0 (wd := v20) (i := 10) hB3.1
        rw [pr1 q1803]
        rw [pr2 q1803] at wC
        have hB4 := hB3.flt 2
        have hD4 := hD3.f (v0 := 2)
        have ft4 : u2 σ3 0 9 2 0 9 = 2 := u2_self _ _ _ _
        generalize u2 σ3 0 9 2 = σ4 at wC hB4 hD4 ft4
        refine lv_bipush (v := (-12)) hx hb dL_law_1806 (by decide) ?_
        refine lv_icmp_ne (tgt := 1892) hx hb dL_law_1808 (by decide) (fun c1808 => ?_) (fun c1808 => ?_)
        · exact absurd rfl c1808
        · refine lv_aload_n hx hb dL_law_1811 rfl (lv_at hl 1 rfl) ?_
          refine lv_iload hx hb dL_law_1812 (lv_at hl 5 rfl) ?_
          refine lv_iload hx hb dL_law_1814 (lv_at hl 7 rfl) ?_
          refine lv_iconst (v := 1) hx hb dL_law_1816 (by decide) ?_
          refine lv_iconst (v := 1) hx hb dL_law_1817 (by decide) ?_
          refine lv_bipush (v := 10) hx hb dL_law_1818 (by decide) ?_
          refine lv_iconst (v := 0) hx hb dL_law_1820 (by decide) ?_
          refine callWl2 wC wL hdis (va_runV (As := [.int v5, .int v20, .int 1, .int 1, .int 10, .int 0]) (rest := []) S (c_X3_odds l adC D H.size σ4 v5 v20 1 1 10 0 hB4.1.ok) (cwV 6 S.2.2.2.2 gL_law_X3_odds rfl rfl rfl ⟨rfl, hd_X3_odds⟩ ⟨Nat.le_of_ble_eq_true rfl, Nat.le_of_ble_eq_true rfl⟩) (preV hKC hN wC (k := 0) (by decide) (eC_0 adC _) (q := (RX3, TX3, 14)) rfl) rfl rfl hl.1 rfl (lv_room (Nat.le_of_ble_eq_true rfl)) dL_law_1821 (rm_ok hnc hns)) (fun H locs wC wL => ?_)
          have q1821 := q_odds_n (wd := v20) (a := 1) (b := 1) (c := 10) (d := 0) hB4.1
          rw [← hB4.2.1] at q1821
          rw [pr1 q1821]
          rw [pr2 q1821] at wC
          have hB5 := hB4.flt 0
          have hD5 := hD4.f (v0 := 0)
          have ft5 : u2 σ4 0 9 0 0 9 = 0 := u2_self _ _ _ _
          generalize u2 σ4 0 9 0 = σ5 at wC hB5 hD5 ft5
          refine lv_ldc2 hx hb S.2.2.2.1 (hts _ (tb_t2 (List.mem_of_getElem? (i := 97) rfl))) dL_law_1824 ?_
          refine W.lcmp hx hb dL_law_1827 ?_
          refine lv_if_ne (tgt := 1892) hx hb dL_law_1828 (by decide) (fun c1828 => ?_) (fun c1828 => ?_)
          · exact absurd (lgc_self _) c1828
          · refine lv_aload_n hx hb dL_law_1831 rfl (lv_at hl 1 rfl) ?_
            refine call0i (va_runV (As := []) (rest := []) S (c_X3_fault l adC D H.size σ5) (cwV 0 S.2.2.2.2 gL_law_X3_fault rfl rfl rfl ⟨rfl, hd_X3_fault⟩ ⟨Nat.le_of_ble_eq_true rfl, Nat.le_of_ble_eq_true rfl⟩) (preV hKC hN wC (k := 0) (by decide) (eC_0 adC _) (q := (RX3, TX3, 14)) rfl) rfl rfl hl.1 rfl (lv_room (Nat.le_of_ble_eq_true rfl)) dL_law_1832 (rm_ok hnc hns)) ?_
            refine lv_if_ne (tgt := 1892) hx hb dL_law_1835 (by decide) (fun c1835 => ?_) (fun c1835 => ?_)
            · exact absurd ft5 c1835
            · have t1835 : (f_X3_fault σ5).toInt = 0 := qt_eq c1835
              refine lv_aload_n hx hb dL_law_1838 rfl (lv_at hl 1 rfl) ?_
              refine lv_iconst (v := 0) hx hb dL_law_1839 (by decide) ?_
              refine lv_iload hx hb dL_law_1840 (lv_at hl 7 rfl) ?_
              refine lv_iconst (v := 1) hx hb dL_law_1842 (by decide) ?_
              refine lv_iconst (v := 1) hx hb dL_law_1843 (by decide) ?_
              refine lv_bipush (v := 16) hx hb dL_law_1844 (by decide) ?_
              refine lv_iconst (v := 0) hx hb dL_law_1846 (by decide) ?_
              refine callWl2 wC wL hdis (va_runV (As := [.int 0, .int v20, .int 1, .int 1, .int 16, .int 0]) (rest := []) S (c_X3_odds l adC D H.size σ5 0 v20 1 1 16 0 hB5.1.ok) (cwV 6 S.2.2.2.2 gL_law_X3_odds rfl rfl rfl ⟨rfl, hd_X3_odds⟩ ⟨Nat.le_of_ble_eq_true rfl, Nat.le_of_ble_eq_true rfl⟩) (preV hKC hN wC (k := 0) (by decide) (eC_0 adC _) (q := (RX3, TX3, 14)) rfl) rfl rfl hl.1 rfl (lv_room (Nat.le_of_ble_eq_true rfl)) dL_law_1847 (rm_ok hnc hns)) (fun H locs wC wL => ?_)
              have q1847 := q_odds_16 (wd := v20) (d := 0) hB5.1
              rw [pr1 q1847]
              rw [pr2 q1847] at wC
              have hB6 := (hB5.flt 0).flt 3
              have hD6 := (hD5.f (v0 := 0)).f (v0 := 3)
              have ft6 : u2 (u2 σ5 0 9 0) 0 9 3 0 9 = 3 := u2_self _ _ _ _
              generalize u2 (u2 σ5 0 9 0) 0 9 3 = σ6 at wC hB6 hD6 ft6
              refine lv_ldc2 hx hb S.2.2.2.1 (hts _ (tb_t2 (List.mem_of_getElem? (i := 97) rfl))) dL_law_1850 ?_
              refine W.lcmp hx hb dL_law_1853 ?_
              refine lv_if_ne (tgt := 1892) hx hb dL_law_1854 (by decide) (fun c1854 => ?_) (fun c1854 => ?_)
              · exact absurd (lgc_self _) c1854
              · refine lv_aload_n hx hb dL_law_1857 rfl (lv_at hl 1 rfl) ?_
                refine call0i (va_runV (As := []) (rest := []) S (c_X3_fault l adC D H.size σ6) (cwV 0 S.2.2.2.2 gL_law_X3_fault rfl rfl rfl ⟨rfl, hd_X3_fault⟩ ⟨Nat.le_of_ble_eq_true rfl, Nat.le_of_ble_eq_true rfl⟩) (preV hKC hN wC (k := 0) (by decide) (eC_0 adC _) (q := (RX3, TX3, 14)) rfl) rfl rfl hl.1 rfl (lv_room (Nat.le_of_ble_eq_true rfl)) dL_law_1858 (rm_ok hnc hns)) ?_
                refine lv_iconst (v := 3) hx hb dL_law_1861 (by decide) ?_
                refine lv_icmp_ne (tgt := 1892) hx hb dL_law_1862 (by decide) (fun c1862 => ?_) (fun c1862 => ?_)
                · exact absurd ft6 c1862
                · have t1862 : (f_X3_fault σ6).toInt = 3 := qt_eq c1862
                  refine lv_aload_n hx hb dL_law_1865 rfl (lv_at hl 1 rfl) ?_
                  refine lv_iconst (v := 1) hx hb dL_law_1866 (by decide) ?_
                  refine lv_bipush (v := 18) hx hb dL_law_1867 (by decide) ?_
                  refine lv_iconst (v := (-1)) hx hb dL_law_1869 (by decide) ?_
                  refine callWi2 wC wL hdis (va_runV (As := [.int 1, .int 18, .int (-1)]) (rest := []) S (c_X3_put l adC D H.size σ6 1 18 (-1) hB6.1.ok) (cwV 3 S.2.2.2.2 gL_law_X3_put rfl rfl rfl ⟨rfl, hd_X3_put⟩ ⟨Nat.le_of_ble_eq_true rfl, Nat.le_of_ble_eq_true rfl⟩) (preV hKC hN wC (k := 0) (by decide) (eC_0 adC _) (q := (RX3, TX3, 14)) rfl) rfl rfl hl.1 rfl (lv_room (Nat.le_of_ble_eq_true rfl)) dL_law_1870 (rm_ok hnc hns)) (fun H locs wC wL => ?_)
                  have q1870 := q_put1 (v := -1) (i := 18) hB6.1.sh (by decide) (by decide) (by decide) (by decide)
                  rw [pr1 q1870]
                  rw [pr2 q1870] at wC
                  have hFp := Fx_put (σ := σ6) (k := ix 18) (v := -1) (w := 0)
                  have hB7 := hB6.fx (hFp.mo (fun c hc => by unfold b3 at hc; unfold bd; omega))
                  have h8 : u2 (u2 σ6 0 9 0) 14 (ix 18) (-1) 14 18 = -1 := u2_self _ _ _ _
                  have hD7 : ∀ k, k < 8 → u2 (u2 σ6 0 9 0) 14 (ix 18) (-1) 14 (10 + k) = τ 3 k ∧ 0 ≤ (τ 3 k).toInt ∧ (τ 3 k).toInt ≤ 99 := fun k hk => by rw [u2_nk (show 10 + k ≠ ix 18 from k18 hk), u2_nc (by decide)]; exact hD6 k (Nat.lt_succ_of_lt hk)
                  generalize u2 (u2 σ6 0 9 0) 14 (ix 18) (-1) = σ7 at wC hB7 h8 hD7
                  refine lv_iconst (v := 1) hx hb dL_law_1873 (by decide) ?_
                  refine lv_icmp_ne (tgt := 1892) hx hb dL_law_1874 (by decide) (fun c1874 => ?_) (fun c1874 => ?_)
                  · exact absurd rfl c1874
                  · refine lv_aload_n hx hb dL_law_1877 rfl (lv_at hl 1 rfl) ?_
                    refine lv_iload hx hb dL_law_1878 (lv_at hl 7 rfl) ?_
                    refine lv_iconst (v := 1) hx hb dL_law_1880 (by decide) ?_
                    refine lv_iconst (v := 1) hx hb dL_law_1881 (by decide) ?_
                    refine lv_bipush (v := 10) hx hb dL_law_1882 (by decide) ?_
                    refine callWi2 wC wL hdis (va_runV (As := [.int v20, .int 1, .int 1, .int 10]) (rest := []) S (c_X3_who l adC D H.size σ7 v20 1 1 10 hB7.1.ok) (cwV 4 S.2.2.2.2 gL_law_X3_who rfl rfl rfl ⟨rfl, hd_X3_who⟩ ⟨Nat.le_of_ble_eq_true rfl, Nat.le_of_ble_eq_true rfl⟩) (preV hKC hN wC (k := 0) (by decide) (eC_0 adC _) (q := (RX3, TX3, 14)) rfl) rfl rfl hl.1 rfl (lv_room (Nat.le_of_ble_eq_true rfl)) dL_law_1884 (rm_ok hnc hns)) (fun H locs wC wL => ?_)
                    have q1884 := q_who_n hB7.1 (wd := v20) hD7 h8
                    rw [pr1 q1884]
                    rw [pr2 q1884] at wC
                    have hB8 := hB7.flt 0
                    generalize u2 σ7 0 9 0 = σ8 at wC hB8
                    refine lv_bipush (v := (-2)) hx hb dL_law_1887 (by decide) ?_
                    refine lv_icmp_eq (tgt := 1894) hx hb dL_law_1889 (by decide) (fun c1889 => ?_) (fun c1889 => ?_)
                    · refine lv_iinc (v := (v6 + 1)) (lv' := [(6, .int (v6 + 1)), (0, .ref b), (1, .ref (adC 0)), (2, .ref (adL 0)), (3, .ref (adL 1)), (4, .ref (adL 2)), (5, .int v5), (20, .int v20), (24, .int v24)]) hx hb dL_law_1894 hl (k := 6) rfl rfl (by decide) rfl (fun ls hl => ?_)
                      refine lv_goto (tgt := 74) hx hb dL_law_1897 (by decide) ?_
                      exact next σ8 hB8 h100 (fun i hi j hj => hdis i hi j (by omega)) H locs wC (wL.take (by decide)) ls (lv_sub hl [1, 2, 3, 4, 5, 6, 0] rfl)
                    · exact absurd rfl c1889
