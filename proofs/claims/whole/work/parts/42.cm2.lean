set_option maxHeartbeats 4000000 in
set_option maxRecDepth 100000 in
theorem c_X4_fits (l : Launch) (ad : Nat → Nat) (D : va_G) (sz : Nat) (σ : St) (p1 : Int32) (p2 : Int32) (hok : OkM σ) : Met l yX4_fits wsX4_fits ({ frames := 3, cells := 0, slots := 0, locals := 80 }) (PreW 18 (eM ad) ad D (tyM ad) σ sz ([.ref (ad 0), .int p1, .int p2] : List Value)) (Q0i (f_X4_fits σ p1 p2)) 0 0 N0 := by
  generalize hG : f_X4_fits σ p1 p2 = T
  refine headW (cc := cX4_fits) (maxL := 9) (ret := (some .int)) ([.ref (ad 0), .int p1, .int p2] : List Value) (by decide) rfl (Nat.le_of_ble_eq_true rfl) ?_
  intro p e s m below meth c S hr hlocks hK hN hsz w ls hl
  have S : CallFix p m c cX4_fits 9 s ([.ref (ad 0), .int p1, .int p2] : List Value).toArray wsX4_fits RX4 := S
  have hx := S.1
  have hb := S.2.1
  have z0 : (0 : Int32).toInt = 0 := by decide
  have z1 : (1 : Int32).toInt = 1 := by decide
  have hl : lv_has ls 9 [(0, .ref (ad 0)), (1, .int p1), (2, .int p2)] := hl
  have hinX4 : ∀ w ∈ wsX40, w ∈ wsX4_fits := (fun _ h => List.mem_cons_of_mem _ (List.mem_append_right _ h))
  have okf0 := hok.1
  have okf1 := hok.2.1
  have okf2 := hok.2.2.1
  have okf3 := hok.2.2.2.1
  have okf4 := hok.2.2.2.2.1
  have okf6 := hok.2.2.2.2.2.1
  have okf7 := hok.2.2.2.2.2.2.1
  have okf8 := hok.2.2.2.2.2.2.2
  rw [f_X4_fits] at hG
  refine lv_aload_n hx hb dX4_fits_0 rfl (lv_at hl 0 rfl) ?_
  refine lv_iload_n hx hb dX4_fits_1 rfl (lv_at hl 1 rfl) ?_
  refine call0i (va_runV (As := [.int p1]) (rest := []) S (c_X4_noPaper l ad D s.heap.size σ p1) (cwV 1 S.2.2.2.2 gX4_fits_X4_noPaper rfl rfl rfl ⟨rfl, hd_X4_noPaper⟩ ⟨Nat.le_of_ble_eq_true rfl, Nat.le_of_ble_eq_true rfl⟩) (preV hK hN w (k := 0) (by decide) (eM_0 ad _) (q := (RX4, TX4, 25)) rfl) rfl rfl hl.1 rfl (lv_room (Nat.le_of_ble_eq_true rfl)) dX4_fits_2 ⟨Nat.zero_le _, Nat.zero_le _⟩) ?_
  refine lv_if_eq (tgt := 10) hx hb dX4_fits_5 (by decide) (fun c5 => ?_) (fun c5 => ?_)
  · have t5 := bf_noPaper_z c5
    rw [if_pos c5] at hG
    refine lv_iload_n hx hb dX4_fits_10 rfl (lv_at hl 2 rfl) ?_
    refine lv_i2l hx hb dX4_fits_11 rfl ?_
    refine lv_lconst (v := 0) hx hb dX4_fits_12 (by decide) ?_
    refine lv_ldc2 hx hb S.2.2.2.1 (S.2.2.2.2 _ (List.mem_of_getElem? (i := 1) rfl)) dX4_fits_13 ?_
    refine call0i (va_runS (As := [.long p2.toInt64, .long 0, .long 2]) (rest := []) S (c_X4_in l p2.toInt64 0 2) (va_cwS 3 S.2.2.2.2 gX4_fits_X4_in rfl rfl rfl hd_X4_in ⟨Nat.le_of_ble_eq_true rfl, Nat.le_of_ble_eq_true rfl⟩) pre0S rfl rfl hl.1 rfl (lv_room (Nat.le_of_ble_eq_true rfl)) dX4_fits_16 ⟨Nat.zero_le _, Nat.zero_le _⟩) ?_
    refine lv_if_ne (tgt := 25) hx hb dX4_fits_19 (by decide) (fun c19 => ?_) (fun c19 => ?_)
    · have t19 := bf_in_n c19
      rw [if_neg c19] at hG
      refine lv_iconst (v := 0) hx hb dX4_fits_25 (by decide) ?_
      refine lv_istore_n (lv' := [(3, .int 0), (0, .ref (ad 0)), (1, .int p1), (2, .int p2)]) hx hb dX4_fits_26 rfl hl (by decide) rfl (fun ls hl => ?_)
      refine lv_bipush (v := (-9)) hx hb dX4_fits_27 (by decide) ?_
      refine lv_istore (lv' := [(4, .int (-9)), (3, .int 0), (0, .ref (ad 0)), (1, .int p1), (2, .int p2)]) hx hb dX4_fits_29 hl (by decide) rfl (fun ls hl => ?_)
      refine lv_iconst (v := 0) hx hb dX4_fits_31 (by decide) ?_
      refine lv_istore (lv' := [(5, .int 0), (4, .int (-9)), (3, .int 0), (0, .ref (ad 0)), (1, .int p1), (2, .int p2)]) hx hb dX4_fits_32 hl (by decide) rfl (fun ls hl => ?_)
      refine lv_iconst (v := 0) hx hb dX4_fits_34 (by decide) ?_
      refine lv_istore (lv' := [(6, .int 0), (5, .int 0), (4, .int (-9)), (3, .int 0), (0, .ref (ad 0)), (1, .int p1), (2, .int p2)]) hx hb dX4_fits_35 hl (by decide) rfl (fun ls hl => ?_)
      have L37 : ∀ (n : Nat) (res37 : Int32 × Int32 × Int32), ∀ (v3_37 : Int32), ∀ (v4_37 : Int32), ∀ (v5_37 : Int32), ∀ (v6_37 : Int32), ((0 ≤ v6_37.toInt ∧ v6_37.toInt ≤ 8)) → (8 - v6_37.toInt).toNat < n → (lp_X4_fits_37 σ p1 p2 n v3_37 v4_37 v5_37 v6_37) = res37 → (∀ (v3_37e : Int32), ∀ (v4_37e : Int32), ∀ (v5_37e : Int32), res37 = (v3_37e, v4_37e, v5_37e) → ∀ ls : Array Slot, lv_has ls 9 [(0, .ref (ad 0)), (2, .int p2), (3, .int v3_37e), (4, .int v4_37e), (5, .int v5_37e)] → W p l e (headSpec wsX4_fits ({ frames := 3, cells := 0, slots := 0, locals := 80 })).room s m ([.ref (ad 0), .int p1, .int p2] : List Value).toArray below meth c s.heap [] 0 0 (MQ below (Q0i T) ([.ref (ad 0), .int p1, .int p2] : List Value).toArray s 0 0 N0) (F0 m 131 ls [])) → ∀ ls : Array Slot, lv_has ls 9 [(0, .ref (ad 0)), (1, .int p1), (2, .int p2), (3, .int v3_37), (4, .int v4_37), (5, .int v5_37), (6, .int v6_37)] → W p l e (headSpec wsX4_fits ({ frames := 3, cells := 0, slots := 0, locals := 80 })).room s m ([.ref (ad 0), .int p1, .int p2] : List Value).toArray below meth c s.heap [] 0 0 (MQ below (Q0i T) ([.ref (ad 0), .int p1, .int p2] : List Value).toArray s 0 0 N0) (F0 m 37 ls []) := by
        intro n
        induction n with
        | zero => intro _ _ _ _ _ _ hm; exact absurd hm (Nat.not_lt_zero _)
        | succ n ih37 =>
          intro res37 v3_37 v4_37 v5_37 v6_37 hI37 hm37 hG hex37 ls hl
          have i37_0 := hI37
          rw [lp_X4_fits_37] at hG
          refine lv_iload hx hb dX4_fits_37 (lv_at hl 6 rfl) ?_
          refine lv_aload_n hx hb dX4_fits_39 rfl (lv_at hl 0 rfl) ?_
          refine r_get (C := RX4) (T := TX4) (N := 25) S hK w (k := 0) (by decide) (eM_0 ad _) rfl hinX4 1 (by decide) (List.mem_of_getElem? (i := 2) rfl) rfl dX4_fits_40 ?_
          refine lv_icmp_ge (tgt := 131) hx hb dX4_fits_43 (by decide) (fun c43 => ?_) (fun c43 => ?_)
          · have t43 : (σ 0 1).toInt ≤ v6_37.toInt := qt_le c43
            rw [if_pos c43] at hG
            exact hex37 v3_37 v4_37 v5_37 hG.symm ls (lv_sub hl [0, 2, 3, 4, 5] rfl)
          · have t43 : v6_37.toInt < (σ 0 1).toInt := qt_nle c43
            rw [if_neg c43] at hG
            refine lv_iload hx hb dX4_fits_46 (lv_at hl 6 rfl) ?_
            refine lv_iconst (v := 1) hx hb dX4_fits_48 (by decide) ?_
            refine lv_iadd hx hb dX4_fits_49 ?_
            refine lv_istore (lv' := [(7, .int (v6_37 + 1)), (0, .ref (ad 0)), (1, .int p1), (2, .int p2), (3, .int v3_37), (4, .int v4_37), (5, .int v5_37), (6, .int v6_37)]) hx hb dX4_fits_50 hl (by decide) rfl (fun ls hl => ?_)
            have L52 : ∀ (n : Nat) (res52 : Int32 × Int32 × Int32), ∀ (v3_52 : Int32), ∀ (v4_52 : Int32), ∀ (v5_52 : Int32), ∀ (v7_52 : Int32), ((0 ≤ v7_52.toInt ∧ v7_52.toInt ≤ 8)) → (8 - v7_52.toInt).toNat < n → (lp_X4_fits_52 σ p1 p2 v6_37 n v3_52 v4_52 v5_52 v7_52) = res52 → (∀ (v3_52e : Int32), ∀ (v4_52e : Int32), ∀ (v5_52e : Int32), res52 = (v3_52e, v4_52e, v5_52e) → ∀ ls : Array Slot, lv_has ls 9 [(0, .ref (ad 0)), (1, .int p1), (2, .int p2), (3, .int v3_52e), (4, .int v4_52e), (5, .int v5_52e), (6, .int v6_37)] → W p l e (headSpec wsX4_fits ({ frames := 3, cells := 0, slots := 0, locals := 80 })).room s m ([.ref (ad 0), .int p1, .int p2] : List Value).toArray below meth c s.heap [] 0 0 (MQ below (Q0i T) ([.ref (ad 0), .int p1, .int p2] : List Value).toArray s 0 0 N0) (F0 m 125 ls [])) → ∀ ls : Array Slot, lv_has ls 9 [(0, .ref (ad 0)), (1, .int p1), (2, .int p2), (3, .int v3_52), (4, .int v4_52), (5, .int v5_52), (6, .int v6_37), (7, .int v7_52)] → W p l e (headSpec wsX4_fits ({ frames := 3, cells := 0, slots := 0, locals := 80 })).room s m ([.ref (ad 0), .int p1, .int p2] : List Value).toArray below meth c s.heap [] 0 0 (MQ below (Q0i T) ([.ref (ad 0), .int p1, .int p2] : List Value).toArray s 0 0 N0) (F0 m 52 ls []) := by
              intro n
              induction n with
              | zero => intro _ _ _ _ _ _ hm; exact absurd hm (Nat.not_lt_zero _)
              | succ n ih52 =>
                intro res52 v3_52 v4_52 v5_52 v7_52 hI52 hm52 hG hex52 ls hl
                have i52_0 := hI52
                rw [lp_X4_fits_52] at hG
                refine lv_iload hx hb dX4_fits_52 (lv_at hl 7 rfl) ?_
                refine lv_aload_n hx hb dX4_fits_54 rfl (lv_at hl 0 rfl) ?_
                refine r_get (C := RX4) (T := TX4) (N := 25) S hK w (k := 0) (by decide) (eM_0 ad _) rfl hinX4 1 (by decide) (List.mem_of_getElem? (i := 2) rfl) rfl dX4_fits_55 ?_
                refine lv_icmp_ge (tgt := 125) hx hb dX4_fits_58 (by decide) (fun c58 => ?_) (fun c58 => ?_)
                · have t58 : (σ 0 1).toInt ≤ v7_52.toInt := qt_le c58
                  rw [if_pos c58] at hG
                  exact hex52 v3_52 v4_52 v5_52 hG.symm ls (lv_sub hl [0, 1, 2, 3, 4, 5, 6] rfl)
                · have t58 : v7_52.toInt < (σ 0 1).toInt := qt_nle c58
                  rw [if_neg c58] at hG
                  refine lv_aload_n hx hb dX4_fits_61 rfl (lv_at hl 0 rfl) ?_
                  refine lv_iload_n hx hb dX4_fits_62 rfl (lv_at hl 1 rfl) ?_
                  refine lv_iload hx hb dX4_fits_63 (lv_at hl 6 rfl) ?_
                  refine lv_iload hx hb dX4_fits_65 (lv_at hl 7 rfl) ?_
                  refine lv_aload_n hx hb dX4_fits_67 rfl (lv_at hl 0 rfl) ?_
                  refine r_get (C := RX4) (T := TX4) (N := 25) S hK w (k := 0) (by decide) (eM_0 ad _) rfl hinX4 2 (by decide) (List.mem_of_getElem? (i := 3) rfl) rfl dX4_fits_68 ?_
                  refine call0i (va_runV (As := [.int p1, .int v6_37, .int v7_52, .int (σ 0 2)]) (rest := []) S (c_X4_farIn l ad D s.heap.size σ p1 v6_37 v7_52 (σ 0 2) hok (by omega) (by omega) (by omega) (by omega) (by omega)) (cwV 4 S.2.2.2.2 gX4_fits_X4_farIn rfl rfl rfl ⟨rfl, hd_X4_farIn⟩ ⟨Nat.le_of_ble_eq_true rfl, Nat.le_of_ble_eq_true rfl⟩) (preV hK hN w (k := 0) (by decide) (eM_0 ad _) (q := (RX4, TX4, 25)) rfl) rfl rfl hl.1 rfl (lv_room (Nat.le_of_ble_eq_true rfl)) dX4_fits_71 ⟨Nat.zero_le _, Nat.zero_le _⟩) ?_
                  refine lv_istore (lv' := [(8, .int (f_X4_farIn σ p1 v6_37 v7_52 (σ 0 2))), (0, .ref (ad 0)), (1, .int p1), (2, .int p2), (3, .int v3_52), (4, .int v4_52), (5, .int v5_52), (6, .int v6_37), (7, .int v7_52)]) hx hb dX4_fits_74 hl (by decide) rfl (fun ls hl => ?_)
                  refine lv_iload_n hx hb dX4_fits_76 rfl (lv_at hl 4 rfl) ?_
                  refine lv_iload hx hb dX4_fits_77 (lv_at hl 0 rfl) ?_
                  refine lv_aload_n hx hb dX4_fits_79 rfl (lv_at hl 1 rfl) ?_
                  refine r_get (C := RX4) (T := TX4) (N := 25) S hK w (k := 0) (by decide) (eM_0 ad _) rfl hinX4 3 (by decide) (List.mem_of_getElem? (i := 4) rfl) rfl dX4_fits_80 ?_
                  have J83_91 : ∀ (k1_83_91 : Int32), (if v4_52 < 0 then (lp_X4_fits_52 σ p1 p2 v6_37 n (v3_52 + k1_83_91) ((10 * v6_37) + v7_52) (f_X4_farIn σ p1 v6_37 v7_52 (σ 0 2)) (v7_52 + 1)) else (if v5_52 ≤ (f_X4_farIn σ p1 v6_37 v7_52 (σ 0 2)) then (lp_X4_fits_52 σ p1 p2 v6_37 n (v3_52 + k1_83_91) v4_52 v5_52 (v7_52 + 1)) else (lp_X4_fits_52 σ p1 p2 v6_37 n (v3_52 + k1_83_91) ((10 * v6_37) + v7_52) (f_X4_farIn σ p1 v6_37 v7_52 (σ 0 2)) (v7_52 + 1)))) = res52 → ∀ ls : Array Slot, lv_has ls 9 [(0, .ref (ad 0)), (1, .int p1), (2, .int p2), (4, .int v4_52), (5, .int v5_52), (6, .int v6_37), (7, .int v7_52), (8, .int (f_X4_farIn σ p1 v6_37 v7_52 (σ 0 2)))] → W p l e (headSpec wsX4_fits ({ frames := 3, cells := 0, slots := 0, locals := 80 })).room s m ([.ref (ad 0), .int p1, .int p2] : List Value).toArray below meth c s.heap [] 0 0 (MQ below (Q0i T) ([.ref (ad 0), .int p1, .int p2] : List Value).toArray s 0 0 N0) (F0 m 91 ls [.int k1_83_91, .int v3_52]) := by
                    intro k1_83_91 hG ls hl
                    refine lv_iadd hx hb dX4_fits_91 ?_
                    refine lv_istore_n (lv' := [(3, .int (v3_52 + k1_83_91)), (0, .ref (ad 0)), (1, .int p1), (2, .int p2), (4, .int v4_52), (5, .int v5_52), (6, .int v6_37), (7, .int v7_52), (8, .int (f_X4_farIn σ p1 v6_37 v7_52 (σ 0 2)))]) hx hb dX4_fits_92 rfl hl (by decide) rfl (fun ls hl => ?_)
                    refine lv_iload hx hb dX4_fits_93 (lv_at hl 4 rfl) ?_
                    refine lv_if_lt (tgt := 105) hx hb dX4_fits_95 (by decide) (fun c95 => ?_) (fun c95 => ?_)
                    · have t95 : v4_52.toInt < 0 := qt_lt c95
                      rw [if_pos c95] at hG
                      refine lv_bipush (v := 10) hx hb dX4_fits_105 (by decide) ?_
                      refine lv_iload hx hb dX4_fits_107 (lv_at hl 6 rfl) ?_
                      refine lv_imul hx hb dX4_fits_109 ?_
                      refine lv_iload hx hb dX4_fits_110 (lv_at hl 7 rfl) ?_
                      refine lv_iadd hx hb dX4_fits_112 ?_
                      refine lv_istore (lv' := [(4, .int ((10 * v6_37) + v7_52)), (3, .int (v3_52 + k1_83_91)), (0, .ref (ad 0)), (1, .int p1), (2, .int p2), (5, .int v5_52), (6, .int v6_37), (7, .int v7_52), (8, .int (f_X4_farIn σ p1 v6_37 v7_52 (σ 0 2)))]) hx hb dX4_fits_113 hl (by decide) rfl (fun ls hl => ?_)
                      refine lv_iload hx hb dX4_fits_115 (lv_at hl 8 rfl) ?_
                      refine lv_istore (lv' := [(5, .int (f_X4_farIn σ p1 v6_37 v7_52 (σ 0 2))), (4, .int ((10 * v6_37) + v7_52)), (3, .int (v3_52 + k1_83_91)), (0, .ref (ad 0)), (1, .int p1), (2, .int p2), (6, .int v6_37), (7, .int v7_52), (8, .int (f_X4_farIn σ p1 v6_37 v7_52 (σ 0 2)))]) hx hb dX4_fits_117 hl (by decide) rfl (fun ls hl => ?_)
                      refine lv_iinc (v := (v7_52 + 1)) (lv' := [(7, .int (v7_52 + 1)), (5, .int (f_X4_farIn σ p1 v6_37 v7_52 (σ 0 2))), (4, .int ((10 * v6_37) + v7_52)), (3, .int (v3_52 + k1_83_91)), (0, .ref (ad 0)), (1, .int p1), (2, .int p2), (6, .int v6_37), (8, .int (f_X4_farIn σ p1 v6_37 v7_52 (σ 0 2)))]) hx hb dX4_fits_119 hl (k := 7) rfl rfl (by decide) rfl (fun ls hl => ?_)
                      refine lv_goto (tgt := 52) hx hb dX4_fits_122 (by decide) ?_
                      have b7_52 : (v7_52 + 1).toInt = v7_52.toInt + 1 := inc_toInt (by omega) (by omega)
                      exact ih52 _ (v3_52 + k1_83_91) ((10 * v6_37) + v7_52) (f_X4_farIn σ p1 v6_37 v7_52 (σ 0 2)) (v7_52 + 1) (by omega) (by omega) hG hex52 ls (lv_sub hl [4, 5, 6, 3, 2, 1, 7, 0] rfl)
                    · have t95 : 0 ≤ v4_52.toInt := qt_nlt c95
                      rw [if_neg c95] at hG
                      refine lv_iload hx hb dX4_fits_98 (lv_at hl 8 rfl) ?_
                      refine lv_iload hx hb dX4_fits_100 (lv_at hl 5 rfl) ?_
                      refine lv_icmp_ge (tgt := 119) hx hb dX4_fits_102 (by decide) (fun c102 => ?_) (fun c102 => ?_)
                      · have t102 : v5_52.toInt ≤ (f_X4_farIn σ p1 v6_37 v7_52 (σ 0 2)).toInt := qt_le c102
                        rw [if_pos c102] at hG
                        refine lv_iinc (v := (v7_52 + 1)) (lv' := [(7, .int (v7_52 + 1)), (3, .int (v3_52 + k1_83_91)), (0, .ref (ad 0)), (1, .int p1), (2, .int p2), (4, .int v4_52), (5, .int v5_52), (6, .int v6_37), (8, .int (f_X4_farIn σ p1 v6_37 v7_52 (σ 0 2)))]) hx hb dX4_fits_119 hl (k := 7) rfl rfl (by decide) rfl (fun ls hl => ?_)
                        refine lv_goto (tgt := 52) hx hb dX4_fits_122 (by decide) ?_
                        have b7_52 : (v7_52 + 1).toInt = v7_52.toInt + 1 := inc_toInt (by omega) (by omega)
                        exact ih52 _ (v3_52 + k1_83_91) v4_52 v5_52 (v7_52 + 1) (by omega) (by omega) hG hex52 ls (lv_sub hl [2, 3, 4, 1, 5, 6, 7, 0] rfl)
                      · have t102 : (f_X4_farIn σ p1 v6_37 v7_52 (σ 0 2)).toInt < v5_52.toInt := qt_nle c102
                        rw [if_neg c102] at hG
                        refine lv_bipush (v := 10) hx hb dX4_fits_105 (by decide) ?_
                        refine lv_iload hx hb dX4_fits_107 (lv_at hl 6 rfl) ?_
                        refine lv_imul hx hb dX4_fits_109 ?_
                        refine lv_iload hx hb dX4_fits_110 (lv_at hl 7 rfl) ?_
                        refine lv_iadd hx hb dX4_fits_112 ?_
                        refine lv_istore (lv' := [(4, .int ((10 * v6_37) + v7_52)), (3, .int (v3_52 + k1_83_91)), (0, .ref (ad 0)), (1, .int p1), (2, .int p2), (5, .int v5_52), (6, .int v6_37), (7, .int v7_52), (8, .int (f_X4_farIn σ p1 v6_37 v7_52 (σ 0 2)))]) hx hb dX4_fits_113 hl (by decide) rfl (fun ls hl => ?_)
                        refine lv_iload hx hb dX4_fits_115 (lv_at hl 8 rfl) ?_
                        refine lv_istore (lv' := [(5, .int (f_X4_farIn σ p1 v6_37 v7_52 (σ 0 2))), (4, .int ((10 * v6_37) + v7_52)), (3, .int (v3_52 + k1_83_91)), (0, .ref (ad 0)), (1, .int p1), (2, .int p2), (6, .int v6_37), (7, .int v7_52), (8, .int (f_X4_farIn σ p1 v6_37 v7_52 (σ 0 2)))]) hx hb dX4_fits_117 hl (by decide) rfl (fun ls hl => ?_)
                        refine lv_iinc (v := (v7_52 + 1)) (lv' := [(7, .int (v7_52 + 1)), (5, .int (f_X4_farIn σ p1 v6_37 v7_52 (σ 0 2))), (4, .int ((10 * v6_37) + v7_52)), (3, .int (v3_52 + k1_83_91)), (0, .ref (ad 0)), (1, .int p1), (2, .int p2), (6, .int v6_37), (8, .int (f_X4_farIn σ p1 v6_37 v7_52 (σ 0 2)))]) hx hb dX4_fits_119 hl (k := 7) rfl rfl (by decide) rfl (fun ls hl => ?_)
                        refine lv_goto (tgt := 52) hx hb dX4_fits_122 (by decide) ?_
                        have b7_52 : (v7_52 + 1).toInt = v7_52.toInt + 1 := inc_toInt (by omega) (by omega)
                        exact ih52 _ (v3_52 + k1_83_91) ((10 * v6_37) + v7_52) (f_X4_farIn σ p1 v6_37 v7_52 (σ 0 2)) (v7_52 + 1) (by omega) (by omega) hG hex52 ls (lv_sub hl [4, 5, 6, 3, 2, 1, 7, 0] rfl)
                  refine lv_icmp_gt (tgt := 90) hx hb dX4_fits_83 (by decide) (fun c83 => ?_) (fun c83 => ?_)
                  · have t83 : (σ 0 3).toInt < (f_X4_farIn σ p1 v6_37 v7_52 (σ 0 2)).toInt := qt_lt c83
                    simp only [if_pos c83] at hG
                    refine lv_iconst (v := 0) hx hb dX4_fits_90 (by decide) ?_
                    exact J83_91 0 hG ls (lv_sub hl [1, 2, 3, 5, 6, 7, 8, 0] rfl)
                  · have t83 : (f_X4_farIn σ p1 v6_37 v7_52 (σ 0 2)).toInt ≤ (σ 0 3).toInt := qt_nlt c83
                    simp only [if_neg c83] at hG
                    refine lv_iconst (v := 1) hx hb dX4_fits_86 (by decide) ?_
                    refine lv_goto (tgt := 91) hx hb dX4_fits_87 (by decide) ?_
                    exact J83_91 1 hG ls (lv_sub hl [1, 2, 3, 5, 6, 7, 8, 0] rfl)
            have e52 := inc_toInt (a := v6_37) (by omega) (by omega)
            refine L52 200 _ v3_37 v4_37 v5_37 (v6_37 + 1) (by omega) (by omega) rfl (fun v3_52e v4_52e v5_52e hr52 ls hl => ?_) ls (lv_sub hl [1, 2, 3, 4, 5, 6, 7, 0] rfl)
            rw [hr52] at hG
            dsimp only at hG
            refine lv_iinc (v := (v6_37 + 1)) (lv' := [(6, .int (v6_37 + 1)), (0, .ref (ad 0)), (1, .int p1), (2, .int p2), (3, .int v3_52e), (4, .int v4_52e), (5, .int v5_52e)]) hx hb dX4_fits_125 hl (k := 6) rfl rfl (by decide) rfl (fun ls hl => ?_)
            refine lv_goto (tgt := 37) hx hb dX4_fits_128 (by decide) ?_
            have b6_37 : (v6_37 + 1).toInt = v6_37.toInt + 1 := inc_toInt (by omega) (by omega)
            exact ih37 _ v3_52e v4_52e v5_52e (v6_37 + 1) (by omega) (by omega) hG hex37 ls (lv_sub hl [1, 2, 3, 4, 5, 6, 0] rfl)
      refine L37 200 _ 0 (-9) 0 0 (by omega) (by omega) rfl (fun v3_37e v4_37e v5_37e hr37 ls hl => ?_) ls (lv_sub hl [4, 5, 6, 3, 2, 1, 0] rfl)
      rw [hr37] at hG
      dsimp only at hG
      refine lv_iload_n hx hb dX4_fits_131 rfl (lv_at hl 1 rfl) ?_
      refine lv_if_ne (tgt := 139) hx hb dX4_fits_132 (by decide) (fun c132 => ?_) (fun c132 => ?_)
      · have t132 : p2.toInt ≠ 0 := qt_ne c132
        rw [if_neg c132] at hG
        refine lv_iload_n hx hb dX4_fits_139 rfl (lv_at hl 1 rfl) ?_
        refine lv_iconst (v := 1) hx hb dX4_fits_140 (by decide) ?_
        refine lv_icmp_ne (tgt := 149) hx hb dX4_fits_141 (by decide) (fun c141 => ?_) (fun c141 => ?_)
        · have t141 : p2.toInt ≠ 1 := qt_ne c141
          rw [if_neg c141] at hG
          refine lv_iload hx hb dX4_fits_149 (lv_at hl 4 rfl) ?_
          exact end0i S hr hlocks hG dX4_fits_151
        · have t141 : p2.toInt = 1 := qt_eq c141
          rw [if_pos c141] at hG
          refine lv_iload hx hb dX4_fits_144 (lv_at hl 3 rfl) ?_
          refine lv_goto (tgt := 151) hx hb dX4_fits_146 (by decide) ?_
          exact end0i S hr hlocks hG dX4_fits_151
      · have t132 : p2.toInt = 0 := qt_eq c132
        rw [if_pos c132] at hG
        refine lv_iload_n hx hb dX4_fits_135 rfl (lv_at hl 2 rfl) ?_
        refine lv_goto (tgt := 151) hx hb dX4_fits_136 (by decide) ?_
        exact end0i S hr hlocks hG dX4_fits_151
    · rw [if_pos c19] at hG
      refine lv_bipush (v := (-2)) hx hb dX4_fits_22 (by decide) ?_
      exact end0i S hr hlocks hG dX4_fits_24
  · rw [if_neg c5] at hG
    refine lv_iconst (v := (-1)) hx hb dX4_fits_8 (by decide) ?_
    exact end0i S hr hlocks hG dX4_fits_9
set_option maxHeartbeats 4000000 in
set_option maxRecDepth 100000 in
theorem c_X4_isProved (l : Launch) (ad : Nat → Nat) (D : va_G) (sz : Nat) (σ : St) (p1 : Int32) (p2 : Int32) (hok : OkM σ) (hx0 : 0 ≤ p1.toInt ∧ p1.toInt < 8) (hyr : 0 ≤ p2.toInt ∧ p2.toInt ≤ 99) (hsg : (σ 0 1).toInt ≠ 0) : Met l yX4_isProved wsX4_isProved ({ frames := 3, cells := 0, slots := 0, locals := 80 }) (PreW 18 (eM ad) ad D (tyM ad) σ sz ([.ref (ad 0), .int p1, .int p2] : List Value)) (Q0i (f_X4_isProved σ p1 p2)) 0 0 N0 := by
  generalize hG : f_X4_isProved σ p1 p2 = T
  refine headW (cc := cX4_isProved) (maxL := 9) (ret := (some .boolean)) ([.ref (ad 0), .int p1, .int p2] : List Value) (by decide) rfl (Nat.le_of_ble_eq_true rfl) ?_
  intro p e s m below meth c S hr hlocks hK hN hsz w ls hl
  have S : CallFix p m c cX4_isProved 9 s ([.ref (ad 0), .int p1, .int p2] : List Value).toArray wsX4_isProved RX4 := S
  have hx := S.1
  have hb := S.2.1
  have z0 : (0 : Int32).toInt = 0 := by decide
  have z1 : (1 : Int32).toInt = 1 := by decide
  have hl : lv_has ls 9 [(0, .ref (ad 0)), (1, .int p1), (2, .int p2)] := hl
  have hinX4 : ∀ w ∈ wsX40, w ∈ wsX4_isProved := (fun _ h => List.mem_cons_of_mem _ (List.mem_append_right _ h))
  have okf0 := hok.1
  have okf1 := hok.2.1
  have okf2 := hok.2.2.1
  have okf3 := hok.2.2.2.1
  have okf4 := hok.2.2.2.2.1
  have okf6 := hok.2.2.2.2.2.1
  have okf7 := hok.2.2.2.2.2.2.1
  have okf8 := hok.2.2.2.2.2.2.2
  rw [f_X4_isProved] at hG
  have f0 := vp_in_iff.mp (okf4 (ix p1) (vpl (vpi (by omega) (by omega)))).1
  have f1 := vp_in_iff.mp (okf4 (ix p1) (vpl (vpi (by omega) (by omega)))).2
  refine lv_aload_n hx hb dX4_isProved_0 rfl (lv_at hl 0 rfl) ?_
  refine r_get (C := RX4) (T := TX4) (N := 25) S hK w (k := 0) (by decide) (eM_0 ad _) rfl hinX4 12 (by decide) (List.mem_of_getElem? (i := 1) rfl) rfl dX4_isProved_1 ?_
  refine lv_iload_n hx hb dX4_isProved_4 rfl (lv_at hl 1 rfl) ?_
  have g5 : vp_in p1 8 := vpi (by omega) (by omega)
  refine r_iald (cA := ad 100) (N := 8) S hK w (k := 6) (by decide) (fun f => rfl) rfl g5 dX4_isProved_5 ?_
  refine lv_aload_n hx hb dX4_isProved_6 rfl (lv_at hl 0 rfl) ?_
  refine r_get (C := RX4) (T := TX4) (N := 25) S hK w (k := 0) (by decide) (eM_0 ad _) rfl hinX4 13 (by decide) (List.mem_of_getElem? (i := 2) rfl) rfl dX4_isProved_7 ?_
  refine lv_iload_n hx hb dX4_isProved_10 rfl (lv_at hl 1 rfl) ?_
  have g11 : vp_in p1 8 := vpi (by omega) (by omega)
  refine r_iald (cA := ad 100) (N := 8) S hK w (k := 7) (by decide) (fun f => rfl) rfl g11 dX4_isProved_11 ?_
  have J12_30 : ∀ (k0_12_30 : Int32), (0 ≤ k0_12_30.toInt ∧ k0_12_30.toInt < 8) → (lp_X4_isProved_78 σ p1 p2 k0_12_30 (f_X4_greater (σ 6 (ix p1)) (σ 7 (ix p1))) (f_X4_farIn σ p1 k0_12_30 (f_X4_greater (σ 6 (ix p1)) (σ 7 (ix p1))) p2) 200 (if (σ 0 3) < (f_X4_farIn σ p1 k0_12_30 (f_X4_greater (σ 6 (ix p1)) (σ 7 (ix p1))) p2) then 0 else 1) 0) = T → ∀ ls : Array Slot, lv_has ls 9 [(0, .ref (ad 0)), (1, .int p1), (2, .int p2)] → W p l e (headSpec wsX4_isProved ({ frames := 3, cells := 0, slots := 0, locals := 80 })).room s m ([.ref (ad 0), .int p1, .int p2] : List Value).toArray below meth c s.heap [] 0 0 (MQ below (Q0i T) ([.ref (ad 0), .int p1, .int p2] : List Value).toArray s 0 0 N0) (F0 m 30 ls [.int k0_12_30]) := by
    intro k0_12_30 jq30_0 hG ls hl
    refine lv_istore_n (lv' := [(3, .int k0_12_30), (0, .ref (ad 0)), (1, .int p1), (2, .int p2)]) hx hb dX4_isProved_30 rfl hl (by decide) rfl (fun ls hl => ?_)
    refine lv_aload_n hx hb dX4_isProved_31 rfl (lv_at hl 1 rfl) ?_
    refine r_get (C := RX4) (T := TX4) (N := 25) S hK w (k := 0) (by decide) (eM_0 ad _) rfl hinX4 12 (by decide) (List.mem_of_getElem? (i := 1) rfl) rfl dX4_isProved_32 ?_
    refine lv_iload_n hx hb dX4_isProved_35 rfl (lv_at hl 2 rfl) ?_
    have g36 : vp_in p1 8 := vpi (by omega) (by omega)
    refine r_iald (cA := ad 100) (N := 8) S hK w (k := 6) (by decide) (fun f => rfl) rfl g36 dX4_isProved_36 ?_
    refine lv_aload_n hx hb dX4_isProved_37 rfl (lv_at hl 1 rfl) ?_
    refine r_get (C := RX4) (T := TX4) (N := 25) S hK w (k := 0) (by decide) (eM_0 ad _) rfl hinX4 13 (by decide) (List.mem_of_getElem? (i := 2) rfl) rfl dX4_isProved_38 ?_
    refine lv_iload_n hx hb dX4_isProved_41 rfl (lv_at hl 2 rfl) ?_
    have g42 : vp_in p1 8 := vpi (by omega) (by omega)
    refine r_iald (cA := ad 100) (N := 8) S hK w (k := 7) (by decide) (fun f => rfl) rfl g42 dX4_isProved_42 ?_
    refine call0i (va_runS (As := [.int (σ 6 (ix p1)), .int (σ 7 (ix p1))]) (rest := []) S (c_X4_greater l (σ 6 (ix p1)) (σ 7 (ix p1))) (va_cwS 2 S.2.2.2.2 gX4_isProved_X4_greater rfl rfl rfl hd_X4_greater ⟨Nat.le_of_ble_eq_true rfl, Nat.le_of_ble_eq_true rfl⟩) pre0S rfl rfl hl.1 rfl (lv_room (Nat.le_of_ble_eq_true rfl)) dX4_isProved_43 ⟨Nat.zero_le _, Nat.zero_le _⟩) ?_
    refine lv_istore (lv' := [(4, .int (f_X4_greater (σ 6 (ix p1)) (σ 7 (ix p1)))), (3, .int k0_12_30), (0, .ref (ad 0)), (1, .int p1), (2, .int p2)]) hx hb dX4_isProved_46 hl (by decide) rfl (fun ls hl => ?_)
    refine lv_aload_n hx hb dX4_isProved_48 rfl (lv_at hl 2 rfl) ?_
    refine lv_iload_n hx hb dX4_isProved_49 rfl (lv_at hl 3 rfl) ?_
    refine lv_iload_n hx hb dX4_isProved_50 rfl (lv_at hl 1 rfl) ?_
    refine lv_iload hx hb dX4_isProved_51 (lv_at hl 0 rfl) ?_
    refine lv_iload_n hx hb dX4_isProved_53 rfl (lv_at hl 4 rfl) ?_
    refine call0i (va_runV (As := [.int p1, .int k0_12_30, .int (f_X4_greater (σ 6 (ix p1)) (σ 7 (ix p1))), .int p2]) (rest := []) S (c_X4_farIn l ad D s.heap.size σ p1 k0_12_30 (f_X4_greater (σ 6 (ix p1)) (σ 7 (ix p1))) p2 hok (by omega) (by omega) (gr_in f0 f1) (by omega) (by omega)) (cwV 4 S.2.2.2.2 gX4_isProved_X4_farIn rfl rfl rfl ⟨rfl, hd_X4_farIn⟩ ⟨Nat.le_of_ble_eq_true rfl, Nat.le_of_ble_eq_true rfl⟩) (preV hK hN w (k := 0) (by decide) (eM_0 ad _) (q := (RX4, TX4, 25)) rfl) rfl rfl hl.1 rfl (lv_room (Nat.le_of_ble_eq_true rfl)) dX4_isProved_54 ⟨Nat.zero_le _, Nat.zero_le _⟩) ?_
    refine lv_istore (lv' := [(5, .int (f_X4_farIn σ p1 k0_12_30 (f_X4_greater (σ 6 (ix p1)) (σ 7 (ix p1))) p2)), (4, .int (f_X4_greater (σ 6 (ix p1)) (σ 7 (ix p1)))), (3, .int k0_12_30), (0, .ref (ad 0)), (1, .int p1), (2, .int p2)]) hx hb dX4_isProved_57 hl (by decide) rfl (fun ls hl => ?_)
    refine lv_iload hx hb dX4_isProved_59 (lv_at hl 0 rfl) ?_
    refine lv_aload_n hx hb dX4_isProved_61 rfl (lv_at hl 3 rfl) ?_
    refine r_get (C := RX4) (T := TX4) (N := 25) S hK w (k := 0) (by decide) (eM_0 ad _) rfl hinX4 3 (by decide) (List.mem_of_getElem? (i := 3) rfl) rfl dX4_isProved_62 ?_
    have J65_73 : ∀ (k0_65_73 : Int32), (k0_65_73 = 0 ∨ k0_65_73 = 1) → (lp_X4_isProved_78 σ p1 p2 k0_12_30 (f_X4_greater (σ 6 (ix p1)) (σ 7 (ix p1))) (f_X4_farIn σ p1 k0_12_30 (f_X4_greater (σ 6 (ix p1)) (σ 7 (ix p1))) p2) 200 k0_65_73 0) = T → ∀ ls : Array Slot, lv_has ls 9 [(0, .ref (ad 0)), (1, .int p1), (2, .int p2), (3, .int k0_12_30), (4, .int (f_X4_greater (σ 6 (ix p1)) (σ 7 (ix p1)))), (5, .int (f_X4_farIn σ p1 k0_12_30 (f_X4_greater (σ 6 (ix p1)) (σ 7 (ix p1))) p2))] → W p l e (headSpec wsX4_isProved ({ frames := 3, cells := 0, slots := 0, locals := 80 })).room s m ([.ref (ad 0), .int p1, .int p2] : List Value).toArray below meth c s.heap [] 0 0 (MQ below (Q0i T) ([.ref (ad 0), .int p1, .int p2] : List Value).toArray s 0 0 N0) (F0 m 73 ls [.int k0_65_73]) := by
      intro k0_65_73 jq73_0 hG ls hl
      refine lv_istore (lv' := [(6, .int k0_65_73), (0, .ref (ad 0)), (1, .int p1), (2, .int p2), (3, .int k0_12_30), (4, .int (f_X4_greater (σ 6 (ix p1)) (σ 7 (ix p1)))), (5, .int (f_X4_farIn σ p1 k0_12_30 (f_X4_greater (σ 6 (ix p1)) (σ 7 (ix p1))) p2))]) hx hb dX4_isProved_73 hl (by decide) rfl (fun ls hl => ?_)
      refine lv_iconst (v := 0) hx hb dX4_isProved_75 (by decide) ?_
      refine lv_istore (lv' := [(7, .int 0), (6, .int k0_65_73), (0, .ref (ad 0)), (1, .int p1), (2, .int p2), (3, .int k0_12_30), (4, .int (f_X4_greater (σ 6 (ix p1)) (σ 7 (ix p1)))), (5, .int (f_X4_farIn σ p1 k0_12_30 (f_X4_greater (σ 6 (ix p1)) (σ 7 (ix p1))) p2))]) hx hb dX4_isProved_76 hl (by decide) rfl (fun ls hl => ?_)
      have L78 : ∀ (n : Nat) (res78 : Int32), ∀ (v6_78 : Int32), ∀ (v7_78 : Int32), ((0 ≤ v7_78.toInt ∧ v7_78.toInt ≤ 8) ∧ (v6_78 = 0 ∨ v6_78 = 1)) → (8 - v7_78.toInt).toNat < n → (lp_X4_isProved_78 σ p1 p2 k0_12_30 (f_X4_greater (σ 6 (ix p1)) (σ 7 (ix p1))) (f_X4_farIn σ p1 k0_12_30 (f_X4_greater (σ 6 (ix p1)) (σ 7 (ix p1))) p2) n v6_78 v7_78) = res78 → (∀ (v6_78e : Int32), (v6_78e = 0 ∨ v6_78e = 1) → res78 = v6_78e → ∀ ls : Array Slot, lv_has ls 9 [(0, .ref (ad 0)), (6, .int v6_78e)] → W p l e (headSpec wsX4_isProved ({ frames := 3, cells := 0, slots := 0, locals := 80 })).room s m ([.ref (ad 0), .int p1, .int p2] : List Value).toArray below meth c s.heap [] 0 0 (MQ below (Q0i T) ([.ref (ad 0), .int p1, .int p2] : List Value).toArray s 0 0 N0) (F0 m 154 ls [])) → ∀ ls : Array Slot, lv_has ls 9 [(0, .ref (ad 0)), (1, .int p1), (2, .int p2), (3, .int k0_12_30), (4, .int (f_X4_greater (σ 6 (ix p1)) (σ 7 (ix p1)))), (5, .int (f_X4_farIn σ p1 k0_12_30 (f_X4_greater (σ 6 (ix p1)) (σ 7 (ix p1))) p2)), (6, .int v6_78), (7, .int v7_78)] → W p l e (headSpec wsX4_isProved ({ frames := 3, cells := 0, slots := 0, locals := 80 })).room s m ([.ref (ad 0), .int p1, .int p2] : List Value).toArray below meth c s.heap [] 0 0 (MQ below (Q0i T) ([.ref (ad 0), .int p1, .int p2] : List Value).toArray s 0 0 N0) (F0 m 78 ls []) := by
        intro n
        induction n with
        | zero => intro _ _ _ _ hm; exact absurd hm (Nat.not_lt_zero _)
        | succ n ih78 =>
          intro res78 v6_78 v7_78 hI78 hm78 hG hex78 ls hl
          obtain ⟨i78_0, i78_1⟩ := id hI78
          rw [lp_X4_isProved_78] at hG
          refine lv_iload hx hb dX4_isProved_78 (lv_at hl 7 rfl) ?_
          refine lv_aload_n hx hb dX4_isProved_80 rfl (lv_at hl 0 rfl) ?_
          refine r_get (C := RX4) (T := TX4) (N := 25) S hK w (k := 0) (by decide) (eM_0 ad _) rfl hinX4 1 (by decide) (List.mem_of_getElem? (i := 4) rfl) rfl dX4_isProved_81 ?_
          refine lv_icmp_ge (tgt := 154) hx hb dX4_isProved_84 (by decide) (fun c84 => ?_) (fun c84 => ?_)
          · have t84 : (σ 0 1).toInt ≤ v7_78.toInt := qt_le c84
            rw [if_pos c84] at hG
            exact hex78 v6_78 i78_1 hG.symm ls (lv_sub hl [0, 6] rfl)
          · have t84 : v7_78.toInt < (σ 0 1).toInt := qt_nle c84
            rw [if_neg c84] at hG
            refine lv_iload hx hb dX4_isProved_87 (lv_at hl 7 rfl) ?_
            refine lv_iconst (v := 1) hx hb dX4_isProved_89 (by decide) ?_
            refine lv_iadd hx hb dX4_isProved_90 ?_
            refine lv_istore (lv' := [(8, .int (v7_78 + 1)), (0, .ref (ad 0)), (1, .int p1), (2, .int p2), (3, .int k0_12_30), (4, .int (f_X4_greater (σ 6 (ix p1)) (σ 7 (ix p1)))), (5, .int (f_X4_farIn σ p1 k0_12_30 (f_X4_greater (σ 6 (ix p1)) (σ 7 (ix p1))) p2)), (6, .int v6_78), (7, .int v7_78)]) hx hb dX4_isProved_91 hl (by decide) rfl (fun ls hl => ?_)
            have L93 : ∀ (n : Nat) (res93 : Int32), ∀ (v6_93 : Int32), ∀ (v8_93 : Int32), ((0 ≤ v8_93.toInt ∧ v8_93.toInt ≤ 8) ∧ (v6_93 = 0 ∨ v6_93 = 1)) → (8 - v8_93.toInt).toNat < n → (lp_X4_isProved_93 σ p1 p2 k0_12_30 (f_X4_greater (σ 6 (ix p1)) (σ 7 (ix p1))) (f_X4_farIn σ p1 k0_12_30 (f_X4_greater (σ 6 (ix p1)) (σ 7 (ix p1))) p2) v7_78 n v6_93 v8_93) = res93 → (∀ (v6_93e : Int32), (v6_93e = 0 ∨ v6_93e = 1) → res93 = v6_93e → ∀ ls : Array Slot, lv_has ls 9 [(0, .ref (ad 0)), (1, .int p1), (2, .int p2), (3, .int k0_12_30), (4, .int (f_X4_greater (σ 6 (ix p1)) (σ 7 (ix p1)))), (5, .int (f_X4_farIn σ p1 k0_12_30 (f_X4_greater (σ 6 (ix p1)) (σ 7 (ix p1))) p2)), (6, .int v6_93e), (7, .int v7_78)] → W p l e (headSpec wsX4_isProved ({ frames := 3, cells := 0, slots := 0, locals := 80 })).room s m ([.ref (ad 0), .int p1, .int p2] : List Value).toArray below meth c s.heap [] 0 0 (MQ below (Q0i T) ([.ref (ad 0), .int p1, .int p2] : List Value).toArray s 0 0 N0) (F0 m 148 ls [])) → ∀ ls : Array Slot, lv_has ls 9 [(0, .ref (ad 0)), (1, .int p1), (2, .int p2), (3, .int k0_12_30), (4, .int (f_X4_greater (σ 6 (ix p1)) (σ 7 (ix p1)))), (5, .int (f_X4_farIn σ p1 k0_12_30 (f_X4_greater (σ 6 (ix p1)) (σ 7 (ix p1))) p2)), (6, .int v6_93), (7, .int v7_78), (8, .int v8_93)] → W p l e (headSpec wsX4_isProved ({ frames := 3, cells := 0, slots := 0, locals := 80 })).room s m ([.ref (ad 0), .int p1, .int p2] : List Value).toArray below meth c s.heap [] 0 0 (MQ below (Q0i T) ([.ref (ad 0), .int p1, .int p2] : List Value).toArray s 0 0 N0) (F0 m 93 ls []) := by
              intro n
              induction n with
              | zero => intro _ _ _ _ hm; exact absurd hm (Nat.not_lt_zero _)
              | succ n ih93 =>
                intro res93 v6_93 v8_93 hI93 hm93 hG hex93 ls hl
                obtain ⟨i93_0, i93_1⟩ := id hI93
                rw [lp_X4_isProved_93] at hG
                refine lv_iload hx hb dX4_isProved_93 (lv_at hl 8 rfl) ?_
                refine lv_aload_n hx hb dX4_isProved_95 rfl (lv_at hl 0 rfl) ?_
                refine r_get (C := RX4) (T := TX4) (N := 25) S hK w (k := 0) (by decide) (eM_0 ad _) rfl hinX4 1 (by decide) (List.mem_of_getElem? (i := 4) rfl) rfl dX4_isProved_96 ?_
                refine lv_icmp_ge (tgt := 148) hx hb dX4_isProved_99 (by decide) (fun c99 => ?_) (fun c99 => ?_)
                · have t99 : (σ 0 1).toInt ≤ v8_93.toInt := qt_le c99
                  rw [if_pos c99] at hG
                  exact hex93 v6_93 i93_1 hG.symm ls (lv_sub hl [0, 1, 2, 3, 4, 5, 6, 7] rfl)
                · have t99 : v8_93.toInt < (σ 0 1).toInt := qt_nle c99
                  rw [if_neg c99] at hG
                  refine lv_iload hx hb dX4_isProved_102 (lv_at hl 6 rfl) ?_
                  refine lv_if_eq (tgt := 139) hx hb dX4_isProved_104 (by decide) (fun c104 => ?_) (fun c104 => ?_)
                  · have t104 : v6_93.toInt = 0 := qt_eq c104
                    rw [if_pos c104] at hG
                    refine lv_iconst (v := 0) hx hb dX4_isProved_139 (by decide) ?_
                    refine lv_istore (lv' := [(6, .int 0), (0, .ref (ad 0)), (1, .int p1), (2, .int p2), (3, .int k0_12_30), (4, .int (f_X4_greater (σ 6 (ix p1)) (σ 7 (ix p1)))), (5, .int (f_X4_farIn σ p1 k0_12_30 (f_X4_greater (σ 6 (ix p1)) (σ 7 (ix p1))) p2)), (7, .int v7_78), (8, .int v8_93)]) hx hb dX4_isProved_140 hl (by decide) rfl (fun ls hl => ?_)
                    refine lv_iinc (v := (v8_93 + 1)) (lv' := [(8, .int (v8_93 + 1)), (6, .int 0), (0, .ref (ad 0)), (1, .int p1), (2, .int p2), (3, .int k0_12_30), (4, .int (f_X4_greater (σ 6 (ix p1)) (σ 7 (ix p1)))), (5, .int (f_X4_farIn σ p1 k0_12_30 (f_X4_greater (σ 6 (ix p1)) (σ 7 (ix p1))) p2)), (7, .int v7_78)]) hx hb dX4_isProved_142 hl (k := 8) rfl rfl (by decide) rfl (fun ls hl => ?_)
                    refine lv_goto (tgt := 93) hx hb dX4_isProved_145 (by decide) ?_
                    have b8_93 : (v8_93 + 1).toInt = v8_93.toInt + 1 := inc_toInt (by omega) (by omega)
                    exact ih93 _ 0 (v8_93 + 1) ⟨(by omega), (by first | exact Or.inl rfl | exact Or.inr rfl)⟩ (by omega) hG hex93 ls (lv_sub hl [2, 3, 4, 5, 6, 7, 1, 8, 0] rfl)
                  · have t104 : v6_93.toInt ≠ 0 := qt_ne c104
                    rw [if_neg c104] at hG
                    refine lv_iload hx hb dX4_isProved_107 (lv_at hl 7 rfl) ?_
                    refine lv_iload_n hx hb dX4_isProved_109 rfl (lv_at hl 3 rfl) ?_
                    refine lv_icmp_ne (tgt := 120) hx hb dX4_isProved_110 (by decide) (fun c110 => ?_) (fun c110 => ?_)
                    · have t110 : v7_78.toInt ≠ k0_12_30.toInt := qt_ne c110
                      rw [if_neg c110] at hG
                      refine lv_aload_n hx hb dX4_isProved_120 rfl (lv_at hl 0 rfl) ?_
                      refine lv_iload_n hx hb dX4_isProved_121 rfl (lv_at hl 1 rfl) ?_
                      refine lv_iload hx hb dX4_isProved_122 (lv_at hl 7 rfl) ?_
                      refine lv_iload hx hb dX4_isProved_124 (lv_at hl 8 rfl) ?_
                      refine lv_iload_n hx hb dX4_isProved_126 rfl (lv_at hl 2 rfl) ?_
                      refine call0i (va_runV (As := [.int p1, .int v7_78, .int v8_93, .int p2]) (rest := []) S (c_X4_farIn l ad D s.heap.size σ p1 v7_78 v8_93 p2 hok (by omega) (by omega) (by omega) (by omega) (by omega)) (cwV 4 S.2.2.2.2 gX4_isProved_X4_farIn rfl rfl rfl ⟨rfl, hd_X4_farIn⟩ ⟨Nat.le_of_ble_eq_true rfl, Nat.le_of_ble_eq_true rfl⟩) (preV hK hN w (k := 0) (by decide) (eM_0 ad _) (q := (RX4, TX4, 25)) rfl) rfl rfl hl.1 rfl (lv_room (Nat.le_of_ble_eq_true rfl)) dX4_isProved_127 ⟨Nat.zero_le _, Nat.zero_le _⟩) ?_
                      refine lv_iload hx hb dX4_isProved_130 (lv_at hl 5 rfl) ?_
                      refine lv_icmp_le (tgt := 139) hx hb dX4_isProved_132 (by decide) (fun c132 => ?_) (fun c132 => ?_)
                      · have t132 : (f_X4_farIn σ p1 v7_78 v8_93 p2).toInt ≤ (f_X4_farIn σ p1 k0_12_30 (f_X4_greater (σ 6 (ix p1)) (σ 7 (ix p1))) p2).toInt := qt_le c132
                        rw [if_pos c132] at hG
                        refine lv_iconst (v := 0) hx hb dX4_isProved_139 (by decide) ?_
                        refine lv_istore (lv' := [(6, .int 0), (0, .ref (ad 0)), (1, .int p1), (2, .int p2), (3, .int k0_12_30), (4, .int (f_X4_greater (σ 6 (ix p1)) (σ 7 (ix p1)))), (5, .int (f_X4_farIn σ p1 k0_12_30 (f_X4_greater (σ 6 (ix p1)) (σ 7 (ix p1))) p2)), (7, .int v7_78), (8, .int v8_93)]) hx hb dX4_isProved_140 hl (by decide) rfl (fun ls hl => ?_)
                        refine lv_iinc (v := (v8_93 + 1)) (lv' := [(8, .int (v8_93 + 1)), (6, .int 0), (0, .ref (ad 0)), (1, .int p1), (2, .int p2), (3, .int k0_12_30), (4, .int (f_X4_greater (σ 6 (ix p1)) (σ 7 (ix p1)))), (5, .int (f_X4_farIn σ p1 k0_12_30 (f_X4_greater (σ 6 (ix p1)) (σ 7 (ix p1))) p2)), (7, .int v7_78)]) hx hb dX4_isProved_142 hl (k := 8) rfl rfl (by decide) rfl (fun ls hl => ?_)
                        refine lv_goto (tgt := 93) hx hb dX4_isProved_145 (by decide) ?_
                        have b8_93 : (v8_93 + 1).toInt = v8_93.toInt + 1 := inc_toInt (by omega) (by omega)
                        exact ih93 _ 0 (v8_93 + 1) ⟨(by omega), (by first | exact Or.inl rfl | exact Or.inr rfl)⟩ (by omega) hG hex93 ls (lv_sub hl [2, 3, 4, 5, 6, 7, 1, 8, 0] rfl)
                      · have t132 : (f_X4_farIn σ p1 k0_12_30 (f_X4_greater (σ 6 (ix p1)) (σ 7 (ix p1))) p2).toInt < (f_X4_farIn σ p1 v7_78 v8_93 p2).toInt := qt_nle c132
                        rw [if_neg c132] at hG
                        refine lv_iconst (v := 1) hx hb dX4_isProved_135 (by decide) ?_
                        refine lv_goto (tgt := 140) hx hb dX4_isProved_136 (by decide) ?_
                        refine lv_istore (lv' := [(6, .int 1), (0, .ref (ad 0)), (1, .int p1), (2, .int p2), (3, .int k0_12_30), (4, .int (f_X4_greater (σ 6 (ix p1)) (σ 7 (ix p1)))), (5, .int (f_X4_farIn σ p1 k0_12_30 (f_X4_greater (σ 6 (ix p1)) (σ 7 (ix p1))) p2)), (7, .int v7_78), (8, .int v8_93)]) hx hb dX4_isProved_140 hl (by decide) rfl (fun ls hl => ?_)
                        refine lv_iinc (v := (v8_93 + 1)) (lv' := [(8, .int (v8_93 + 1)), (6, .int 1), (0, .ref (ad 0)), (1, .int p1), (2, .int p2), (3, .int k0_12_30), (4, .int (f_X4_greater (σ 6 (ix p1)) (σ 7 (ix p1)))), (5, .int (f_X4_farIn σ p1 k0_12_30 (f_X4_greater (σ 6 (ix p1)) (σ 7 (ix p1))) p2)), (7, .int v7_78)]) hx hb dX4_isProved_142 hl (k := 8) rfl rfl (by decide) rfl (fun ls hl => ?_)
                        refine lv_goto (tgt := 93) hx hb dX4_isProved_145 (by decide) ?_
                        have b8_93 : (v8_93 + 1).toInt = v8_93.toInt + 1 := inc_toInt (by omega) (by omega)
                        exact ih93 _ 1 (v8_93 + 1) ⟨(by omega), (by first | exact Or.inl rfl | exact Or.inr rfl)⟩ (by omega) hG hex93 ls (lv_sub hl [2, 3, 4, 5, 6, 7, 1, 8, 0] rfl)
                    · have t110 : v7_78.toInt = k0_12_30.toInt := qt_eq c110
                      rw [if_pos c110] at hG
                      refine lv_iload hx hb dX4_isProved_113 (lv_at hl 8 rfl) ?_
                      refine lv_iload hx hb dX4_isProved_115 (lv_at hl 4 rfl) ?_
                      refine lv_icmp_eq (tgt := 135) hx hb dX4_isProved_117 (by decide) (fun c117 => ?_) (fun c117 => ?_)
                      · have t117 : v8_93.toInt = (f_X4_greater (σ 6 (ix p1)) (σ 7 (ix p1))).toInt := qt_eq c117
                        rw [if_pos c117] at hG
                        refine lv_iconst (v := 1) hx hb dX4_isProved_135 (by decide) ?_
                        refine lv_goto (tgt := 140) hx hb dX4_isProved_136 (by decide) ?_
                        refine lv_istore (lv' := [(6, .int 1), (0, .ref (ad 0)), (1, .int p1), (2, .int p2), (3, .int k0_12_30), (4, .int (f_X4_greater (σ 6 (ix p1)) (σ 7 (ix p1)))), (5, .int (f_X4_farIn σ p1 k0_12_30 (f_X4_greater (σ 6 (ix p1)) (σ 7 (ix p1))) p2)), (7, .int v7_78), (8, .int v8_93)]) hx hb dX4_isProved_140 hl (by decide) rfl (fun ls hl => ?_)
                        refine lv_iinc (v := (v8_93 + 1)) (lv' := [(8, .int (v8_93 + 1)), (6, .int 1), (0, .ref (ad 0)), (1, .int p1), (2, .int p2), (3, .int k0_12_30), (4, .int (f_X4_greater (σ 6 (ix p1)) (σ 7 (ix p1)))), (5, .int (f_X4_farIn σ p1 k0_12_30 (f_X4_greater (σ 6 (ix p1)) (σ 7 (ix p1))) p2)), (7, .int v7_78)]) hx hb dX4_isProved_142 hl (k := 8) rfl rfl (by decide) rfl (fun ls hl => ?_)
                        refine lv_goto (tgt := 93) hx hb dX4_isProved_145 (by decide) ?_
                        have b8_93 : (v8_93 + 1).toInt = v8_93.toInt + 1 := inc_toInt (by omega) (by omega)
                        exact ih93 _ 1 (v8_93 + 1) ⟨(by omega), (by first | exact Or.inl rfl | exact Or.inr rfl)⟩ (by omega) hG hex93 ls (lv_sub hl [2, 3, 4, 5, 6, 7, 1, 8, 0] rfl)
                      · have t117 : v8_93.toInt ≠ (f_X4_greater (σ 6 (ix p1)) (σ 7 (ix p1))).toInt := qt_ne c117
                        rw [if_neg c117] at hG
                        refine lv_aload_n hx hb dX4_isProved_120 rfl (lv_at hl 0 rfl) ?_
                        refine lv_iload_n hx hb dX4_isProved_121 rfl (lv_at hl 1 rfl) ?_
                        refine lv_iload hx hb dX4_isProved_122 (lv_at hl 7 rfl) ?_
                        refine lv_iload hx hb dX4_isProved_124 (lv_at hl 8 rfl) ?_
                        refine lv_iload_n hx hb dX4_isProved_126 rfl (lv_at hl 2 rfl) ?_
                        refine call0i (va_runV (As := [.int p1, .int v7_78, .int v8_93, .int p2]) (rest := []) S (c_X4_farIn l ad D s.heap.size σ p1 v7_78 v8_93 p2 hok (by omega) (by omega) (by omega) (by omega) (by omega)) (cwV 4 S.2.2.2.2 gX4_isProved_X4_farIn rfl rfl rfl ⟨rfl, hd_X4_farIn⟩ ⟨Nat.le_of_ble_eq_true rfl, Nat.le_of_ble_eq_true rfl⟩) (preV hK hN w (k := 0) (by decide) (eM_0 ad _) (q := (RX4, TX4, 25)) rfl) rfl rfl hl.1 rfl (lv_room (Nat.le_of_ble_eq_true rfl)) dX4_isProved_127 ⟨Nat.zero_le _, Nat.zero_le _⟩) ?_
                        refine lv_iload hx hb dX4_isProved_130 (lv_at hl 5 rfl) ?_
                        refine lv_icmp_le (tgt := 139) hx hb dX4_isProved_132 (by decide) (fun c132 => ?_) (fun c132 => ?_)
                        · have t132 : (f_X4_farIn σ p1 v7_78 v8_93 p2).toInt ≤ (f_X4_farIn σ p1 k0_12_30 (f_X4_greater (σ 6 (ix p1)) (σ 7 (ix p1))) p2).toInt := qt_le c132
                          rw [if_pos c132] at hG
                          refine lv_iconst (v := 0) hx hb dX4_isProved_139 (by decide) ?_
                          refine lv_istore (lv' := [(6, .int 0), (0, .ref (ad 0)), (1, .int p1), (2, .int p2), (3, .int k0_12_30), (4, .int (f_X4_greater (σ 6 (ix p1)) (σ 7 (ix p1)))), (5, .int (f_X4_farIn σ p1 k0_12_30 (f_X4_greater (σ 6 (ix p1)) (σ 7 (ix p1))) p2)), (7, .int v7_78), (8, .int v8_93)]) hx hb dX4_isProved_140 hl (by decide) rfl (fun ls hl => ?_)
                          refine lv_iinc (v := (v8_93 + 1)) (lv' := [(8, .int (v8_93 + 1)), (6, .int 0), (0, .ref (ad 0)), (1, .int p1), (2, .int p2), (3, .int k0_12_30), (4, .int (f_X4_greater (σ 6 (ix p1)) (σ 7 (ix p1)))), (5, .int (f_X4_farIn σ p1 k0_12_30 (f_X4_greater (σ 6 (ix p1)) (σ 7 (ix p1))) p2)), (7, .int v7_78)]) hx hb dX4_isProved_142 hl (k := 8) rfl rfl (by decide) rfl (fun ls hl => ?_)
                          refine lv_goto (tgt := 93) hx hb dX4_isProved_145 (by decide) ?_
                          have b8_93 : (v8_93 + 1).toInt = v8_93.toInt + 1 := inc_toInt (by omega) (by omega)
                          exact ih93 _ 0 (v8_93 + 1) ⟨(by omega), (by first | exact Or.inl rfl | exact Or.inr rfl)⟩ (by omega) hG hex93 ls (lv_sub hl [2, 3, 4, 5, 6, 7, 1, 8, 0] rfl)
                        · have t132 : (f_X4_farIn σ p1 k0_12_30 (f_X4_greater (σ 6 (ix p1)) (σ 7 (ix p1))) p2).toInt < (f_X4_farIn σ p1 v7_78 v8_93 p2).toInt := qt_nle c132
                          rw [if_neg c132] at hG
                          refine lv_iconst (v := 1) hx hb dX4_isProved_135 (by decide) ?_
                          refine lv_goto (tgt := 140) hx hb dX4_isProved_136 (by decide) ?_
                          refine lv_istore (lv' := [(6, .int 1), (0, .ref (ad 0)), (1, .int p1), (2, .int p2), (3, .int k0_12_30), (4, .int (f_X4_greater (σ 6 (ix p1)) (σ 7 (ix p1)))), (5, .int (f_X4_farIn σ p1 k0_12_30 (f_X4_greater (σ 6 (ix p1)) (σ 7 (ix p1))) p2)), (7, .int v7_78), (8, .int v8_93)]) hx hb dX4_isProved_140 hl (by decide) rfl (fun ls hl => ?_)
                          refine lv_iinc (v := (v8_93 + 1)) (lv' := [(8, .int (v8_93 + 1)), (6, .int 1), (0, .ref (ad 0)), (1, .int p1), (2, .int p2), (3, .int k0_12_30), (4, .int (f_X4_greater (σ 6 (ix p1)) (σ 7 (ix p1)))), (5, .int (f_X4_farIn σ p1 k0_12_30 (f_X4_greater (σ 6 (ix p1)) (σ 7 (ix p1))) p2)), (7, .int v7_78)]) hx hb dX4_isProved_142 hl (k := 8) rfl rfl (by decide) rfl (fun ls hl => ?_)
                          refine lv_goto (tgt := 93) hx hb dX4_isProved_145 (by decide) ?_
                          have b8_93 : (v8_93 + 1).toInt = v8_93.toInt + 1 := inc_toInt (by omega) (by omega)
                          exact ih93 _ 1 (v8_93 + 1) ⟨(by omega), (by first | exact Or.inl rfl | exact Or.inr rfl)⟩ (by omega) hG hex93 ls (lv_sub hl [2, 3, 4, 5, 6, 7, 1, 8, 0] rfl)
            have e93 := inc_toInt (a := v7_78) (by omega) (by omega)
            refine L93 200 _ v6_78 (v7_78 + 1) ⟨(by omega), i78_1⟩ (by omega) rfl (fun v6_93e x93_0 hr93 ls hl => ?_) ls (lv_sub hl [1, 2, 3, 4, 5, 6, 7, 8, 0] rfl)
            rw [hr93] at hG
            refine lv_iinc (v := (v7_78 + 1)) (lv' := [(7, .int (v7_78 + 1)), (0, .ref (ad 0)), (1, .int p1), (2, .int p2), (3, .int k0_12_30), (4, .int (f_X4_greater (σ 6 (ix p1)) (σ 7 (ix p1)))), (5, .int (f_X4_farIn σ p1 k0_12_30 (f_X4_greater (σ 6 (ix p1)) (σ 7 (ix p1))) p2)), (6, .int v6_93e)]) hx hb dX4_isProved_148 hl (k := 7) rfl rfl (by decide) rfl (fun ls hl => ?_)
            refine lv_goto (tgt := 78) hx hb dX4_isProved_151 (by decide) ?_
            have b7_78 : (v7_78 + 1).toInt = v7_78.toInt + 1 := inc_toInt (by omega) (by omega)
            exact ih78 _ v6_93e (v7_78 + 1) ⟨(by omega), x93_0⟩ (by omega) hG hex78 ls (lv_sub hl [1, 2, 3, 4, 5, 6, 7, 0] rfl)
      refine L78 200 _ k0_65_73 0 ⟨(by omega), jq73_0⟩ (by omega) rfl (fun v6_78e x78_0 hr78 ls hl => ?_) ls (lv_sub hl [2, 3, 4, 5, 6, 7, 1, 0] rfl)
      rw [hr78] at hG
      refine lv_iload hx hb dX4_isProved_154 (lv_at hl 1 rfl) ?_
      exact end0z S hr hlocks x78_0 hG dX4_isProved_156
    refine lv_icmp_gt (tgt := 72) hx hb dX4_isProved_65 (by decide) (fun c65 => ?_) (fun c65 => ?_)
    · have t65 : (σ 0 3).toInt < (f_X4_farIn σ p1 k0_12_30 (f_X4_greater (σ 6 (ix p1)) (σ 7 (ix p1))) p2).toInt := qt_lt c65
      simp only [if_pos c65] at hG
      refine lv_iconst (v := 0) hx hb dX4_isProved_72 (by decide) ?_
      exact J65_73 0 (by first | exact Or.inl rfl | exact Or.inr rfl) hG ls (lv_sub hl [3, 4, 5, 2, 1, 0] rfl)
    · have t65 : (f_X4_farIn σ p1 k0_12_30 (f_X4_greater (σ 6 (ix p1)) (σ 7 (ix p1))) p2).toInt ≤ (σ 0 3).toInt := qt_nlt c65
      simp only [if_neg c65] at hG
      refine lv_iconst (v := 1) hx hb dX4_isProved_68 (by decide) ?_
      refine lv_goto (tgt := 73) hx hb dX4_isProved_69 (by decide) ?_
      exact J65_73 1 (by first | exact Or.inl rfl | exact Or.inr rfl) hG ls (lv_sub hl [3, 4, 5, 2, 1, 0] rfl)
  refine lv_icmp_ge (tgt := 24) hx hb dX4_isProved_12 (by decide) (fun c12 => ?_) (fun c12 => ?_)
  · have t12 : (σ 7 (ix p1)).toInt ≤ (σ 6 (ix p1)).toInt := qt_le c12
    simp only [if_pos c12] at hG
    refine lv_aload_n hx hb dX4_isProved_24 rfl (lv_at hl 0 rfl) ?_
    refine r_get (C := RX4) (T := TX4) (N := 25) S hK w (k := 0) (by decide) (eM_0 ad _) rfl hinX4 13 (by decide) (List.mem_of_getElem? (i := 2) rfl) rfl dX4_isProved_25 ?_
    refine lv_iload_n hx hb dX4_isProved_28 rfl (lv_at hl 1 rfl) ?_
    have g29 : vp_in p1 8 := vpi (by omega) (by omega)
    refine r_iald (cA := ad 100) (N := 8) S hK w (k := 7) (by decide) (fun f => rfl) rfl g29 dX4_isProved_29 ?_
    exact J12_30 (σ 7 (ix p1)) (by omega) hG ls (lv_sub hl [0, 1, 2] rfl)
  · have t12 : (σ 6 (ix p1)).toInt < (σ 7 (ix p1)).toInt := qt_nle c12
    simp only [if_neg c12] at hG
    refine lv_aload_n hx hb dX4_isProved_15 rfl (lv_at hl 0 rfl) ?_
    refine r_get (C := RX4) (T := TX4) (N := 25) S hK w (k := 0) (by decide) (eM_0 ad _) rfl hinX4 12 (by decide) (List.mem_of_getElem? (i := 1) rfl) rfl dX4_isProved_16 ?_
    refine lv_iload_n hx hb dX4_isProved_19 rfl (lv_at hl 1 rfl) ?_
    have g20 : vp_in p1 8 := vpi (by omega) (by omega)
    refine r_iald (cA := ad 100) (N := 8) S hK w (k := 6) (by decide) (fun f => rfl) rfl g20 dX4_isProved_20 ?_
    refine lv_goto (tgt := 30) hx hb dX4_isProved_21 (by decide) ?_
    exact J12_30 (σ 6 (ix p1)) (by omega) hG ls (lv_sub hl [0, 1, 2] rfl)
set_option maxHeartbeats 4000000 in
set_option maxRecDepth 100000 in
theorem c_X4_proved (l : Launch) (ad : Nat → Nat) (D : va_G) (sz : Nat) (σ : St) (hok : OkM σ) : Met l yX4_proved wsX4_proved ({ frames := 4, cells := 0, slots := 0, locals := 108 }) (PreW 18 (eM ad) ad D (tyM ad) σ sz ([.ref (ad 0)] : List Value)) (Q0i (f_X4_proved σ)) 0 0 N0 := by
  generalize hG : f_X4_proved σ = T
  refine headW (cc := cX4_proved) (maxL := 3) (ret := (some .int)) ([.ref (ad 0)] : List Value) (by decide) rfl (Nat.le_of_ble_eq_true rfl) ?_
  intro p e s m below meth c S hr hlocks hK hN hsz w ls hl
  have S : CallFix p m c cX4_proved 3 s ([.ref (ad 0)] : List Value).toArray wsX4_proved RX4 := S
  have hx := S.1
  have hb := S.2.1
  have z0 : (0 : Int32).toInt = 0 := by decide
  have z1 : (1 : Int32).toInt = 1 := by decide
  have hl : lv_has ls 3 [(0, .ref (ad 0))] := hl
  have hinX4 : ∀ w ∈ wsX40, w ∈ wsX4_proved := (fun _ h => List.mem_cons_of_mem _ (List.mem_append_right _ h))
  have okf0 := hok.1
  have okf1 := hok.2.1
  have okf2 := hok.2.2.1
  have okf3 := hok.2.2.2.1
  have okf4 := hok.2.2.2.2.1
  have okf6 := hok.2.2.2.2.2.1
  have okf7 := hok.2.2.2.2.2.2.1
  have okf8 := hok.2.2.2.2.2.2.2
  rw [f_X4_proved] at hG
  refine lv_iconst (v := 0) hx hb dX4_proved_0 (by decide) ?_
  refine lv_istore_n (lv' := [(1, .int 0), (0, .ref (ad 0))]) hx hb dX4_proved_1 rfl hl (by decide) rfl (fun ls hl => ?_)
  refine lv_iconst (v := 0) hx hb dX4_proved_2 (by decide) ?_
  refine lv_istore_n (lv' := [(2, .int 0), (1, .int 0), (0, .ref (ad 0))]) hx hb dX4_proved_3 rfl hl (by decide) rfl (fun ls hl => ?_)
  have L4 : ∀ (n : Nat) (res4 : Int32), ∀ (v1_4 : Int32), ∀ (v2_4 : Int32), ((0 ≤ v2_4.toInt ∧ v2_4.toInt ≤ 8)) → (8 - v2_4.toInt).toNat < n → (lp_X4_proved_4 σ n v1_4 v2_4) = res4 → (∀ (v1_4e : Int32), res4 = v1_4e → ∀ ls : Array Slot, lv_has ls 3 [(0, .ref (ad 0)), (1, .int v1_4e)] → W p l e (headSpec wsX4_proved ({ frames := 4, cells := 0, slots := 0, locals := 108 })).room s m ([.ref (ad 0)] : List Value).toArray below meth c s.heap [] 0 0 (MQ below (Q0i T) ([.ref (ad 0)] : List Value).toArray s 0 0 N0) (F0 m 40 ls [])) → ∀ ls : Array Slot, lv_has ls 3 [(0, .ref (ad 0)), (1, .int v1_4), (2, .int v2_4)] → W p l e (headSpec wsX4_proved ({ frames := 4, cells := 0, slots := 0, locals := 108 })).room s m ([.ref (ad 0)] : List Value).toArray below meth c s.heap [] 0 0 (MQ below (Q0i T) ([.ref (ad 0)] : List Value).toArray s 0 0 N0) (F0 m 4 ls []) := by
    intro n
    induction n with
    | zero => intro _ _ _ _ hm; exact absurd hm (Nat.not_lt_zero _)
    | succ n ih4 =>
      intro res4 v1_4 v2_4 hI4 hm4 hG hex4 ls hl
      have i4_0 := hI4
      rw [lp_X4_proved_4] at hG
      refine lv_iload_n hx hb dX4_proved_4 rfl (lv_at hl 2 rfl) ?_
      refine lv_aload_n hx hb dX4_proved_5 rfl (lv_at hl 0 rfl) ?_
      refine r_get (C := RX4) (T := TX4) (N := 25) S hK w (k := 0) (by decide) (eM_0 ad _) rfl hinX4 11 (by decide) (List.mem_of_getElem? (i := 1) rfl) rfl dX4_proved_6 ?_
      refine lv_icmp_ge (tgt := 40) hx hb dX4_proved_9 (by decide) (fun c9 => ?_) (fun c9 => ?_)
      · have t9 : (σ 0 11).toInt ≤ v2_4.toInt := qt_le c9
        rw [if_pos c9] at hG
        exact hex4 v1_4 hG.symm ls (lv_sub hl [0, 1] rfl)
      · have t9 : v2_4.toInt < (σ 0 11).toInt := qt_nle c9
        rw [if_neg c9] at hG
        refine lv_iload_n hx hb dX4_proved_12 rfl (lv_at hl 1 rfl) ?_
        refine lv_aload_n hx hb dX4_proved_13 rfl (lv_at hl 0 rfl) ?_
        refine lv_iload_n hx hb dX4_proved_14 rfl (lv_at hl 2 rfl) ?_
        refine lv_aload_n hx hb dX4_proved_15 rfl (lv_at hl 0 rfl) ?_
        refine r_get (C := RX4) (T := TX4) (N := 25) S hK w (k := 0) (by decide) (eM_0 ad _) rfl hinX4 2 (by decide) (List.mem_of_getElem? (i := 2) rfl) rfl dX4_proved_16 ?_
        refine call0i (va_runV (As := [.int v2_4, .int (σ 0 2)]) (rest := [.int v1_4]) S (c_X4_isProved l ad D s.heap.size σ v2_4 (σ 0 2) hok (by omega) (by omega) (by omega)) (cwV 2 S.2.2.2.2 gX4_proved_X4_isProved rfl rfl rfl ⟨rfl, hd_X4_isProved⟩ ⟨Nat.le_of_ble_eq_true rfl, Nat.le_of_ble_eq_true rfl⟩) (preV hK hN w (k := 0) (by decide) (eM_0 ad _) (q := (RX4, TX4, 25)) rfl) rfl rfl hl.1 rfl (lv_room (Nat.le_of_ble_eq_true rfl)) dX4_proved_19 ⟨Nat.zero_le _, Nat.zero_le _⟩) ?_
        have J22_32 : ∀ (k1_22_32 : Int32), (lp_X4_proved_4 σ n (v1_4 ||| k1_22_32) (v2_4 + 1)) = res4 → ∀ ls : Array Slot, lv_has ls 3 [(0, .ref (ad 0)), (2, .int v2_4)] → W p l e (headSpec wsX4_proved ({ frames := 4, cells := 0, slots := 0, locals := 108 })).room s m ([.ref (ad 0)] : List Value).toArray below meth c s.heap [] 0 0 (MQ below (Q0i T) ([.ref (ad 0)] : List Value).toArray s 0 0 N0) (F0 m 32 ls [.int k1_22_32, .int v1_4]) := by
          intro k1_22_32 hG ls hl
          refine lv_ior hx hb dX4_proved_32 ?_
          refine lv_istore_n (lv' := [(1, .int (v1_4 ||| k1_22_32)), (0, .ref (ad 0)), (2, .int v2_4)]) hx hb dX4_proved_33 rfl hl (by decide) rfl (fun ls hl => ?_)
          refine lv_iinc (v := (v2_4 + 1)) (lv' := [(2, .int (v2_4 + 1)), (1, .int (v1_4 ||| k1_22_32)), (0, .ref (ad 0))]) hx hb dX4_proved_34 hl (k := 2) rfl rfl (by decide) rfl (fun ls hl => ?_)
          refine lv_goto (tgt := 4) hx hb dX4_proved_37 (by decide) ?_
          have b2_4 : (v2_4 + 1).toInt = v2_4.toInt + 1 := inc_toInt (by omega) (by omega)
          exact ih4 _ (v1_4 ||| k1_22_32) (v2_4 + 1) (by omega) (by omega) hG hex4 ls (lv_sub hl [2, 1, 0] rfl)
        refine lv_if_eq (tgt := 31) hx hb dX4_proved_22 (by decide) (fun c22 => ?_) (fun c22 => ?_)
        · simp only [if_pos c22] at hG
          refine lv_iconst (v := 0) hx hb dX4_proved_31 (by decide) ?_
          exact J22_32 0 hG ls (lv_sub hl [0, 2] rfl)
        · simp only [if_neg c22] at hG
          refine lv_iconst (v := 1) hx hb dX4_proved_25 (by decide) ?_
          refine lv_iload_n hx hb dX4_proved_26 rfl (lv_at hl 2 rfl) ?_
          refine lv_ishl hx hb dX4_proved_27 ?_
          refine lv_goto (tgt := 32) hx hb dX4_proved_28 (by decide) ?_
          exact J22_32 ((1 : Int32) <<< (v2_4 &&& 31)) hG ls (lv_sub hl [0, 2] rfl)
  refine L4 200 _ 0 0 (by omega) (by omega) rfl (fun v1_4e hr4 ls hl => ?_) ls (lv_sub hl [2, 1, 0] rfl)
  rw [hr4] at hG
  refine lv_iload_n hx hb dX4_proved_40 rfl (lv_at hl 1 rfl) ?_
  exact end0i S hr hlocks hG dX4_proved_41
set_option maxHeartbeats 4000000 in
set_option maxRecDepth 100000 in
theorem c_X4_again (l : Launch) (ad : Nat → Nat) (D : va_G) (sz : Nat) (σ : St) (p1 : Int32) (hok : OkM σ) : Met l yX4_again wsX4_again ({ frames := 4, cells := 0, slots := 0, locals := 108 }) (PreW 18 (eM ad) ad D (tyM ad) σ sz ([.ref (ad 0), .int p1] : List Value)) (Q0i (f_X4_again σ p1)) 0 0 N0 := by
  generalize hG : f_X4_again σ p1 = T
  refine headW (cc := cX4_again) (maxL := 3) (ret := (some .int)) ([.ref (ad 0), .int p1] : List Value) (by decide) rfl (Nat.le_of_ble_eq_true rfl) ?_
  intro p e s m below meth c S hr hlocks hK hN hsz w ls hl
  have S : CallFix p m c cX4_again 3 s ([.ref (ad 0), .int p1] : List Value).toArray wsX4_again RX4 := S
  have hx := S.1
  have hb := S.2.1
  have z0 : (0 : Int32).toInt = 0 := by decide
  have z1 : (1 : Int32).toInt = 1 := by decide
  have hl : lv_has ls 3 [(0, .ref (ad 0)), (1, .int p1)] := hl
  have hinX4 : ∀ w ∈ wsX40, w ∈ wsX4_again := (fun _ h => List.mem_cons_of_mem _ (List.mem_append_right _ h))
  have okf0 := hok.1
  have okf1 := hok.2.1
  have okf2 := hok.2.2.1
  have okf3 := hok.2.2.2.1
  have okf4 := hok.2.2.2.2.1
  have okf6 := hok.2.2.2.2.2.1
  have okf7 := hok.2.2.2.2.2.2.1
  have okf8 := hok.2.2.2.2.2.2.2
  rw [f_X4_again] at hG
  refine lv_aload_n hx hb dX4_again_0 rfl (lv_at hl 0 rfl) ?_
  refine lv_iload_n hx hb dX4_again_1 rfl (lv_at hl 1 rfl) ?_
  refine call0i (va_runV (As := [.int p1]) (rest := []) S (c_X4_noPaper l ad D s.heap.size σ p1) (cwV 1 S.2.2.2.2 gX4_again_X4_noPaper rfl rfl rfl ⟨rfl, hd_X4_noPaper⟩ ⟨Nat.le_of_ble_eq_true rfl, Nat.le_of_ble_eq_true rfl⟩) (preV hK hN w (k := 0) (by decide) (eM_0 ad _) (q := (RX4, TX4, 25)) rfl) rfl rfl hl.1 rfl (lv_room (Nat.le_of_ble_eq_true rfl)) dX4_again_2 ⟨Nat.zero_le _, Nat.zero_le _⟩) ?_
  refine lv_if_eq (tgt := 10) hx hb dX4_again_5 (by decide) (fun c5 => ?_) (fun c5 => ?_)
  · have t5 := bf_noPaper_z c5
    rw [if_pos c5] at hG
    refine lv_aload_n hx hb dX4_again_10 rfl (lv_at hl 0 rfl) ?_
    refine r_get (C := RX4) (T := TX4) (N := 25) S hK w (k := 0) (by decide) (eM_0 ad _) rfl hinX4 2 (by decide) (List.mem_of_getElem? (i := 1) rfl) rfl dX4_again_11 ?_
    refine lv_istore_n (lv' := [(2, .int (σ 0 2)), (0, .ref (ad 0)), (1, .int p1)]) hx hb dX4_again_14 rfl hl (by decide) rfl (fun ls hl => ?_)
    have L15 : ∀ (n : Nat) (res15 : (Int32) ⊕ (Unit)), ∀ (v2_15 : Int32), ((0 ≤ v2_15.toInt ∧ v2_15.toInt ≤ 100)) → (100 - v2_15.toInt).toNat < n → (lp_X4_again_15 σ p1 n v2_15) = res15 → (∀ r : Int32, res15 = Sum.inl r → r = T) → (res15 = Sum.inr () → ∀ ls : Array Slot, lv_has ls 3 [(0, .ref (ad 0))] → W p l e (headSpec wsX4_again ({ frames := 4, cells := 0, slots := 0, locals := 108 })).room s m ([.ref (ad 0), .int p1] : List Value).toArray below meth c s.heap [] 0 0 (MQ below (Q0i T) ([.ref (ad 0), .int p1] : List Value).toArray s 0 0 N0) (F0 m 38 ls [])) → ∀ ls : Array Slot, lv_has ls 3 [(0, .ref (ad 0)), (1, .int p1), (2, .int v2_15)] → W p l e (headSpec wsX4_again ({ frames := 4, cells := 0, slots := 0, locals := 108 })).room s m ([.ref (ad 0), .int p1] : List Value).toArray below meth c s.heap [] 0 0 (MQ below (Q0i T) ([.ref (ad 0), .int p1] : List Value).toArray s 0 0 N0) (F0 m 15 ls []) := by
      intro n
      induction n with
      | zero => intro _ _ _ hm; exact absurd hm (Nat.not_lt_zero _)
      | succ n ih15 =>
        intro res15 v2_15 hI15 hm15 hG hret15 hex15 ls hl
        have i15_0 := hI15
        rw [lp_X4_again_15] at hG
        refine lv_iload_n hx hb dX4_again_15 rfl (lv_at hl 2 rfl) ?_
        refine lv_bipush (v := 99) hx hb dX4_again_16 (by decide) ?_
        refine lv_icmp_gt (tgt := 38) hx hb dX4_again_18 (by decide) (fun c18 => ?_) (fun c18 => ?_)
        · have t18 : 99 < v2_15.toInt := qt_lt c18
          rw [if_pos c18] at hG
          exact hex15  hG.symm ls (lv_sub hl [0] rfl)
        · have t18 : v2_15.toInt ≤ 99 := qt_nlt c18
          rw [if_neg c18] at hG
          refine lv_aload_n hx hb dX4_again_21 rfl (lv_at hl 0 rfl) ?_
          refine lv_iload_n hx hb dX4_again_22 rfl (lv_at hl 1 rfl) ?_
          refine lv_iload_n hx hb dX4_again_23 rfl (lv_at hl 2 rfl) ?_
          refine call0i (va_runV (As := [.int p1, .int v2_15]) (rest := []) S (c_X4_isProved l ad D s.heap.size σ p1 v2_15 hok (by omega) (by omega) (by omega)) (cwV 2 S.2.2.2.2 gX4_again_X4_isProved rfl rfl rfl ⟨rfl, hd_X4_isProved⟩ ⟨Nat.le_of_ble_eq_true rfl, Nat.le_of_ble_eq_true rfl⟩) (preV hK hN w (k := 0) (by decide) (eM_0 ad _) (q := (RX4, TX4, 25)) rfl) rfl rfl hl.1 rfl (lv_room (Nat.le_of_ble_eq_true rfl)) dX4_again_24 ⟨Nat.zero_le _, Nat.zero_le _⟩) ?_
          refine lv_if_ne (tgt := 32) hx hb dX4_again_27 (by decide) (fun c27 => ?_) (fun c27 => ?_)
          · rw [if_neg c27] at hG
            refine lv_iinc (v := (v2_15 + 1)) (lv' := [(2, .int (v2_15 + 1)), (0, .ref (ad 0)), (1, .int p1)]) hx hb dX4_again_32 hl (k := 2) rfl rfl (by decide) rfl (fun ls hl => ?_)
            refine lv_goto (tgt := 15) hx hb dX4_again_35 (by decide) ?_
            have b2_15 : (v2_15 + 1).toInt = v2_15.toInt + 1 := inc_toInt (by omega) (by omega)
            exact ih15 _ (v2_15 + 1) (by omega) (by omega) hG hret15 hex15 ls (lv_sub hl [1, 2, 0] rfl)
          · rw [if_pos c27] at hG
            refine lv_iload_n hx hb dX4_again_30 rfl (lv_at hl 2 rfl) ?_
            exact end0i S hr hlocks (hret15 _ hG.symm) dX4_again_31
    refine L15 200 _ (σ 0 2) (by omega) (by omega) rfl (fun r hr15 => by rw [hr15] at hG; exact hG) (fun hr15 ls hl => ?_) ls (lv_sub hl [1, 2, 0] rfl)
    rw [hr15] at hG
    dsimp only at hG
    refine lv_bipush (v := (-9)) hx hb dX4_again_38 (by decide) ?_
    exact end0i S hr hlocks hG dX4_again_40
  · rw [if_neg c5] at hG
    refine lv_iconst (v := (-1)) hx hb dX4_again_8 (by decide) ?_
    exact end0i S hr hlocks hG dX4_again_9
set_option maxHeartbeats 4000000 in
set_option maxRecDepth 100000 in
theorem c_X4_apartBy (l : Launch) (ad : Nat → Nat) (D : va_G) (sz : Nat) (σ : St) (p1 : Int32) (p2 : Int32) (hx1 : 0 ≤ p1.toInt ∧ p1.toInt < 8) (hx2 : 0 ≤ p2.toInt ∧ p2.toInt < 8) : Met l yX4_apartBy wsX4_apartBy ({ frames := 1, cells := 0, slots := 0, locals := 22 }) (PreW 18 (eM ad) ad D (tyM ad) σ sz ([.ref (ad 0), .int p1, .int p2] : List Value)) (Q0i (f_X4_apartBy σ p1 p2)) 0 0 N0 := by
  generalize hG : f_X4_apartBy σ p1 p2 = T
  refine headW (cc := cX4_apartBy) (maxL := 5) (ret := (some .int)) ([.ref (ad 0), .int p1, .int p2] : List Value) (by decide) rfl (Nat.le_of_ble_eq_true rfl) ?_
  intro p e s m below meth c S hr hlocks hK hN hsz w ls hl
  have S : CallFix p m c cX4_apartBy 5 s ([.ref (ad 0), .int p1, .int p2] : List Value).toArray wsX4_apartBy RX4 := S
  have hx := S.1
  have hb := S.2.1
  have z0 : (0 : Int32).toInt = 0 := by decide
  have z1 : (1 : Int32).toInt = 1 := by decide
  have hl : lv_has ls 5 [(0, .ref (ad 0)), (1, .int p1), (2, .int p2)] := hl
  have hinX4 : ∀ w ∈ wsX40, w ∈ wsX4_apartBy := (fun _ h => List.mem_cons_of_mem _ (List.mem_append_right _ h))
  rw [f_X4_apartBy] at hG
  refine lv_iconst (v := 0) hx hb dX4_apartBy_0 (by decide) ?_
  refine lv_istore_n (lv' := [(3, .int 0), (0, .ref (ad 0)), (1, .int p1), (2, .int p2)]) hx hb dX4_apartBy_1 rfl hl (by decide) rfl (fun ls hl => ?_)
  refine lv_iconst (v := 0) hx hb dX4_apartBy_2 (by decide) ?_
  refine lv_istore (lv' := [(4, .int 0), (3, .int 0), (0, .ref (ad 0)), (1, .int p1), (2, .int p2)]) hx hb dX4_apartBy_3 hl (by decide) rfl (fun ls hl => ?_)
  have L5 : ∀ (n : Nat) (res5 : Int32), ∀ (v3_5 : Int32), ∀ (v4_5 : Int32), ((0 ≤ v4_5.toInt ∧ v4_5.toInt ≤ 9)) → (9 - v4_5.toInt).toNat < n → (lp_X4_apartBy_5 σ p1 p2 n v3_5 v4_5) = res5 → (∀ (v3_5e : Int32), res5 = v3_5e → ∀ ls : Array Slot, lv_has ls 5 [(0, .ref (ad 0)), (3, .int v3_5e)] → W p l e (headSpec wsX4_apartBy ({ frames := 1, cells := 0, slots := 0, locals := 22 })).room s m ([.ref (ad 0), .int p1, .int p2] : List Value).toArray below meth c s.heap [] 0 0 (MQ below (Q0i T) ([.ref (ad 0), .int p1, .int p2] : List Value).toArray s 0 0 N0) (F0 m 38 ls [])) → ∀ ls : Array Slot, lv_has ls 5 [(0, .ref (ad 0)), (1, .int p1), (2, .int p2), (3, .int v3_5), (4, .int v4_5)] → W p l e (headSpec wsX4_apartBy ({ frames := 1, cells := 0, slots := 0, locals := 22 })).room s m ([.ref (ad 0), .int p1, .int p2] : List Value).toArray below meth c s.heap [] 0 0 (MQ below (Q0i T) ([.ref (ad 0), .int p1, .int p2] : List Value).toArray s 0 0 N0) (F0 m 5 ls []) := by
    intro n
    induction n with
    | zero => intro _ _ _ _ hm; exact absurd hm (Nat.not_lt_zero _)
    | succ n ih5 =>
      intro res5 v3_5 v4_5 hI5 hm5 hG hex5 ls hl
      have i5_0 := hI5
      rw [lp_X4_apartBy_5] at hG
      refine lv_iload hx hb dX4_apartBy_5 (lv_at hl 4 rfl) ?_
      refine lv_bipush (v := 9) hx hb dX4_apartBy_7 (by decide) ?_
      refine lv_icmp_ge (tgt := 38) hx hb dX4_apartBy_9 (by decide) (fun c9 => ?_) (fun c9 => ?_)
      · have t9 : 9 ≤ v4_5.toInt := qt_le c9
        rw [if_pos c9] at hG
        exact hex5 v3_5 hG.symm ls (lv_sub hl [0, 3] rfl)
      · have t9 : v4_5.toInt < 9 := qt_nle c9
        rw [if_neg c9] at hG
        refine lv_iload_n hx hb dX4_apartBy_12 rfl (lv_at hl 3 rfl) ?_
        refine lv_aload_n hx hb dX4_apartBy_13 rfl (lv_at hl 0 rfl) ?_
        refine lv_iload_n hx hb dX4_apartBy_14 rfl (lv_at hl 1 rfl) ?_
        refine lv_iload hx hb dX4_apartBy_15 (lv_at hl 4 rfl) ?_
        refine call0i (va_runV (As := [.int p1, .int v4_5]) (rest := [.int v3_5]) S (c_X4_strong l ad D s.heap.size σ p1 v4_5 (by omega) (by omega)) (cwV 2 S.2.2.2.2 gX4_apartBy_X4_strong rfl rfl rfl ⟨rfl, hd_X4_strong⟩ ⟨Nat.le_of_ble_eq_true rfl, Nat.le_of_ble_eq_true rfl⟩) (preV hK hN w (k := 0) (by decide) (eM_0 ad _) (q := (RX4, TX4, 25)) rfl) rfl rfl hl.1 rfl (lv_room (Nat.le_of_ble_eq_true rfl)) dX4_apartBy_17 ⟨Nat.zero_le _, Nat.zero_le _⟩) ?_
        refine lv_aload_n hx hb dX4_apartBy_20 rfl (lv_at hl 0 rfl) ?_
        refine lv_iload_n hx hb dX4_apartBy_21 rfl (lv_at hl 2 rfl) ?_
        refine lv_iload hx hb dX4_apartBy_22 (lv_at hl 4 rfl) ?_
        refine call0i (va_runV (As := [.int p2, .int v4_5]) (rest := [.int (f_X4_strong σ p1 v4_5), .int v3_5]) S (c_X4_strong l ad D s.heap.size σ p2 v4_5 (by omega) (by omega)) (cwV 2 S.2.2.2.2 gX4_apartBy_X4_strong rfl rfl rfl ⟨rfl, hd_X4_strong⟩ ⟨Nat.le_of_ble_eq_true rfl, Nat.le_of_ble_eq_true rfl⟩) (preV hK hN w (k := 0) (by decide) (eM_0 ad _) (q := (RX4, TX4, 25)) rfl) rfl rfl hl.1 rfl (lv_room (Nat.le_of_ble_eq_true rfl)) dX4_apartBy_24 ⟨Nat.zero_le _, Nat.zero_le _⟩) ?_
        refine call0i (va_runS (As := [.int (f_X4_strong σ p1 v4_5), .int (f_X4_strong σ p2 v4_5)]) (rest := [.int v3_5]) S (c_X4_off l (f_X4_strong σ p1 v4_5) (f_X4_strong σ p2 v4_5)) (va_cwS 2 S.2.2.2.2 gX4_apartBy_X4_off rfl rfl rfl hd_X4_off ⟨Nat.le_of_ble_eq_true rfl, Nat.le_of_ble_eq_true rfl⟩) pre0S rfl rfl hl.1 rfl (lv_room (Nat.le_of_ble_eq_true rfl)) dX4_apartBy_27 ⟨Nat.zero_le _, Nat.zero_le _⟩) ?_
        refine lv_iadd hx hb dX4_apartBy_30 ?_
        refine lv_istore_n (lv' := [(3, .int (v3_5 + (f_X4_off (f_X4_strong σ p1 v4_5) (f_X4_strong σ p2 v4_5)))), (0, .ref (ad 0)), (1, .int p1), (2, .int p2), (4, .int v4_5)]) hx hb dX4_apartBy_31 rfl hl (by decide) rfl (fun ls hl => ?_)
        refine lv_iinc (v := (v4_5 + 1)) (lv' := [(4, .int (v4_5 + 1)), (3, .int (v3_5 + (f_X4_off (f_X4_strong σ p1 v4_5) (f_X4_strong σ p2 v4_5)))), (0, .ref (ad 0)), (1, .int p1), (2, .int p2)]) hx hb dX4_apartBy_32 hl (k := 4) rfl rfl (by decide) rfl (fun ls hl => ?_)
        refine lv_goto (tgt := 5) hx hb dX4_apartBy_35 (by decide) ?_
        have b4_5 : (v4_5 + 1).toInt = v4_5.toInt + 1 := inc_toInt (by omega) (by omega)
        exact ih5 _ (v3_5 + (f_X4_off (f_X4_strong σ p1 v4_5) (f_X4_strong σ p2 v4_5))) (v4_5 + 1) (by omega) (by omega) hG hex5 ls (lv_sub hl [2, 3, 4, 1, 0] rfl)
  refine L5 200 _ 0 0 (by omega) (by omega) rfl (fun v3_5e hr5 ls hl => ?_) ls (lv_sub hl [2, 3, 4, 1, 0] rfl)
  rw [hr5] at hG
  refine lv_iload_n hx hb dX4_apartBy_38 rfl (lv_at hl 1 rfl) ?_
  exact end0i S hr hlocks hG dX4_apartBy_39
set_option maxHeartbeats 4000000 in
set_option maxRecDepth 100000 in
theorem c_X4_apart (l : Launch) (ad : Nat → Nat) (D : va_G) (sz : Nat) (σ : St) (p1 : Int32) (p2 : Int32) (hok : OkM σ) : Met l yX4_apart wsX4_apart ({ frames := 2, cells := 0, slots := 0, locals := 46 }) (PreW 18 (eM ad) ad D (tyM ad) σ sz ([.ref (ad 0), .int p1, .int p2] : List Value)) (Q0i (f_X4_apart σ p1 p2)) 0 0 N0 := by
  generalize hG : f_X4_apart σ p1 p2 = T
  refine headW (cc := cX4_apart) (maxL := 3) (ret := (some .int)) ([.ref (ad 0), .int p1, .int p2] : List Value) (by decide) rfl (Nat.le_of_ble_eq_true rfl) ?_
  intro p e s m below meth c S hr hlocks hK hN hsz w ls hl
  have S : CallFix p m c cX4_apart 3 s ([.ref (ad 0), .int p1, .int p2] : List Value).toArray wsX4_apart RX4 := S
  have hx := S.1
  have hb := S.2.1
  have z0 : (0 : Int32).toInt = 0 := by decide
  have z1 : (1 : Int32).toInt = 1 := by decide
  have hl : lv_has ls 3 [(0, .ref (ad 0)), (1, .int p1), (2, .int p2)] := hl
  have hinX4 : ∀ w ∈ wsX40, w ∈ wsX4_apart := (fun _ h => List.mem_cons_of_mem _ (List.mem_append_right _ h))
  have okf0 := hok.1
  have okf1 := hok.2.1
  have okf2 := hok.2.2.1
  have okf3 := hok.2.2.2.1
  have okf4 := hok.2.2.2.2.1
  have okf6 := hok.2.2.2.2.2.1
  have okf7 := hok.2.2.2.2.2.2.1
  have okf8 := hok.2.2.2.2.2.2.2
  rw [f_X4_apart] at hG
  refine lv_aload_n hx hb dX4_apart_0 rfl (lv_at hl 0 rfl) ?_
  refine lv_iload_n hx hb dX4_apart_1 rfl (lv_at hl 1 rfl) ?_
  refine call0i (va_runV (As := [.int p1]) (rest := []) S (c_X4_noSign l ad D s.heap.size σ p1) (cwV 1 S.2.2.2.2 gX4_apart_X4_noSign rfl rfl rfl ⟨rfl, hd_X4_noSign⟩ ⟨Nat.le_of_ble_eq_true rfl, Nat.le_of_ble_eq_true rfl⟩) (preV hK hN w (k := 0) (by decide) (eM_0 ad _) (q := (RX4, TX4, 25)) rfl) rfl rfl hl.1 rfl (lv_room (Nat.le_of_ble_eq_true rfl)) dX4_apart_2 ⟨Nat.zero_le _, Nat.zero_le _⟩) ?_
  refine lv_if_ne (tgt := 16) hx hb dX4_apart_5 (by decide) (fun c5 => ?_) (fun c5 => ?_)
  · rw [if_neg c5] at hG
    refine lv_iconst (v := (-1)) hx hb dX4_apart_16 (by decide) ?_
    refine lv_goto (tgt := 26) hx hb dX4_apart_17 (by decide) ?_
    exact end0i S hr hlocks hG dX4_apart_26
  · have t5 := bf_noSign_z c5
    rw [if_pos c5] at hG
    refine lv_aload_n hx hb dX4_apart_8 rfl (lv_at hl 0 rfl) ?_
    refine lv_iload_n hx hb dX4_apart_9 rfl (lv_at hl 2 rfl) ?_
    refine call0i (va_runV (As := [.int p2]) (rest := []) S (c_X4_noSign l ad D s.heap.size σ p2) (cwV 1 S.2.2.2.2 gX4_apart_X4_noSign rfl rfl rfl ⟨rfl, hd_X4_noSign⟩ ⟨Nat.le_of_ble_eq_true rfl, Nat.le_of_ble_eq_true rfl⟩) (preV hK hN w (k := 0) (by decide) (eM_0 ad _) (q := (RX4, TX4, 25)) rfl) rfl rfl hl.1 rfl (lv_room (Nat.le_of_ble_eq_true rfl)) dX4_apart_10 ⟨Nat.zero_le _, Nat.zero_le _⟩) ?_
    refine lv_if_eq (tgt := 20) hx hb dX4_apart_13 (by decide) (fun c13 => ?_) (fun c13 => ?_)
    · have t13 := bf_noSign_z c13
      rw [if_pos c13] at hG
      refine lv_aload_n hx hb dX4_apart_20 rfl (lv_at hl 0 rfl) ?_
      refine lv_iload_n hx hb dX4_apart_21 rfl (lv_at hl 1 rfl) ?_
      refine lv_iload_n hx hb dX4_apart_22 rfl (lv_at hl 2 rfl) ?_
      refine call0i (va_runV (As := [.int p1, .int p2]) (rest := []) S (c_X4_apartBy l ad D s.heap.size σ p1 p2 (by omega) (by omega)) (cwV 2 S.2.2.2.2 gX4_apart_X4_apartBy rfl rfl rfl ⟨rfl, hd_X4_apartBy⟩ ⟨Nat.le_of_ble_eq_true rfl, Nat.le_of_ble_eq_true rfl⟩) (preV hK hN w (k := 0) (by decide) (eM_0 ad _) (q := (RX4, TX4, 25)) rfl) rfl rfl hl.1 rfl (lv_room (Nat.le_of_ble_eq_true rfl)) dX4_apart_23 ⟨Nat.zero_le _, Nat.zero_le _⟩) ?_
      exact end0i S hr hlocks hG dX4_apart_26
    · rw [if_neg c13] at hG
      refine lv_iconst (v := (-1)) hx hb dX4_apart_16 (by decide) ?_
      refine lv_goto (tgt := 26) hx hb dX4_apart_17 (by decide) ?_
      exact end0i S hr hlocks hG dX4_apart_26
set_option maxHeartbeats 4000000 in
set_option maxRecDepth 100000 in
theorem c_X4_twins (l : Launch) (ad : Nat → Nat) (D : va_G) (sz : Nat) (σ : St) (p1 : Int32) (hok : OkM σ) : Met l yX4_twins wsX4_twins ({ frames := 2, cells := 0, slots := 0, locals := 46 }) (PreW 18 (eM ad) ad D (tyM ad) σ sz ([.ref (ad 0), .int p1] : List Value)) (Q0i (f_X4_twins σ p1)) 0 0 N0 := by
  generalize hG : f_X4_twins σ p1 = T
  refine headW (cc := cX4_twins) (maxL := 6) (ret := (some .int)) ([.ref (ad 0), .int p1] : List Value) (by decide) rfl (Nat.le_of_ble_eq_true rfl) ?_
  intro p e s m below meth c S hr hlocks hK hN hsz w ls hl
  have S : CallFix p m c cX4_twins 6 s ([.ref (ad 0), .int p1] : List Value).toArray wsX4_twins RX4 := S
  have hx := S.1
  have hb := S.2.1
  have z0 : (0 : Int32).toInt = 0 := by decide
  have z1 : (1 : Int32).toInt = 1 := by decide
  have hl : lv_has ls 6 [(0, .ref (ad 0)), (1, .int p1)] := hl
  have hinX4 : ∀ w ∈ wsX40, w ∈ wsX4_twins := (fun _ h => List.mem_cons_of_mem _ (List.mem_append_right _ h))
  have okf0 := hok.1
  have okf1 := hok.2.1
  have okf2 := hok.2.2.1
  have okf3 := hok.2.2.2.1
  have okf4 := hok.2.2.2.2.1
  have okf6 := hok.2.2.2.2.2.1
  have okf7 := hok.2.2.2.2.2.2.1
  have okf8 := hok.2.2.2.2.2.2.2
  rw [f_X4_twins] at hG
  refine lv_iload_n hx hb dX4_twins_0 rfl (lv_at hl 1 rfl) ?_
  refine lv_iconst (v := (-1)) hx hb dX4_twins_1 (by decide) ?_
  refine lv_icmp_ge (tgt := 7) hx hb dX4_twins_2 (by decide) (fun c2 => ?_) (fun c2 => ?_)
  · have t2 : -1 ≤ p1.toInt := qt_le c2
    rw [if_pos c2] at hG
    refine lv_iconst (v := 0) hx hb dX4_twins_7 (by decide) ?_
    refine lv_istore_n (lv' := [(2, .int 0), (0, .ref (ad 0)), (1, .int p1)]) hx hb dX4_twins_8 rfl hl (by decide) rfl (fun ls hl => ?_)
    refine lv_bipush (v := (-9)) hx hb dX4_twins_9 (by decide) ?_
    refine lv_istore_n (lv' := [(3, .int (-9)), (2, .int 0), (0, .ref (ad 0)), (1, .int p1)]) hx hb dX4_twins_11 rfl hl (by decide) rfl (fun ls hl => ?_)
    refine lv_iconst (v := 0) hx hb dX4_twins_12 (by decide) ?_
    refine lv_istore (lv' := [(4, .int 0), (3, .int (-9)), (2, .int 0), (0, .ref (ad 0)), (1, .int p1)]) hx hb dX4_twins_13 hl (by decide) rfl (fun ls hl => ?_)
    have L15 : ∀ (n : Nat) (res15 : Int32 × Int32), ∀ (v2_15 : Int32), ∀ (v3_15 : Int32), ∀ (v4_15 : Int32), ((0 ≤ v4_15.toInt ∧ v4_15.toInt ≤ 8)) → (8 - v4_15.toInt).toNat < n → (lp_X4_twins_15 σ p1 n v2_15 v3_15 v4_15) = res15 → (∀ (v2_15e : Int32), ∀ (v3_15e : Int32), res15 = (v2_15e, v3_15e) → ∀ ls : Array Slot, lv_has ls 6 [(0, .ref (ad 0)), (1, .int p1), (2, .int v2_15e), (3, .int v3_15e)] → W p l e (headSpec wsX4_twins ({ frames := 2, cells := 0, slots := 0, locals := 46 })).room s m ([.ref (ad 0), .int p1] : List Value).toArray below meth c s.heap [] 0 0 (MQ below (Q0i T) ([.ref (ad 0), .int p1] : List Value).toArray s 0 0 N0) (F0 m 90 ls [])) → ∀ ls : Array Slot, lv_has ls 6 [(0, .ref (ad 0)), (1, .int p1), (2, .int v2_15), (3, .int v3_15), (4, .int v4_15)] → W p l e (headSpec wsX4_twins ({ frames := 2, cells := 0, slots := 0, locals := 46 })).room s m ([.ref (ad 0), .int p1] : List Value).toArray below meth c s.heap [] 0 0 (MQ below (Q0i T) ([.ref (ad 0), .int p1] : List Value).toArray s 0 0 N0) (F0 m 15 ls []) := by
      intro n
      induction n with
      | zero => intro _ _ _ _ _ hm; exact absurd hm (Nat.not_lt_zero _)
      | succ n ih15 =>
        intro res15 v2_15 v3_15 v4_15 hI15 hm15 hG hex15 ls hl
        have i15_0 := hI15
        rw [lp_X4_twins_15] at hG
        refine lv_iload hx hb dX4_twins_15 (lv_at hl 4 rfl) ?_
        refine lv_aload_n hx hb dX4_twins_17 rfl (lv_at hl 0 rfl) ?_
        refine r_get (C := RX4) (T := TX4) (N := 25) S hK w (k := 0) (by decide) (eM_0 ad _) rfl hinX4 1 (by decide) (List.mem_of_getElem? (i := 1) rfl) rfl dX4_twins_18 ?_
        refine lv_icmp_ge (tgt := 90) hx hb dX4_twins_21 (by decide) (fun c21 => ?_) (fun c21 => ?_)
        · have t21 : (σ 0 1).toInt ≤ v4_15.toInt := qt_le c21
          rw [if_pos c21] at hG
          exact hex15 v2_15 v3_15 hG.symm ls (lv_sub hl [0, 1, 2, 3] rfl)
        · have t21 : v4_15.toInt < (σ 0 1).toInt := qt_nle c21
          rw [if_neg c21] at hG
          refine lv_iload hx hb dX4_twins_24 (lv_at hl 4 rfl) ?_
          refine lv_iconst (v := 1) hx hb dX4_twins_26 (by decide) ?_
          refine lv_iadd hx hb dX4_twins_27 ?_
          refine lv_istore (lv' := [(5, .int (v4_15 + 1)), (0, .ref (ad 0)), (1, .int p1), (2, .int v2_15), (3, .int v3_15), (4, .int v4_15)]) hx hb dX4_twins_28 hl (by decide) rfl (fun ls hl => ?_)
          have L30 : ∀ (n : Nat) (res30 : Int32 × Int32), ∀ (v2_30 : Int32), ∀ (v3_30 : Int32), ∀ (v5_30 : Int32), ((0 ≤ v5_30.toInt ∧ v5_30.toInt ≤ 8)) → (8 - v5_30.toInt).toNat < n → (lp_X4_twins_30 σ p1 v4_15 n v2_30 v3_30 v5_30) = res30 → (∀ (v2_30e : Int32), ∀ (v3_30e : Int32), res30 = (v2_30e, v3_30e) → ∀ ls : Array Slot, lv_has ls 6 [(0, .ref (ad 0)), (1, .int p1), (2, .int v2_30e), (3, .int v3_30e), (4, .int v4_15)] → W p l e (headSpec wsX4_twins ({ frames := 2, cells := 0, slots := 0, locals := 46 })).room s m ([.ref (ad 0), .int p1] : List Value).toArray below meth c s.heap [] 0 0 (MQ below (Q0i T) ([.ref (ad 0), .int p1] : List Value).toArray s 0 0 N0) (F0 m 84 ls [])) → ∀ ls : Array Slot, lv_has ls 6 [(0, .ref (ad 0)), (1, .int p1), (2, .int v2_30), (3, .int v3_30), (4, .int v4_15), (5, .int v5_30)] → W p l e (headSpec wsX4_twins ({ frames := 2, cells := 0, slots := 0, locals := 46 })).room s m ([.ref (ad 0), .int p1] : List Value).toArray below meth c s.heap [] 0 0 (MQ below (Q0i T) ([.ref (ad 0), .int p1] : List Value).toArray s 0 0 N0) (F0 m 30 ls []) := by
            intro n
            induction n with
            | zero => intro _ _ _ _ _ hm; exact absurd hm (Nat.not_lt_zero _)
            | succ n ih30 =>
              intro res30 v2_30 v3_30 v5_30 hI30 hm30 hG hex30 ls hl
              have i30_0 := hI30
              rw [lp_X4_twins_30] at hG
              refine lv_iload hx hb dX4_twins_30 (lv_at hl 5 rfl) ?_
              refine lv_aload_n hx hb dX4_twins_32 rfl (lv_at hl 0 rfl) ?_
              refine r_get (C := RX4) (T := TX4) (N := 25) S hK w (k := 0) (by decide) (eM_0 ad _) rfl hinX4 1 (by decide) (List.mem_of_getElem? (i := 1) rfl) rfl dX4_twins_33 ?_
              refine lv_icmp_ge (tgt := 84) hx hb dX4_twins_36 (by decide) (fun c36 => ?_) (fun c36 => ?_)
              · have t36 : (σ 0 1).toInt ≤ v5_30.toInt := qt_le c36
                rw [if_pos c36] at hG
                exact hex30 v2_30 v3_30 hG.symm ls (lv_sub hl [0, 1, 2, 3, 4] rfl)
              · have t36 : v5_30.toInt < (σ 0 1).toInt := qt_nle c36
                rw [if_neg c36] at hG
                refine lv_bipush (v := 8) hx hb dX4_twins_39 (by decide) ?_
                refine lv_aload_n hx hb dX4_twins_41 rfl (lv_at hl 0 rfl) ?_
                refine lv_iload hx hb dX4_twins_42 (lv_at hl 4 rfl) ?_
                refine lv_iload hx hb dX4_twins_44 (lv_at hl 5 rfl) ?_
                refine call0i (va_runV (As := [.int v4_15, .int v5_30]) (rest := [.int 8]) S (c_X4_apartBy l ad D s.heap.size σ v4_15 v5_30 (by omega) (by omega)) (cwV 2 S.2.2.2.2 gX4_twins_X4_apartBy rfl rfl rfl ⟨rfl, hd_X4_apartBy⟩ ⟨Nat.le_of_ble_eq_true rfl, Nat.le_of_ble_eq_true rfl⟩) (preV hK hN w (k := 0) (by decide) (eM_0 ad _) (q := (RX4, TX4, 25)) rfl) rfl rfl hl.1 rfl (lv_room (Nat.le_of_ble_eq_true rfl)) dX4_twins_46 ⟨Nat.zero_le _, Nat.zero_le _⟩) ?_
                refine lv_imul hx hb dX4_twins_49 ?_
                refine lv_aload_n hx hb dX4_twins_50 rfl (lv_at hl 0 rfl) ?_
                refine r_get (C := RX4) (T := TX4) (N := 25) S hK w (k := 0) (by decide) (eM_0 ad _) rfl hinX4 3 (by decide) (List.mem_of_getElem? (i := 2) rfl) rfl dX4_twins_51 ?_
                refine lv_icmp_gt (tgt := 78) hx hb dX4_twins_54 (by decide) (fun c54 => ?_) (fun c54 => ?_)
                · have t54 : (σ 0 3).toInt < (8 * (f_X4_apartBy σ v4_15 v5_30)).toInt := qt_lt c54
                  rw [if_pos c54] at hG
                  refine lv_iinc (v := (v5_30 + 1)) (lv' := [(5, .int (v5_30 + 1)), (0, .ref (ad 0)), (1, .int p1), (2, .int v2_30), (3, .int v3_30), (4, .int v4_15)]) hx hb dX4_twins_78 hl (k := 5) rfl rfl (by decide) rfl (fun ls hl => ?_)
                  refine lv_goto (tgt := 30) hx hb dX4_twins_81 (by decide) ?_
                  have b5_30 : (v5_30 + 1).toInt = v5_30.toInt + 1 := inc_toInt (by omega) (by omega)
                  exact ih30 _ v2_30 v3_30 (v5_30 + 1) (by omega) (by omega) hG hex30 ls (lv_sub hl [1, 2, 3, 4, 5, 0] rfl)
                · have t54 : (8 * (f_X4_apartBy σ v4_15 v5_30)).toInt ≤ (σ 0 3).toInt := qt_nlt c54
                  rw [if_neg c54] at hG
                  refine lv_iload_n hx hb dX4_twins_57 rfl (lv_at hl 2 rfl) ?_
                  refine lv_iload_n hx hb dX4_twins_58 rfl (lv_at hl 1 rfl) ?_
                  have J59_74 : ∀ (k0_59_74 : Int32), (lp_X4_twins_30 σ p1 v4_15 n (v2_30 + 1) k0_59_74 (v5_30 + 1)) = res30 → ∀ ls : Array Slot, lv_has ls 6 [(0, .ref (ad 0)), (1, .int p1), (2, .int v2_30), (4, .int v4_15), (5, .int v5_30)] → W p l e (headSpec wsX4_twins ({ frames := 2, cells := 0, slots := 0, locals := 46 })).room s m ([.ref (ad 0), .int p1] : List Value).toArray below meth c s.heap [] 0 0 (MQ below (Q0i T) ([.ref (ad 0), .int p1] : List Value).toArray s 0 0 N0) (F0 m 74 ls [.int k0_59_74]) := by
                    intro k0_59_74 hG ls hl
                    refine lv_istore_n (lv' := [(3, .int k0_59_74), (0, .ref (ad 0)), (1, .int p1), (2, .int v2_30), (4, .int v4_15), (5, .int v5_30)]) hx hb dX4_twins_74 rfl hl (by decide) rfl (fun ls hl => ?_)
                    refine lv_iinc (v := (v2_30 + 1)) (lv' := [(2, .int (v2_30 + 1)), (3, .int k0_59_74), (0, .ref (ad 0)), (1, .int p1), (4, .int v4_15), (5, .int v5_30)]) hx hb dX4_twins_75 hl (k := 3) rfl rfl (by decide) rfl (fun ls hl => ?_)
                    refine lv_iinc (v := (v5_30 + 1)) (lv' := [(5, .int (v5_30 + 1)), (2, .int (v2_30 + 1)), (3, .int k0_59_74), (0, .ref (ad 0)), (1, .int p1), (4, .int v4_15)]) hx hb dX4_twins_78 hl (k := 5) rfl rfl (by decide) rfl (fun ls hl => ?_)
                    refine lv_goto (tgt := 30) hx hb dX4_twins_81 (by decide) ?_
                    have b5_30 : (v5_30 + 1).toInt = v5_30.toInt + 1 := inc_toInt (by omega) (by omega)
                    exact ih30 _ (v2_30 + 1) k0_59_74 (v5_30 + 1) (by omega) (by omega) hG hex30 ls (lv_sub hl [3, 4, 1, 2, 5, 0] rfl)
                  refine lv_icmp_ne (tgt := 73) hx hb dX4_twins_59 (by decide) (fun c59 => ?_) (fun c59 => ?_)
                  · have t59 : v2_30.toInt ≠ p1.toInt := qt_ne c59
                    simp only [if_neg c59] at hG
                    refine lv_iload_n hx hb dX4_twins_73 rfl (lv_at hl 3 rfl) ?_
                    exact J59_74 v3_30 hG ls (lv_sub hl [0, 1, 2, 4, 5] rfl)
                  · have t59 : v2_30.toInt = p1.toInt := qt_eq c59
                    simp only [if_pos c59] at hG
                    refine lv_bipush (v := 10) hx hb dX4_twins_62 (by decide) ?_
                    refine lv_iload hx hb dX4_twins_64 (lv_at hl 4 rfl) ?_
                    refine lv_imul hx hb dX4_twins_66 ?_
                    refine lv_iload hx hb dX4_twins_67 (lv_at hl 5 rfl) ?_
                    refine lv_iadd hx hb dX4_twins_69 ?_
                    refine lv_goto (tgt := 74) hx hb dX4_twins_70 (by decide) ?_
                    exact J59_74 ((10 * v4_15) + v5_30) hG ls (lv_sub hl [0, 1, 2, 4, 5] rfl)
          have e30 := inc_toInt (a := v4_15) (by omega) (by omega)
          refine L30 200 _ v2_15 v3_15 (v4_15 + 1) (by omega) (by omega) rfl (fun v2_30e v3_30e hr30 ls hl => ?_) ls (lv_sub hl [1, 2, 3, 4, 5, 0] rfl)
          rw [hr30] at hG
          dsimp only at hG
          refine lv_iinc (v := (v4_15 + 1)) (lv' := [(4, .int (v4_15 + 1)), (0, .ref (ad 0)), (1, .int p1), (2, .int v2_30e), (3, .int v3_30e)]) hx hb dX4_twins_84 hl (k := 4) rfl rfl (by decide) rfl (fun ls hl => ?_)
          refine lv_goto (tgt := 15) hx hb dX4_twins_87 (by decide) ?_
          have b4_15 : (v4_15 + 1).toInt = v4_15.toInt + 1 := inc_toInt (by omega) (by omega)
          exact ih15 _ v2_30e v3_30e (v4_15 + 1) (by omega) (by omega) hG hex15 ls (lv_sub hl [1, 2, 3, 4, 0] rfl)
    refine L15 200 _ 0 (-9) 0 (by omega) (by omega) rfl (fun v2_15e v3_15e hr15 ls hl => ?_) ls (lv_sub hl [3, 4, 2, 1, 0] rfl)
    rw [hr15] at hG
    dsimp only at hG
    refine lv_iload_n hx hb dX4_twins_90 rfl (lv_at hl 1 rfl) ?_
    refine lv_if_ge (tgt := 98) hx hb dX4_twins_91 (by decide) (fun c91 => ?_) (fun c91 => ?_)
    · have t91 : 0 ≤ p1.toInt := qt_le c91
      rw [if_pos c91] at hG
      refine lv_iload_n hx hb dX4_twins_98 rfl (lv_at hl 3 rfl) ?_
      exact end0i S hr hlocks hG dX4_twins_99
    · have t91 : p1.toInt < 0 := qt_nle c91
      rw [if_neg c91] at hG
      refine lv_iload_n hx hb dX4_twins_94 rfl (lv_at hl 2 rfl) ?_
      refine lv_goto (tgt := 99) hx hb dX4_twins_95 (by decide) ?_
      exact end0i S hr hlocks hG dX4_twins_99
  · have t2 : p1.toInt < -1 := qt_nle c2
    rw [if_neg c2] at hG
    refine lv_iconst (v := (-1)) hx hb dX4_twins_5 (by decide) ?_
    exact end0i S hr hlocks hG dX4_twins_6
set_option maxHeartbeats 4000000 in
set_option maxRecDepth 100000 in
theorem c_X4_isTaken (l : Launch) (ad : Nat → Nat) (D : va_G) (sz : Nat) (σ : St) (p1 : Int32) (hx1 : 0 ≤ p1.toInt ∧ p1.toInt < 8) : Met l yX4_isTaken wsX4_isTaken ({ frames := 1, cells := 0, slots := 0, locals := 22 }) (PreW 18 (eM ad) ad D (tyM ad) σ sz ([.ref (ad 0), .int p1] : List Value)) (Q0i (f_X4_isTaken σ p1)) 0 0 N0 := by
  generalize hG : f_X4_isTaken σ p1 = T
  refine headW (cc := cX4_isTaken) (maxL := 4) (ret := (some .boolean)) ([.ref (ad 0), .int p1] : List Value) (by decide) rfl (Nat.le_of_ble_eq_true rfl) ?_
  intro p e s m below meth c S hr hlocks hK hN hsz w ls hl
  have S : CallFix p m c cX4_isTaken 4 s ([.ref (ad 0), .int p1] : List Value).toArray wsX4_isTaken RX4 := S
  have hx := S.1
  have hb := S.2.1
  have z0 : (0 : Int32).toInt = 0 := by decide
  have z1 : (1 : Int32).toInt = 1 := by decide
  have hl : lv_has ls 4 [(0, .ref (ad 0)), (1, .int p1)] := hl
  have hinX4 : ∀ w ∈ wsX40, w ∈ wsX4_isTaken := (fun _ h => List.mem_cons_of_mem _ (List.mem_append_right _ h))
  rw [f_X4_isTaken] at hG
  refine lv_iconst (v := 0) hx hb dX4_isTaken_0 (by decide) ?_
  refine lv_istore_n (lv' := [(2, .int 0), (0, .ref (ad 0)), (1, .int p1)]) hx hb dX4_isTaken_1 rfl hl (by decide) rfl (fun ls hl => ?_)
  refine lv_iconst (v := 0) hx hb dX4_isTaken_2 (by decide) ?_
  refine lv_istore_n (lv' := [(3, .int 0), (2, .int 0), (0, .ref (ad 0)), (1, .int p1)]) hx hb dX4_isTaken_3 rfl hl (by decide) rfl (fun ls hl => ?_)
  have L4 : ∀ (n : Nat) (res4 : Int32), ∀ (v2_4 : Int32), ∀ (v3_4 : Int32), ((0 ≤ v3_4.toInt ∧ v3_4.toInt ≤ 9)) → (9 - v3_4.toInt).toNat < n → (lp_X4_isTaken_4 σ p1 n v2_4 v3_4) = res4 → (∀ (v2_4e : Int32), res4 = v2_4e → ∀ ls : Array Slot, lv_has ls 4 [(0, .ref (ad 0)), (2, .int v2_4e)] → W p l e (headSpec wsX4_isTaken ({ frames := 1, cells := 0, slots := 0, locals := 22 })).room s m ([.ref (ad 0), .int p1] : List Value).toArray below meth c s.heap [] 0 0 (MQ below (Q0i T) ([.ref (ad 0), .int p1] : List Value).toArray s 0 0 N0) (F0 m 34 ls [])) → ∀ ls : Array Slot, lv_has ls 4 [(0, .ref (ad 0)), (1, .int p1), (2, .int v2_4), (3, .int v3_4)] → W p l e (headSpec wsX4_isTaken ({ frames := 1, cells := 0, slots := 0, locals := 22 })).room s m ([.ref (ad 0), .int p1] : List Value).toArray below meth c s.heap [] 0 0 (MQ below (Q0i T) ([.ref (ad 0), .int p1] : List Value).toArray s 0 0 N0) (F0 m 4 ls []) := by
    intro n
    induction n with
    | zero => intro _ _ _ _ hm; exact absurd hm (Nat.not_lt_zero _)
    | succ n ih4 =>
      intro res4 v2_4 v3_4 hI4 hm4 hG hex4 ls hl
      have i4_0 := hI4
      rw [lp_X4_isTaken_4] at hG
      refine lv_iload_n hx hb dX4_isTaken_4 rfl (lv_at hl 3 rfl) ?_
      refine lv_bipush (v := 9) hx hb dX4_isTaken_5 (by decide) ?_
      refine lv_icmp_ge (tgt := 34) hx hb dX4_isTaken_7 (by decide) (fun c7 => ?_) (fun c7 => ?_)
      · have t7 : 9 ≤ v3_4.toInt := qt_le c7
        rw [if_pos c7] at hG
        exact hex4 v2_4 hG.symm ls (lv_sub hl [0, 2] rfl)
      · have t7 : v3_4.toInt < 9 := qt_nle c7
        rw [if_neg c7] at hG
        refine lv_iload_n hx hb dX4_isTaken_10 rfl (lv_at hl 2 rfl) ?_
        refine lv_aload_n hx hb dX4_isTaken_11 rfl (lv_at hl 0 rfl) ?_
        refine r_get (C := RX4) (T := TX4) (N := 25) S hK w (k := 0) (by decide) (eM_0 ad _) rfl hinX4 18 (by decide) (List.mem_of_getElem? (i := 1) rfl) rfl dX4_isTaken_12 ?_
        refine lv_iload_n hx hb dX4_isTaken_15 rfl (lv_at hl 3 rfl) ?_
        have g16 : vp_in v3_4 9 := vpi (by omega) (by omega)
        refine r_iald (cA := ad 100) (N := 9) S hK w (k := 12) (by decide) (fun f => rfl) rfl g16 dX4_isTaken_16 ?_
        refine lv_aload_n hx hb dX4_isTaken_17 rfl (lv_at hl 0 rfl) ?_
        refine lv_iload_n hx hb dX4_isTaken_18 rfl (lv_at hl 1 rfl) ?_
        refine lv_iload_n hx hb dX4_isTaken_19 rfl (lv_at hl 3 rfl) ?_
        refine call0i (va_runV (As := [.int p1, .int v3_4]) (rest := [.int (σ 12 (ix v3_4)), .int v2_4]) S (c_X4_strong l ad D s.heap.size σ p1 v3_4 (by omega) (by omega)) (cwV 2 S.2.2.2.2 gX4_isTaken_X4_strong rfl rfl rfl ⟨rfl, hd_X4_strong⟩ ⟨Nat.le_of_ble_eq_true rfl, Nat.le_of_ble_eq_true rfl⟩) (preV hK hN w (k := 0) (by decide) (eM_0 ad _) (q := (RX4, TX4, 25)) rfl) rfl rfl hl.1 rfl (lv_room (Nat.le_of_ble_eq_true rfl)) dX4_isTaken_20 ⟨Nat.zero_le _, Nat.zero_le _⟩) ?_
        refine call0i (va_runS (As := [.int (σ 12 (ix v3_4)), .int (f_X4_strong σ p1 v3_4)]) (rest := [.int v2_4]) S (c_X4_off l (σ 12 (ix v3_4)) (f_X4_strong σ p1 v3_4)) (va_cwS 2 S.2.2.2.2 gX4_isTaken_X4_off rfl rfl rfl hd_X4_off ⟨Nat.le_of_ble_eq_true rfl, Nat.le_of_ble_eq_true rfl⟩) pre0S rfl rfl hl.1 rfl (lv_room (Nat.le_of_ble_eq_true rfl)) dX4_isTaken_23 ⟨Nat.zero_le _, Nat.zero_le _⟩) ?_
        refine lv_iadd hx hb dX4_isTaken_26 ?_
        refine lv_istore_n (lv' := [(2, .int (v2_4 + (f_X4_off (σ 12 (ix v3_4)) (f_X4_strong σ p1 v3_4)))), (0, .ref (ad 0)), (1, .int p1), (3, .int v3_4)]) hx hb dX4_isTaken_27 rfl hl (by decide) rfl (fun ls hl => ?_)
        refine lv_iinc (v := (v3_4 + 1)) (lv' := [(3, .int (v3_4 + 1)), (2, .int (v2_4 + (f_X4_off (σ 12 (ix v3_4)) (f_X4_strong σ p1 v3_4)))), (0, .ref (ad 0)), (1, .int p1)]) hx hb dX4_isTaken_28 hl (k := 3) rfl rfl (by decide) rfl (fun ls hl => ?_)
        refine lv_goto (tgt := 4) hx hb dX4_isTaken_31 (by decide) ?_
        have b3_4 : (v3_4 + 1).toInt = v3_4.toInt + 1 := inc_toInt (by omega) (by omega)
        exact ih4 _ (v2_4 + (f_X4_off (σ 12 (ix v3_4)) (f_X4_strong σ p1 v3_4))) (v3_4 + 1) (by omega) (by omega) hG hex4 ls (lv_sub hl [2, 3, 1, 0] rfl)
  refine L4 200 _ 0 0 (by omega) (by omega) rfl (fun v2_4e hr4 ls hl => ?_) ls (lv_sub hl [2, 3, 1, 0] rfl)
  rw [hr4] at hG
  refine lv_bipush (v := 8) hx hb dX4_isTaken_34 (by decide) ?_
  refine lv_iload_n hx hb dX4_isTaken_36 rfl (lv_at hl 1 rfl) ?_
  refine lv_imul hx hb dX4_isTaken_37 ?_
  refine lv_aload_n hx hb dX4_isTaken_38 rfl (lv_at hl 0 rfl) ?_
  refine r_get (C := RX4) (T := TX4) (N := 25) S hK w (k := 0) (by decide) (eM_0 ad _) rfl hinX4 3 (by decide) (List.mem_of_getElem? (i := 2) rfl) rfl dX4_isTaken_39 ?_
  refine lv_icmp_gt (tgt := 49) hx hb dX4_isTaken_42 (by decide) (fun c42 => ?_) (fun c42 => ?_)
  · have t42 : (σ 0 3).toInt < (8 * v2_4e).toInt := qt_lt c42
    rw [if_pos c42] at hG
    refine lv_iconst (v := 0) hx hb dX4_isTaken_49 (by decide) ?_
    exact end0z S hr hlocks (Or.inl rfl) hG dX4_isTaken_50
  · have t42 : (8 * v2_4e).toInt ≤ (σ 0 3).toInt := qt_nlt c42
    rw [if_neg c42] at hG
    refine lv_iconst (v := 1) hx hb dX4_isTaken_45 (by decide) ?_
    refine lv_goto (tgt := 50) hx hb dX4_isTaken_46 (by decide) ?_
    exact end0z S hr hlocks (Or.inr rfl) hG dX4_isTaken_50
set_option maxHeartbeats 4000000 in
set_option maxRecDepth 100000 in
theorem c_X4_bits (l : Launch) (p1 : Int32) (hb1 : p1.toInt ≤ 1024) : Met l yX4_bits wsX4_bits ({ frames := 0, cells := 0, slots := 0, locals := 0 }) (Pre0 ([.int p1] : List Value)) (Q0i (f_X4_bits p1)) 0 0 N0 := by
  generalize hG : f_X4_bits p1 = T
  refine head0 (cc := cX4_bits) (maxL := 3) (ret := (some .int)) ([.int p1] : List Value) (by decide) rfl (Nat.le_of_ble_eq_true rfl) ?_
  intro p e s m below meth c S hr hlocks ls hl
  have S : CallFix p m c cX4_bits 3 s ([.int p1] : List Value).toArray wsX4_bits RX4 := S
  have hx := S.1
  have hb := S.2.1
  have z0 : (0 : Int32).toInt = 0 := by decide
  have z1 : (1 : Int32).toInt = 1 := by decide
  have hl : lv_has ls 3 [(0, .int p1)] := hl
  rw [f_X4_bits] at hG
  refine lv_iconst (v := 0) hx hb dX4_bits_0 (by decide) ?_
  refine lv_istore_n (lv' := [(1, .int 0), (0, .int p1)]) hx hb dX4_bits_1 rfl hl (by decide) rfl (fun ls hl => ?_)
  refine lv_iload_n hx hb dX4_bits_2 rfl (lv_at hl 1 rfl) ?_
  refine lv_istore_n (lv' := [(2, .int p1), (1, .int 0), (0, .int p1)]) hx hb dX4_bits_3 rfl hl (by decide) rfl (fun ls hl => ?_)
  have L4 : ∀ (n : Nat) (res4 : Int32), ∀ (v1_4 : Int32), ∀ (v2_4 : Int32), ((v2_4.toInt ≤ 1024)) → v2_4.toInt.toNat < n → (lp_X4_bits_4 n v1_4 v2_4) = res4 → (∀ (v1_4e : Int32), res4 = v1_4e → ∀ ls : Array Slot, lv_has ls 3 [(1, .int v1_4e)] → W p l e (headSpec wsX4_bits ({ frames := 0, cells := 0, slots := 0, locals := 0 })).room s m ([.int p1] : List Value).toArray below meth c s.heap [] 0 0 (MQ below (Q0i T) ([.int p1] : List Value).toArray s 0 0 N0) (F0 m 21 ls [])) → ∀ ls : Array Slot, lv_has ls 3 [(1, .int v1_4), (2, .int v2_4)] → W p l e (headSpec wsX4_bits ({ frames := 0, cells := 0, slots := 0, locals := 0 })).room s m ([.int p1] : List Value).toArray below meth c s.heap [] 0 0 (MQ below (Q0i T) ([.int p1] : List Value).toArray s 0 0 N0) (F0 m 4 ls []) := by
    intro n
    induction n with
    | zero => intro _ _ _ _ hm; exact absurd hm (Nat.not_lt_zero _)
    | succ n ih4 =>
      intro res4 v1_4 v2_4 hI4 hm4 hG hex4 ls hl
      have i4_0 := hI4
      rw [lp_X4_bits_4] at hG
      refine lv_iload_n hx hb dX4_bits_4 rfl (lv_at hl 1 rfl) ?_
      refine lv_if_le (tgt := 21) hx hb dX4_bits_5 (by decide) (fun c5 => ?_) (fun c5 => ?_)
      · have t5 : v2_4.toInt ≤ 0 := qt_le c5
        rw [if_pos c5] at hG
        exact hex4 v1_4 hG.symm ls (lv_sub hl [0] rfl)
      · have t5 : 0 < v2_4.toInt := qt_nle c5
        rw [if_neg c5] at hG
        refine lv_iload_n hx hb dX4_bits_8 rfl (lv_at hl 0 rfl) ?_
        refine lv_iload_n hx hb dX4_bits_9 rfl (lv_at hl 1 rfl) ?_
        refine lv_iconst (v := 1) hx hb dX4_bits_10 (by decide) ?_
        refine lv_iand hx hb dX4_bits_11 ?_
        refine lv_iadd hx hb dX4_bits_12 ?_
        refine lv_istore_n (lv' := [(1, .int (v1_4 + (v2_4 &&& 1))), (2, .int v2_4)]) hx hb dX4_bits_13 rfl hl (by decide) rfl (fun ls hl => ?_)
        refine lv_iload_n hx hb dX4_bits_14 rfl (lv_at hl 1 rfl) ?_
        refine lv_iconst (v := 1) hx hb dX4_bits_15 (by decide) ?_
        refine lv_ishr hx hb dX4_bits_16 ?_
        refine lv_istore_n (lv' := [(2, .int (v2_4 >>> ((1 : Int32) &&& 31))), (1, .int (v1_4 + (v2_4 &&& 1)))]) hx hb dX4_bits_17 rfl hl (by decide) rfl (fun ls hl => ?_)
        refine lv_goto (tgt := 4) hx hb dX4_bits_18 (by decide) ?_
        have s2 := shr1 (a := v2_4) (by omega)
        exact ih4 _ (v1_4 + (v2_4 &&& 1)) (v2_4 >>> ((1 : Int32) &&& 31)) (by omega) (by omega) hG hex4 ls (lv_sub hl [1, 0] rfl)
  refine L4 1100 _ 0 p1 (by omega) (by omega) rfl (fun v1_4e hr4 ls hl => ?_) ls (lv_sub hl [1, 0] rfl)
  rw [hr4] at hG
  refine lv_iload_n hx hb dX4_bits_21 rfl (lv_at hl 0 rfl) ?_
  exact end0i S hr hlocks hG dX4_bits_22
set_option maxHeartbeats 4000000 in
set_option maxRecDepth 100000 in
theorem c_X4_forges (l : Launch) (ad : Nat → Nat) (D : va_G) (sz : Nat) (σ : St) (p1 : Int32) (p2 : Int32) (p3 : Int32) (p4 : Int32) (p5 : Int32) (hx1 : 0 ≤ p1.toInt ∧ p1.toInt < 8) (hx2 : 0 ≤ p2.toInt ∧ p2.toInt < 8) (hn : 0 ≤ p4.toInt ∧ p4.toInt ≤ 10) (hst : HSM σ p3 p4) : Met l yX4_forges wsX4_forges ({ frames := 2, cells := 0, slots := 0, locals := 45 }) (PreW 18 (eM ad) ad D (tyM ad) σ sz ([.ref (ad 0), .int p1, .int p2, .int p3, .int p4, .int p5] : List Value)) (QWi 18 (eM ad) ad D (f_X4_forges σ p1 p2 p3 p4 p5) (CA 18 ad sz)) 0 0 (CA 18 ad sz) := by
  generalize hG : f_X4_forges σ p1 p2 p3 p4 p5 = T
  refine headW (cc := cX4_forges) (maxL := 7) (ret := (some .boolean)) ([.ref (ad 0), .int p1, .int p2, .int p3, .int p4, .int p5] : List Value) (by decide) rfl (Nat.le_of_ble_eq_true rfl) ?_
  intro p e s m below meth c S hr hlocks hK hN hsz w ls hl
  have S : CallFix p m c cX4_forges 7 s ([.ref (ad 0), .int p1, .int p2, .int p3, .int p4, .int p5] : List Value).toArray wsX4_forges RX4 := S
  have hx := S.1
  have hb := S.2.1
  have z0 : (0 : Int32).toInt = 0 := by decide
  have z1 : (1 : Int32).toInt = 1 := by decide
  have hl : lv_has ls 7 [(0, .ref (ad 0)), (1, .int p1), (2, .int p2), (3, .int p3), (4, .int p4), (5, .int p5)] := hl
  have hinX4 : ∀ w ∈ wsX40, w ∈ wsX4_forges := (fun _ h => List.mem_cons_of_mem _ (List.mem_append_right _ h))
  rw [f_X4_forges] at hG
  refine lv_iconst (v := 0) hx hb dX4_forges_0 (by decide) ?_
  refine lv_istore (lv' := [(6, .int 0), (0, .ref (ad 0)), (1, .int p1), (2, .int p2), (3, .int p3), (4, .int p4), (5, .int p5)]) hx hb dX4_forges_1 hl (by decide) rfl (fun ls hl => ?_)
  have L3 : ∀ (n : Nat) (res3 : St), ∀ (v6_3 : Int32), ∀ (S_3 : St), ((0 ≤ v6_3.toInt ∧ v6_3.toInt ≤ 9) ∧ (S_3 16 = σ 16)) → (9 - v6_3.toInt).toNat < n → (lp_X4_forges_3 p1 p2 p3 p4 p5 n v6_3 S_3) = res3 → (∀ (S_3e : St), (S_3e 16 = σ 16) → res3 = S_3e → ∀ (H : Heap) (locs : List Loc), CW 18 (eM ad) ad D (CA 18 ad sz) s.heap S_3e H locs → ∀ ls : Array Slot, lv_has ls 7 [(0, .ref (ad 0)), (2, .int p2), (3, .int p3), (4, .int p4), (5, .int p5)] → W p l e (headSpec wsX4_forges ({ frames := 2, cells := 0, slots := 0, locals := 45 })).room s m ([.ref (ad 0), .int p1, .int p2, .int p3, .int p4, .int p5] : List Value).toArray below meth c H locs 0 0 (MQ below (QWi 18 (eM ad) ad D T (CA 18 ad sz)) ([.ref (ad 0), .int p1, .int p2, .int p3, .int p4, .int p5] : List Value).toArray s 0 0 (CA 18 ad sz)) (F0 m 30 ls [])) → ∀ (H : Heap) (locs : List Loc), CW 18 (eM ad) ad D (CA 18 ad sz) s.heap S_3 H locs → ∀ ls : Array Slot, lv_has ls 7 [(0, .ref (ad 0)), (1, .int p1), (2, .int p2), (3, .int p3), (4, .int p4), (5, .int p5), (6, .int v6_3)] → W p l e (headSpec wsX4_forges ({ frames := 2, cells := 0, slots := 0, locals := 45 })).room s m ([.ref (ad 0), .int p1, .int p2, .int p3, .int p4, .int p5] : List Value).toArray below meth c H locs 0 0 (MQ below (QWi 18 (eM ad) ad D T (CA 18 ad sz)) ([.ref (ad 0), .int p1, .int p2, .int p3, .int p4, .int p5] : List Value).toArray s 0 0 (CA 18 ad sz)) (F0 m 3 ls []) := by
    intro n
    induction n with
    | zero => intro _ _ _ _ hm; exact absurd hm (Nat.not_lt_zero _)
    | succ n ih3 =>
      intro res3 v6_3 S_3 hI3 hm3 hG hex3 H locs w ls hl
      obtain ⟨i3_0, i3_1⟩ := id hI3
      rw [lp_X4_forges_3] at hG
      refine lv_iload hx hb dX4_forges_3 (lv_at hl 6 rfl) ?_
      refine lv_bipush (v := 9) hx hb dX4_forges_5 (by decide) ?_
      refine lv_icmp_ge (tgt := 30) hx hb dX4_forges_7 (by decide) (fun c7 => ?_) (fun c7 => ?_)
      · have t7 : 9 ≤ v6_3.toInt := qt_le c7
        rw [if_pos c7] at hG
        exact hex3 S_3 i3_1 hG.symm _ _ w ls (lv_sub hl [0, 2, 3, 4, 5] rfl)
      · have t7 : v6_3.toInt < 9 := qt_nle c7
        rw [if_neg c7] at hG
        refine lv_aload_n hx hb dX4_forges_10 rfl (lv_at hl 0 rfl) ?_
        refine r_get (C := RX4) (T := TX4) (N := 25) S hK w (k := 0) (by decide) (eM_0 ad _) rfl hinX4 18 (by decide) (List.mem_of_getElem? (i := 1) rfl) rfl dX4_forges_11 ?_
        refine lv_iload hx hb dX4_forges_14 (lv_at hl 6 rfl) ?_
        refine lv_aload_n hx hb dX4_forges_16 rfl (lv_at hl 0 rfl) ?_
        refine lv_iload_n hx hb dX4_forges_17 rfl (lv_at hl 1 rfl) ?_
        refine lv_iload hx hb dX4_forges_18 (lv_at hl 6 rfl) ?_
        refine call0i (va_runV (As := [.int p1, .int v6_3]) (rest := [.int v6_3, .ref (ad 12)]) S (c_X4_strong l ad D H.size S_3 p1 v6_3 (by omega) (by omega)) (cwV 2 S.2.2.2.2 gX4_forges_X4_strong rfl rfl rfl ⟨rfl, hd_X4_strong⟩ ⟨Nat.le_of_ble_eq_true rfl, Nat.le_of_ble_eq_true rfl⟩) (preV hK hN w (k := 0) (by decide) (eM_0 ad _) (q := (RX4, TX4, 25)) rfl) rfl rfl hl.1 rfl (lv_room (Nat.le_of_ble_eq_true rfl)) dX4_forges_20 ⟨Nat.zero_le _, Nat.zero_le _⟩) ?_
        have g23 : vp_in v6_3 9 := vpi (by omega) (by omega)
        refine r_iast (cA := ad 100) (N := 9) S hK w (k := 12) (by decide) (fun f => rfl) rfl g23 dX4_forges_23 (fun H locs w => ?_)
        refine lv_iinc (v := (v6_3 + 1)) (lv' := [(6, .int (v6_3 + 1)), (0, .ref (ad 0)), (1, .int p1), (2, .int p2), (3, .int p3), (4, .int p4), (5, .int p5)]) hx hb dX4_forges_24 hl (k := 6) rfl rfl (by decide) rfl (fun ls hl => ?_)
        refine lv_goto (tgt := 3) hx hb dX4_forges_27 (by decide) ?_
        have b6_3 : (v6_3 + 1).toInt = v6_3.toInt + 1 := inc_toInt (by omega) (by omega)
        exact ih3 _ (v6_3 + 1) (u2 S_3 12 (ix v6_3) (f_X4_strong S_3 p1 v6_3)) ⟨(by omega), i3_1⟩ (by omega) hG hex3 _ _ w ls (lv_sub hl [1, 2, 3, 4, 5, 6, 0] rfl)
  refine L3 200 _ 0 σ ⟨(by omega), rfl⟩ (by omega) rfl (fun S_3e x3_0 hr3 H locs w ls hl => ?_) _ _ w ls (lv_sub hl [1, 2, 3, 4, 5, 6, 0] rfl)
  rw [hr3] at hG
  refine lv_iconst (v := 0) hx hb dX4_forges_30 (by decide) ?_
  refine lv_istore (lv' := [(6, .int 0), (0, .ref (ad 0)), (2, .int p2), (3, .int p3), (4, .int p4), (5, .int p5)]) hx hb dX4_forges_31 hl (by decide) rfl (fun ls hl => ?_)
  have L33 : ∀ (n : Nat) (res33 : St), ∀ (v6_33 : Int32), ∀ (S_33 : St), ((0 ≤ v6_33.toInt ∧ v6_33.toInt ≤ p4.toInt) ∧ (S_33 16 = σ 16)) → (p4.toInt - v6_33.toInt).toNat < n → (lp_X4_forges_33 p2 p3 p4 p5 n v6_33 S_33) = res33 → (∀ (S_33e : St), res33 = S_33e → ∀ (H : Heap) (locs : List Loc), CW 18 (eM ad) ad D (CA 18 ad sz) s.heap S_33e H locs → ∀ ls : Array Slot, lv_has ls 7 [(0, .ref (ad 0)), (2, .int p2)] → W p l e (headSpec wsX4_forges ({ frames := 2, cells := 0, slots := 0, locals := 45 })).room s m ([.ref (ad 0), .int p1, .int p2, .int p3, .int p4, .int p5] : List Value).toArray below meth c H locs 0 0 (MQ below (QWi 18 (eM ad) ad D T (CA 18 ad sz)) ([.ref (ad 0), .int p1, .int p2, .int p3, .int p4, .int p5] : List Value).toArray s 0 0 (CA 18 ad sz)) (F0 m 93 ls [])) → ∀ (H : Heap) (locs : List Loc), CW 18 (eM ad) ad D (CA 18 ad sz) s.heap S_33 H locs → ∀ ls : Array Slot, lv_has ls 7 [(0, .ref (ad 0)), (2, .int p2), (3, .int p3), (4, .int p4), (5, .int p5), (6, .int v6_33)] → W p l e (headSpec wsX4_forges ({ frames := 2, cells := 0, slots := 0, locals := 45 })).room s m ([.ref (ad 0), .int p1, .int p2, .int p3, .int p4, .int p5] : List Value).toArray below meth c H locs 0 0 (MQ below (QWi 18 (eM ad) ad D T (CA 18 ad sz)) ([.ref (ad 0), .int p1, .int p2, .int p3, .int p4, .int p5] : List Value).toArray s 0 0 (CA 18 ad sz)) (F0 m 33 ls []) := by
    intro n
    induction n with
    | zero => intro _ _ _ _ hm; exact absurd hm (Nat.not_lt_zero _)
    | succ n ih33 =>
      intro res33 v6_33 S_33 hI33 hm33 hG hex33 H locs w ls hl
      obtain ⟨i33_0, i33_1⟩ := id hI33
      rw [lp_X4_forges_33] at hG
      refine lv_iload hx hb dX4_forges_33 (lv_at hl 5 rfl) ?_
      refine lv_iload hx hb dX4_forges_35 (lv_at hl 3 rfl) ?_
      refine lv_icmp_ge (tgt := 93) hx hb dX4_forges_37 (by decide) (fun c37 => ?_) (fun c37 => ?_)
      · have t37 : p4.toInt ≤ v6_33.toInt := qt_le c37
        rw [if_pos c37] at hG
        exact hex33 S_33 hG.symm _ _ w ls (lv_sub hl [0, 1] rfl)
      · have t37 : v6_33.toInt < p4.toInt := qt_nle c37
        rw [if_neg c37] at hG
        have hs := hst v6_33 (by omega) (by omega)
        refine lv_aload_n hx hb dX4_forges_40 rfl (lv_at hl 0 rfl) ?_
        refine r_get (C := RX4) (T := TX4) (N := 25) S hK w (k := 0) (by decide) (eM_0 ad _) rfl hinX4 18 (by decide) (List.mem_of_getElem? (i := 1) rfl) rfl dX4_forges_41 ?_
        refine lv_aload_n hx hb dX4_forges_44 rfl (lv_at hl 0 rfl) ?_
        refine r_get (C := RX4) (T := TX4) (N := 25) S hK w (k := 0) (by decide) (eM_0 ad _) rfl hinX4 22 (by decide) (List.mem_of_getElem? (i := 2) rfl) rfl dX4_forges_45 ?_
        refine lv_iload_n hx hb dX4_forges_48 rfl (lv_at hl 2 rfl) ?_
        refine lv_iconst (v := 2) hx hb dX4_forges_49 (by decide) ?_
        refine lv_iload hx hb dX4_forges_50 (lv_at hl 5 rfl) ?_
        refine lv_imul hx hb dX4_forges_52 ?_
        refine lv_iadd hx hb dX4_forges_53 ?_
        have g54 : vp_in (p3 + (2 * v6_33)) 360 := hs.1
        refine r_iald (cA := ad 100) (N := 360) S hK w (k := 16) (by decide) (fun f => rfl) rfl g54 dX4_forges_54 ?_
        refine lv_dup2_11 hx hb dX4_forges_55 rfl rfl ?_
        have g56 : vp_in (S_33 16 (ix (p3 + (2 * v6_33)))) 9 := (by rw [i33_1]; exact hs.2.2)
        refine r_iald (cA := ad 100) (N := 9) S hK w (k := 12) (by decide) (fun f => rfl) rfl g56 dX4_forges_56 ?_
        refine lv_iload hx hb dX4_forges_57 (lv_at hl 4 rfl) ?_
        refine lv_iload hx hb dX4_forges_59 (lv_at hl 5 rfl) ?_
        refine lv_ishr hx hb dX4_forges_61 ?_
        refine lv_iconst (v := 1) hx hb dX4_forges_62 (by decide) ?_
        refine lv_iand hx hb dX4_forges_63 ?_
        refine lv_iconst (v := 1) hx hb dX4_forges_64 (by decide) ?_
        have J65_85 : ∀ (k3_65_85 : Int32), (lp_X4_forges_33 p2 p3 p4 p5 n (v6_33 + 1) (u2 S_33 12 (ix (S_33 16 (ix (p3 + (2 * v6_33))))) ((S_33 12 (ix (S_33 16 (ix (p3 + (2 * v6_33)))))) + k3_65_85))) = res33 → ∀ (H : Heap) (locs : List Loc), CW 18 (eM ad) ad D (CA 18 ad sz) s.heap S_33 H locs → ∀ ls : Array Slot, lv_has ls 7 [(0, .ref (ad 0)), (2, .int p2), (3, .int p3), (4, .int p4), (5, .int p5), (6, .int v6_33)] → W p l e (headSpec wsX4_forges ({ frames := 2, cells := 0, slots := 0, locals := 45 })).room s m ([.ref (ad 0), .int p1, .int p2, .int p3, .int p4, .int p5] : List Value).toArray below meth c H locs 0 0 (MQ below (QWi 18 (eM ad) ad D T (CA 18 ad sz)) ([.ref (ad 0), .int p1, .int p2, .int p3, .int p4, .int p5] : List Value).toArray s 0 0 (CA 18 ad sz)) (F0 m 85 ls [.int k3_65_85, .int (S_33 12 (ix (S_33 16 (ix (p3 + (2 * v6_33)))))), .int (S_33 16 (ix (p3 + (2 * v6_33)))), .ref (ad 12)]) := by
          intro k3_65_85 hG H locs w ls hl
          refine lv_iadd hx hb dX4_forges_85 ?_
          have g86 : vp_in (S_33 16 (ix (p3 + (2 * v6_33)))) 9 := (by rw [i33_1]; exact hs.2.2)
          refine r_iast (cA := ad 100) (N := 9) S hK w (k := 12) (by decide) (fun f => rfl) rfl g86 dX4_forges_86 (fun H locs w => ?_)
          refine lv_iinc (v := (v6_33 + 1)) (lv' := [(6, .int (v6_33 + 1)), (0, .ref (ad 0)), (2, .int p2), (3, .int p3), (4, .int p4), (5, .int p5)]) hx hb dX4_forges_87 hl (k := 5) rfl rfl (by decide) rfl (fun ls hl => ?_)
          refine lv_goto (tgt := 33) hx hb dX4_forges_90 (by decide) ?_
          have b6_33 : (v6_33 + 1).toInt = v6_33.toInt + 1 := inc_toInt (by omega) (by omega)
          exact ih33 _ (v6_33 + 1) (u2 S_33 12 (ix (S_33 16 (ix (p3 + (2 * v6_33))))) ((S_33 12 (ix (S_33 16 (ix (p3 + (2 * v6_33)))))) + k3_65_85)) ⟨(by omega), i33_1⟩ (by omega) hG hex33 _ _ w ls (lv_sub hl [1, 2, 3, 4, 5, 0] rfl)
        refine lv_icmp_ne (tgt := 84) hx hb dX4_forges_65 (by decide) (fun c65 => ?_) (fun c65 => ?_)
        · have t65 : ((p5 >>> (v6_33 &&& 31)) &&& 1).toInt ≠ 1 := qt_ne c65
          simp only [if_neg c65] at hG
          refine lv_iconst (v := 0) hx hb dX4_forges_84 (by decide) ?_
          exact J65_85 0 hG _ _ w ls (lv_sub hl [0, 1, 2, 3, 4, 5] rfl)
        · have t65 : ((p5 >>> (v6_33 &&& 31)) &&& 1).toInt = 1 := qt_eq c65
          simp only [if_pos c65] at hG
          refine lv_aload_n hx hb dX4_forges_68 rfl (lv_at hl 0 rfl) ?_
          refine r_get (C := RX4) (T := TX4) (N := 25) S hK w (k := 0) (by decide) (eM_0 ad _) rfl hinX4 22 (by decide) (List.mem_of_getElem? (i := 2) rfl) rfl dX4_forges_69 ?_
          refine lv_iload_n hx hb dX4_forges_72 rfl (lv_at hl 2 rfl) ?_
          refine lv_iconst (v := 2) hx hb dX4_forges_73 (by decide) ?_
          refine lv_iload hx hb dX4_forges_74 (lv_at hl 5 rfl) ?_
          refine lv_imul hx hb dX4_forges_76 ?_
          refine lv_iadd hx hb dX4_forges_77 ?_
          refine lv_iconst (v := 1) hx hb dX4_forges_78 (by decide) ?_
          refine lv_iadd hx hb dX4_forges_79 ?_
          have g80 : vp_in ((p3 + (2 * v6_33)) + 1) 360 := hs.2.1
          refine r_iald (cA := ad 100) (N := 360) S hK w (k := 16) (by decide) (fun f => rfl) rfl g80 dX4_forges_80 ?_
          refine lv_goto (tgt := 85) hx hb dX4_forges_81 (by decide) ?_
          exact J65_85 (S_33 16 (ix ((p3 + (2 * v6_33)) + 1))) hG _ _ w ls (lv_sub hl [0, 1, 2, 3, 4, 5] rfl)
  refine L33 200 _ 0 S_3e ⟨(by omega), x3_0⟩ (by omega) rfl (fun S_33e hr33 H locs w ls hl => ?_) _ _ w ls (lv_sub hl [1, 2, 3, 4, 5, 0] rfl)
  rw [hr33] at hG
  refine lv_aload_n hx hb dX4_forges_93 rfl (lv_at hl 0 rfl) ?_
  refine lv_iload_n hx hb dX4_forges_94 rfl (lv_at hl 1 rfl) ?_
  refine call0i (va_runV (As := [.int p2]) (rest := []) S (c_X4_isTaken l ad D H.size S_33e p2 (by omega)) (cwV 1 S.2.2.2.2 gX4_forges_X4_isTaken rfl rfl rfl ⟨rfl, hd_X4_isTaken⟩ ⟨Nat.le_of_ble_eq_true rfl, Nat.le_of_ble_eq_true rfl⟩) (preV hK hN w (k := 0) (by decide) (eM_0 ad _) (q := (RX4, TX4, 25)) rfl) rfl rfl hl.1 rfl (lv_room (Nat.le_of_ble_eq_true rfl)) dX4_forges_95 ⟨Nat.zero_le _, Nat.zero_le _⟩) ?_
  exact endWz S hr hlocks w bo_X4_isTaken hG dX4_forges_98
