set_option maxHeartbeats 4000000 in
set_option maxRecDepth 100000 in
theorem c_X4_who (l : Launch) (ad : Nat → Nat) (D : va_G) (sz : Nat) (σ : St) (p1 : Int32) (p2 : Int32) (p3 : Int32) (p4 : Int32) (hok : OkM σ) : Met l yX4_who wsX4_who ({ frames := 3, cells := 0, slots := 0, locals := 78 }) (PreW 18 (eM ad) ad D (tyM ad) σ sz ([.ref (ad 0), .int p1, .int p2, .int p3, .int p4] : List Value)) (QWi 18 (eM ad) ad D (f_X4_who σ p1 p2 p3 p4) (CA 18 ad sz)) 0 0 (CA 18 ad sz) := by
  generalize hG : f_X4_who σ p1 p2 p3 p4 = T
  refine headW (cc := cX4_who) (maxL := 8) (ret := (some .int)) ([.ref (ad 0), .int p1, .int p2, .int p3, .int p4] : List Value) (by decide) rfl (Nat.le_of_ble_eq_true rfl) ?_
  intro p e s m below meth c S hr hlocks hK hN hsz w ls hl
  have S : CallFix p m c cX4_who 8 s ([.ref (ad 0), .int p1, .int p2, .int p3, .int p4] : List Value).toArray wsX4_who RX4 := S
  have hx := S.1
  have hb := S.2.1
  have z0 : (0 : Int32).toInt = 0 := by decide
  have z1 : (1 : Int32).toInt = 1 := by decide
  have hl : lv_has ls 8 [(0, .ref (ad 0)), (1, .int p1), (2, .int p2), (3, .int p3), (4, .int p4)] := hl
  have hinX4 : ∀ w ∈ wsX40, w ∈ wsX4_who := (fun _ h => List.mem_cons_of_mem _ (List.mem_append_right _ h))
  have okf0 := hok.1
  have okf1 := hok.2.1
  have okf2 := hok.2.2.1
  have okf3 := hok.2.2.2.1
  have okf4 := hok.2.2.2.2.1
  have okf6 := hok.2.2.2.2.2.1
  have okf7 := hok.2.2.2.2.2.2.1
  have okf8 := hok.2.2.2.2.2.2.2
  rw [f_X4_who] at hG
  refine lv_aload_n hx hb dX4_who_0 rfl (lv_at hl 0 rfl) ?_
  refine lv_iload_n hx hb dX4_who_1 rfl (lv_at hl 2 rfl) ?_
  refine lv_iload_n hx hb dX4_who_2 rfl (lv_at hl 3 rfl) ?_
  refine lv_iload hx hb dX4_who_3 (lv_at hl 4 rfl) ?_
  refine lv_ldc2 hx hb S.2.2.2.1 (S.2.2.2.2 _ (List.mem_of_getElem? (i := 1) rfl)) dX4_who_5 ?_
  have ok3 := okf3
  refine callWi w (va_runV (As := [.int p2, .int p3, .int p4, .long 9]) (rest := []) S (c_X4_barred l ad D s.heap.size σ p2 p3 p4 9) (cwV 4 S.2.2.2.2 gX4_who_X4_barred rfl rfl rfl ⟨rfl, hd_X4_barred⟩ ⟨Nat.le_of_ble_eq_true rfl, Nat.le_of_ble_eq_true rfl⟩) (preV hK hN w (k := 0) (by decide) (eM_0 ad _) (q := (RX4, TX4, 25)) rfl) rfl rfl hl.1 rfl (lv_room (Nat.le_of_ble_eq_true rfl)) dX4_who_8 ⟨Nat.zero_le _, Nat.zero_le _⟩) (fun H locs w => ?_)
  have hok : OkM ((f_X4_barred σ p2 p3 p4 9).2) := ok_X4_barred hok
  have okf0 := hok.1
  have okf1 := hok.2.1
  have okf2 := hok.2.2.1
  have okf3 := hok.2.2.2.1
  have okf4 := hok.2.2.2.2.1
  have okf6 := hok.2.2.2.2.2.1
  have okf7 := hok.2.2.2.2.2.2.1
  have okf8 := hok.2.2.2.2.2.2.2
  refine lv_istore (lv' := [(5, .int ((f_X4_barred σ p2 p3 p4 9).1)), (0, .ref (ad 0)), (1, .int p1), (2, .int p2), (3, .int p3), (4, .int p4)]) hx hb dX4_who_11 hl (by decide) rfl (fun ls hl => ?_)
  refine lv_iload hx hb dX4_who_13 (lv_at hl 0 rfl) ?_
  refine lv_if_ge (tgt := 21) hx hb dX4_who_15 (by decide) (fun c15 => ?_) (fun c15 => ?_)
  · have t15 : 0 ≤ ((f_X4_barred σ p2 p3 p4 9).1).toInt := qt_le c15
    rw [if_pos c15] at hG
    have z := br_z c15
    have z9 : (9 : Int64).toInt = 9 := by decide
    have z3 := ok3 (ix p2) (vpl (vpi (by omega) (by omega)))
    have e51 := km_toInt (a := p2) (k := 90) (z := 90) (by decide) (by omega) (by omega)
    have e54 := a_toInt (a := 90 * p2) (b := p4) (by omega) (by omega)
    refine lv_aload_n hx hb dX4_who_21 rfl (lv_at hl 1 rfl) ?_
    refine lv_iload_n hx hb dX4_who_22 rfl (lv_at hl 2 rfl) ?_
    refine lv_bipush (v := 90) hx hb dX4_who_23 (by decide) ?_
    refine lv_iload_n hx hb dX4_who_25 rfl (lv_at hl 3 rfl) ?_
    refine lv_imul hx hb dX4_who_26 ?_
    refine lv_iload hx hb dX4_who_27 (lv_at hl 5 rfl) ?_
    refine lv_iadd hx hb dX4_who_29 ?_
    refine callWi w (va_runV (As := [.int p1, .int ((90 * p2) + p4)]) (rest := []) S (c_X4_laysHours l ad D H.size ((f_X4_barred σ p2 p3 p4 9).2) p1 ((90 * p2) + p4) hok (by omega)) (cwV 2 S.2.2.2.2 gX4_who_X4_laysHours rfl rfl rfl ⟨rfl, hd_X4_laysHours⟩ ⟨Nat.le_of_ble_eq_true rfl, Nat.le_of_ble_eq_true rfl⟩) (preV hK hN w (k := 0) (by decide) (eM_0 ad _) (q := (RX4, TX4, 25)) rfl) rfl rfl hl.1 rfl (lv_room (Nat.le_of_ble_eq_true rfl)) dX4_who_30 ⟨Nat.zero_le _, Nat.zero_le _⟩) (fun H locs w => ?_)
    have hok : OkM ((f_X4_laysHours ((f_X4_barred σ p2 p3 p4 9).2) p1 ((90 * p2) + p4)).2) := ok_X4_laysHours hok
    have okf0 := hok.1
    have okf1 := hok.2.1
    have okf2 := hok.2.2.1
    have okf3 := hok.2.2.2.1
    have okf4 := hok.2.2.2.2.1
    have okf6 := hok.2.2.2.2.2.1
    have okf7 := hok.2.2.2.2.2.2.1
    have okf8 := hok.2.2.2.2.2.2.2
    refine lv_if_ne (tgt := 43) hx hb dX4_who_33 (by decide) (fun c33 => ?_) (fun c33 => ?_)
    · have t33 : ((f_X4_laysHours ((f_X4_barred σ p2 p3 p4 9).2) p1 ((90 * p2) + p4)).1).toInt ≠ 0 := qt_ne c33
      rw [if_neg c33] at hG
      refine lv_bipush (v := (-9)) hx hb dX4_who_43 (by decide) ?_
      refine lv_istore (lv' := [(6, .int (-9)), (5, .int ((f_X4_barred σ p2 p3 p4 9).1)), (0, .ref (ad 0)), (1, .int p1), (2, .int p2), (3, .int p3), (4, .int p4)]) hx hb dX4_who_45 hl (by decide) rfl (fun ls hl => ?_)
      refine lv_iconst (v := 0) hx hb dX4_who_47 (by decide) ?_
      refine lv_istore (lv' := [(7, .int 0), (6, .int (-9)), (5, .int ((f_X4_barred σ p2 p3 p4 9).1)), (0, .ref (ad 0)), (1, .int p1), (2, .int p2), (3, .int p3), (4, .int p4)]) hx hb dX4_who_48 hl (by decide) rfl (fun ls hl => ?_)
      have L50 : ∀ (n : Nat) (res50 : Int32), ∀ (v6_50 : Int32), ∀ (v7_50 : Int32), ((0 ≤ v7_50.toInt ∧ v7_50.toInt ≤ 8) ∧ (v6_50.toInt < 8)) → (8 - v7_50.toInt).toNat < n → (lp_X4_who_50 ((f_X4_laysHours ((f_X4_barred σ p2 p3 p4 9).2) p1 ((90 * p2) + p4)).2) n v6_50 v7_50) = res50 → (∀ (v6_50e : Int32), res50 = v6_50e → ∀ (H : Heap) (locs : List Loc), CW 18 (eM ad) ad D (CA 18 ad sz) s.heap ((f_X4_laysHours ((f_X4_barred σ p2 p3 p4 9).2) p1 ((90 * p2) + p4)).2) H locs → ∀ ls : Array Slot, lv_has ls 8 [(0, .ref (ad 0)), (6, .int v6_50e)] → W p l e (headSpec wsX4_who ({ frames := 3, cells := 0, slots := 0, locals := 78 })).room s m ([.ref (ad 0), .int p1, .int p2, .int p3, .int p4] : List Value).toArray below meth c H locs 0 0 (MQ below (QWi 18 (eM ad) ad D T (CA 18 ad sz)) ([.ref (ad 0), .int p1, .int p2, .int p3, .int p4] : List Value).toArray s 0 0 (CA 18 ad sz)) (F0 m 100 ls [])) → ∀ (H : Heap) (locs : List Loc), CW 18 (eM ad) ad D (CA 18 ad sz) s.heap ((f_X4_laysHours ((f_X4_barred σ p2 p3 p4 9).2) p1 ((90 * p2) + p4)).2) H locs → ∀ ls : Array Slot, lv_has ls 8 [(0, .ref (ad 0)), (6, .int v6_50), (7, .int v7_50)] → W p l e (headSpec wsX4_who ({ frames := 3, cells := 0, slots := 0, locals := 78 })).room s m ([.ref (ad 0), .int p1, .int p2, .int p3, .int p4] : List Value).toArray below meth c H locs 0 0 (MQ below (QWi 18 (eM ad) ad D T (CA 18 ad sz)) ([.ref (ad 0), .int p1, .int p2, .int p3, .int p4] : List Value).toArray s 0 0 (CA 18 ad sz)) (F0 m 50 ls []) := by
        intro n
        induction n with
        | zero => intro _ _ _ _ hm; exact absurd hm (Nat.not_lt_zero _)
        | succ n ih50 =>
          intro res50 v6_50 v7_50 hI50 hm50 hG hex50 H locs w ls hl
          obtain ⟨i50_0, i50_1⟩ := id hI50
          rw [lp_X4_who_50] at hG
          refine lv_iload hx hb dX4_who_50 (lv_at hl 2 rfl) ?_
          refine lv_aload_n hx hb dX4_who_52 rfl (lv_at hl 0 rfl) ?_
          refine r_get (C := RX4) (T := TX4) (N := 25) S hK w (k := 0) (by decide) (eM_0 ad _) rfl hinX4 1 (by decide) (List.mem_of_getElem? (i := 2) rfl) rfl dX4_who_53 ?_
          refine lv_icmp_ge (tgt := 100) hx hb dX4_who_56 (by decide) (fun c56 => ?_) (fun c56 => ?_)
          · have t56 : (((f_X4_laysHours ((f_X4_barred σ p2 p3 p4 9).2) p1 ((90 * p2) + p4)).2) 0 1).toInt ≤ v7_50.toInt := qt_le c56
            rw [if_pos c56] at hG
            exact hex50 v6_50 hG.symm _ _ w ls (lv_sub hl [0, 1] rfl)
          · have t56 : v7_50.toInt < (((f_X4_laysHours ((f_X4_barred σ p2 p3 p4 9).2) p1 ((90 * p2) + p4)).2) 0 1).toInt := qt_nle c56
            rw [if_neg c56] at hG
            refine lv_aload_n hx hb dX4_who_59 rfl (lv_at hl 0 rfl) ?_
            refine r_get (C := RX4) (T := TX4) (N := 25) S hK w (k := 0) (by decide) (eM_0 ad _) rfl hinX4 19 (by decide) (List.mem_of_getElem? (i := 3) rfl) rfl dX4_who_60 ?_
            refine lv_iload hx hb dX4_who_63 (lv_at hl 2 rfl) ?_
            have g65 : vp_in v7_50 8 := vpi (by omega) (by omega)
            refine r_iald (cA := ad 100) (N := 8) S hK w (k := 13) (by decide) (fun f => rfl) rfl g65 dX4_who_65 ?_
            refine lv_iload hx hb dX4_who_66 (lv_at hl 1 rfl) ?_
            have J68_82 : ∀ (k1_68_82 : Int32), (if (((f_X4_laysHours ((f_X4_barred σ p2 p3 p4 9).2) p1 ((90 * p2) + p4)).2) 13 (ix v7_50)) ≤ k1_68_82 then (lp_X4_who_50 ((f_X4_laysHours ((f_X4_barred σ p2 p3 p4 9).2) p1 ((90 * p2) + p4)).2) n v6_50 (v7_50 + 1)) else (lp_X4_who_50 ((f_X4_laysHours ((f_X4_barred σ p2 p3 p4 9).2) p1 ((90 * p2) + p4)).2) n v7_50 (v7_50 + 1))) = res50 → ∀ (H : Heap) (locs : List Loc), CW 18 (eM ad) ad D (CA 18 ad sz) s.heap ((f_X4_laysHours ((f_X4_barred σ p2 p3 p4 9).2) p1 ((90 * p2) + p4)).2) H locs → ∀ ls : Array Slot, lv_has ls 8 [(0, .ref (ad 0)), (6, .int v6_50), (7, .int v7_50)] → W p l e (headSpec wsX4_who ({ frames := 3, cells := 0, slots := 0, locals := 78 })).room s m ([.ref (ad 0), .int p1, .int p2, .int p3, .int p4] : List Value).toArray below meth c H locs 0 0 (MQ below (QWi 18 (eM ad) ad D T (CA 18 ad sz)) ([.ref (ad 0), .int p1, .int p2, .int p3, .int p4] : List Value).toArray s 0 0 (CA 18 ad sz)) (F0 m 82 ls [.int k1_68_82, .int (((f_X4_laysHours ((f_X4_barred σ p2 p3 p4 9).2) p1 ((90 * p2) + p4)).2) 13 (ix v7_50))]) := by
              intro k1_68_82 hG H locs w ls hl
              refine lv_icmp_le (tgt := 90) hx hb dX4_who_82 (by decide) (fun c82 => ?_) (fun c82 => ?_)
              · have t82 : (((f_X4_laysHours ((f_X4_barred σ p2 p3 p4 9).2) p1 ((90 * p2) + p4)).2) 13 (ix v7_50)).toInt ≤ k1_68_82.toInt := qt_le c82
                rw [if_pos c82] at hG
                refine lv_iload hx hb dX4_who_90 (lv_at hl 1 rfl) ?_
                refine lv_istore (lv' := [(6, .int v6_50), (0, .ref (ad 0)), (7, .int v7_50)]) hx hb dX4_who_92 hl (by decide) rfl (fun ls hl => ?_)
                refine lv_iinc (v := (v7_50 + 1)) (lv' := [(7, .int (v7_50 + 1)), (6, .int v6_50), (0, .ref (ad 0))]) hx hb dX4_who_94 hl (k := 2) rfl rfl (by decide) rfl (fun ls hl => ?_)
                refine lv_goto (tgt := 50) hx hb dX4_who_97 (by decide) ?_
                have b7_50 : (v7_50 + 1).toInt = v7_50.toInt + 1 := inc_toInt (by omega) (by omega)
                exact ih50 _ v6_50 (v7_50 + 1) ⟨(by omega), (by omega)⟩ (by omega) hG hex50 _ _ w ls (lv_sub hl [2, 1, 0] rfl)
              · have t82 : k1_68_82.toInt < (((f_X4_laysHours ((f_X4_barred σ p2 p3 p4 9).2) p1 ((90 * p2) + p4)).2) 13 (ix v7_50)).toInt := qt_nle c82
                rw [if_neg c82] at hG
                refine lv_iload hx hb dX4_who_85 (lv_at hl 2 rfl) ?_
                refine lv_goto (tgt := 92) hx hb dX4_who_87 (by decide) ?_
                refine lv_istore (lv' := [(6, .int v7_50), (0, .ref (ad 0)), (7, .int v7_50)]) hx hb dX4_who_92 hl (by decide) rfl (fun ls hl => ?_)
                refine lv_iinc (v := (v7_50 + 1)) (lv' := [(7, .int (v7_50 + 1)), (6, .int v7_50), (0, .ref (ad 0))]) hx hb dX4_who_94 hl (k := 2) rfl rfl (by decide) rfl (fun ls hl => ?_)
                refine lv_goto (tgt := 50) hx hb dX4_who_97 (by decide) ?_
                have b7_50 : (v7_50 + 1).toInt = v7_50.toInt + 1 := inc_toInt (by omega) (by omega)
                exact ih50 _ v7_50 (v7_50 + 1) ⟨(by omega), (by omega)⟩ (by omega) hG hex50 _ _ w ls (lv_sub hl [2, 1, 0] rfl)
            refine lv_if_ge (tgt := 75) hx hb dX4_who_68 (by decide) (fun c68 => ?_) (fun c68 => ?_)
            · have t68 : 0 ≤ v6_50.toInt := qt_le c68
              simp only [if_pos c68] at hG
              refine lv_aload_n hx hb dX4_who_75 rfl (lv_at hl 0 rfl) ?_
              refine r_get (C := RX4) (T := TX4) (N := 25) S hK w (k := 0) (by decide) (eM_0 ad _) rfl hinX4 19 (by decide) (List.mem_of_getElem? (i := 3) rfl) rfl dX4_who_76 ?_
              refine lv_iload hx hb dX4_who_79 (lv_at hl 1 rfl) ?_
              have g81 : vp_in v6_50 8 := vpi (by omega) (by omega)
              refine r_iald (cA := ad 100) (N := 8) S hK w (k := 13) (by decide) (fun f => rfl) rfl g81 dX4_who_81 ?_
              exact J68_82 (((f_X4_laysHours ((f_X4_barred σ p2 p3 p4 9).2) p1 ((90 * p2) + p4)).2) 13 (ix v6_50)) hG _ _ w ls (lv_sub hl [0, 1, 2] rfl)
            · have t68 : v6_50.toInt < 0 := qt_nle c68
              simp only [if_neg c68] at hG
              refine lv_iconst (v := 0) hx hb dX4_who_71 (by decide) ?_
              refine lv_goto (tgt := 82) hx hb dX4_who_72 (by decide) ?_
              exact J68_82 0 hG _ _ w ls (lv_sub hl [0, 1, 2] rfl)
      refine L50 200 _ (-9) 0 ⟨(by omega), (by decide)⟩ (by omega) rfl (fun v6_50e hr50 H locs w ls hl => ?_) _ _ w ls (lv_sub hl [3, 1, 0] rfl)
      rw [hr50] at hG
      refine lv_aload_n hx hb dX4_who_100 rfl (lv_at hl 0 rfl) ?_
      refine lv_iload hx hb dX4_who_101 (lv_at hl 1 rfl) ?_
      refine callWi w (va_runV (As := [.int v6_50e]) (rest := []) S (c_X4_refused l ad D H.size ((f_X4_laysHours ((f_X4_barred σ p2 p3 p4 9).2) p1 ((90 * p2) + p4)).2) v6_50e) (cwV 1 S.2.2.2.2 gX4_who_X4_refused rfl rfl rfl ⟨rfl, hd_X4_refused⟩ ⟨Nat.le_of_ble_eq_true rfl, Nat.le_of_ble_eq_true rfl⟩) (preV hK hN w (k := 0) (by decide) (eM_0 ad _) (q := (RX4, TX4, 25)) rfl) rfl rfl hl.1 rfl (lv_room (Nat.le_of_ble_eq_true rfl)) dX4_who_103 ⟨Nat.zero_le _, Nat.zero_le _⟩) (fun H locs w => ?_)
      exact endWi S hr hlocks w hG dX4_who_106
    · have t33 : ((f_X4_laysHours ((f_X4_barred σ p2 p3 p4 9).2) p1 ((90 * p2) + p4)).1).toInt = 0 := qt_eq c33
      rw [if_pos c33] at hG
      refine lv_aload_n hx hb dX4_who_36 rfl (lv_at hl 1 rfl) ?_
      refine lv_bipush (v := (-2)) hx hb dX4_who_37 (by decide) ?_
      refine callWi w (va_runV (As := [.int (-2)]) (rest := []) S (c_X4_refused l ad D H.size ((f_X4_laysHours ((f_X4_barred σ p2 p3 p4 9).2) p1 ((90 * p2) + p4)).2) (-2)) (cwV 1 S.2.2.2.2 gX4_who_X4_refused rfl rfl rfl ⟨rfl, hd_X4_refused⟩ ⟨Nat.le_of_ble_eq_true rfl, Nat.le_of_ble_eq_true rfl⟩) (preV hK hN w (k := 0) (by decide) (eM_0 ad _) (q := (RX4, TX4, 25)) rfl) rfl rfl hl.1 rfl (lv_room (Nat.le_of_ble_eq_true rfl)) dX4_who_39 ⟨Nat.zero_le _, Nat.zero_le _⟩) (fun H locs w => ?_)
      exact endWi S hr hlocks w hG dX4_who_42
  · have t15 : ((f_X4_barred σ p2 p3 p4 9).1).toInt < 0 := qt_nle c15
    rw [if_neg c15] at hG
    refine lv_iload hx hb dX4_who_18 (lv_at hl 0 rfl) ?_
    exact endWi S hr hlocks w hG dX4_who_20
set_option maxHeartbeats 4000000 in
set_option maxRecDepth 100000 in
theorem c_X4_sheet (l : Launch) (ad : Nat → Nat) (D : va_G) (sz : Nat) (σ : St) (p1 : Int32) (p2 : Int32) (p3 : Int32) : Met l yX4_sheet wsX4_sheet ({ frames := 2, cells := 0, slots := 0, locals := 45 }) (PreW 18 (eM ad) ad D (tyM ad) σ sz ([.ref (ad 0), .int p1, .int p2, .int p3] : List Value)) (QWi 18 (eM ad) ad D (f_X4_sheet σ p1 p2 p3) (CA 18 ad sz)) 0 0 (CA 18 ad sz) := by
  generalize hG : f_X4_sheet σ p1 p2 p3 = T
  refine headW (cc := cX4_sheet) (maxL := 5) (ret := (some .int)) ([.ref (ad 0), .int p1, .int p2, .int p3] : List Value) (by decide) rfl (Nat.le_of_ble_eq_true rfl) ?_
  intro p e s m below meth c S hr hlocks hK hN hsz w ls hl
  have S : CallFix p m c cX4_sheet 5 s ([.ref (ad 0), .int p1, .int p2, .int p3] : List Value).toArray wsX4_sheet RX4 := S
  have hx := S.1
  have hb := S.2.1
  have z0 : (0 : Int32).toInt = 0 := by decide
  have z1 : (1 : Int32).toInt = 1 := by decide
  have hl : lv_has ls 5 [(0, .ref (ad 0)), (1, .int p1), (2, .int p2), (3, .int p3)] := hl
  have hinX4 : ∀ w ∈ wsX40, w ∈ wsX4_sheet := (fun _ h => List.mem_cons_of_mem _ (List.mem_append_right _ h))
  rw [f_X4_sheet] at hG
  refine lv_iload_n hx hb dX4_sheet_0 rfl (lv_at hl 1 rfl) ?_
  refine call0i (va_runS (As := [.int p1]) (rest := []) S (c_X4_noSheet l p1) (va_cwS 1 S.2.2.2.2 gX4_sheet_X4_noSheet rfl rfl rfl hd_X4_noSheet ⟨Nat.le_of_ble_eq_true rfl, Nat.le_of_ble_eq_true rfl⟩) pre0S rfl rfl hl.1 rfl (lv_room (Nat.le_of_ble_eq_true rfl)) dX4_sheet_1 ⟨Nat.zero_le _, Nat.zero_le _⟩) ?_
  refine lv_if_eq (tgt := 13) hx hb dX4_sheet_4 (by decide) (fun c4 => ?_) (fun c4 => ?_)
  · have t4 := bf_noSheet_z c4
    rw [if_pos c4] at hG
    refine lv_iload_n hx hb dX4_sheet_13 rfl (lv_at hl 2 rfl) ?_
    refine lv_i2l hx hb dX4_sheet_14 rfl ?_
    refine lv_lconst (v := 0) hx hb dX4_sheet_15 (by decide) ?_
    refine lv_ldc2 hx hb S.2.2.2.1 (S.2.2.2.2 _ (List.mem_of_getElem? (i := 1) rfl)) dX4_sheet_16 ?_
    refine call0i (va_runS (As := [.long p2.toInt64, .long 0, .long 2]) (rest := []) S (c_X4_in l p2.toInt64 0 2) (va_cwS 3 S.2.2.2.2 gX4_sheet_X4_in rfl rfl rfl hd_X4_in ⟨Nat.le_of_ble_eq_true rfl, Nat.le_of_ble_eq_true rfl⟩) pre0S rfl rfl hl.1 rfl (lv_room (Nat.le_of_ble_eq_true rfl)) dX4_sheet_19 ⟨Nat.zero_le _, Nat.zero_le _⟩) ?_
    refine lv_if_eq (tgt := 31) hx hb dX4_sheet_22 (by decide) (fun c22 => ?_) (fun c22 => ?_)
    · rw [if_pos c22] at hG
      refine lv_aload_n hx hb dX4_sheet_31 rfl (lv_at hl 0 rfl) ?_
      refine lv_bipush (v := (-2)) hx hb dX4_sheet_32 (by decide) ?_
      refine callWi w (va_runV (As := [.int (-2)]) (rest := []) S (c_X4_refused l ad D s.heap.size σ (-2)) (cwV 1 S.2.2.2.2 gX4_sheet_X4_refused rfl rfl rfl ⟨rfl, hd_X4_refused⟩ ⟨Nat.le_of_ble_eq_true rfl, Nat.le_of_ble_eq_true rfl⟩) (preV hK hN w (k := 0) (by decide) (eM_0 ad _) (q := (RX4, TX4, 25)) rfl) rfl rfl hl.1 rfl (lv_room (Nat.le_of_ble_eq_true rfl)) dX4_sheet_34 ⟨Nat.zero_le _, Nat.zero_le _⟩) (fun H locs w => ?_)
      exact endWi S hr hlocks w hG dX4_sheet_37
    · have t22 := bf_in_n c22
      rw [if_neg c22] at hG
      refine lv_iload_n hx hb dX4_sheet_25 rfl (lv_at hl 3 rfl) ?_
      refine lv_bipush (v := 90) hx hb dX4_sheet_26 (by decide) ?_
      refine lv_icmp_le (tgt := 38) hx hb dX4_sheet_28 (by decide) (fun c28 => ?_) (fun c28 => ?_)
      · have t28 : p3.toInt ≤ 90 := qt_le c28
        rw [if_pos c28] at hG
        refine lv_iload_n hx hb dX4_sheet_38 rfl (lv_at hl 3 rfl) ?_
        refine lv_if_ge (tgt := 48) hx hb dX4_sheet_39 (by decide) (fun c39 => ?_) (fun c39 => ?_)
        · have t39 : 0 ≤ p3.toInt := qt_le c39
          rw [if_pos c39] at hG
          refine lv_aload_n hx hb dX4_sheet_48 rfl (lv_at hl 0 rfl) ?_
          refine r_get (C := RX4) (T := TX4) (N := 25) S hK w (k := 0) (by decide) (eM_0 ad _) rfl hinX4 20 (by decide) (List.mem_of_getElem? (i := 2) rfl) rfl dX4_sheet_49 ?_
          refine lv_iload_n hx hb dX4_sheet_52 rfl (lv_at hl 1 rfl) ?_
          refine lv_iload_n hx hb dX4_sheet_53 rfl (lv_at hl 3 rfl) ?_
          have g54 : vp_in p1 4 := vpi (by omega) (by omega)
          refine r_iast (cA := ad 100) (N := 4) S hK w (k := 14) (by decide) (fun f => rfl) rfl g54 dX4_sheet_54 (fun H locs w => ?_)
          refine lv_aload_n hx hb dX4_sheet_55 rfl (lv_at hl 0 rfl) ?_
          refine r_get (C := RX4) (T := TX4) (N := 25) S hK w (k := 0) (by decide) (eM_0 ad _) rfl hinX4 21 (by decide) (List.mem_of_getElem? (i := 3) rfl) rfl dX4_sheet_56 ?_
          refine lv_iload_n hx hb dX4_sheet_59 rfl (lv_at hl 1 rfl) ?_
          refine lv_iload_n hx hb dX4_sheet_60 rfl (lv_at hl 2 rfl) ?_
          have g61 : vp_in p1 4 := vpi (by omega) (by omega)
          refine r_iast (cA := ad 100) (N := 4) S hK w (k := 15) (by decide) (fun f => rfl) rfl g61 dX4_sheet_61 (fun H locs w => ?_)
          refine lv_iconst (v := 0) hx hb dX4_sheet_62 (by decide) ?_
          refine lv_istore (lv' := [(4, .int 0), (0, .ref (ad 0)), (1, .int p1), (2, .int p2), (3, .int p3)]) hx hb dX4_sheet_63 hl (by decide) rfl (fun ls hl => ?_)
          have L65 : ∀ (n : Nat) (res65 : St), ∀ (v4_65 : Int32), ∀ (S_65 : St), ((0 ≤ v4_65.toInt ∧ v4_65.toInt ≤ p3.toInt)) → (p3.toInt - v4_65.toInt).toNat < n → (lp_X4_sheet_65 p1 p3 n v4_65 S_65) = res65 → (∀ (S_65e : St), res65 = S_65e → ∀ (H : Heap) (locs : List Loc), CW 18 (eM ad) ad D (CA 18 ad sz) s.heap S_65e H locs → ∀ ls : Array Slot, lv_has ls 5 [(0, .ref (ad 0))] → W p l e (headSpec wsX4_sheet ({ frames := 2, cells := 0, slots := 0, locals := 45 })).room s m ([.ref (ad 0), .int p1, .int p2, .int p3] : List Value).toArray below meth c H locs 0 0 (MQ below (QWi 18 (eM ad) ad D T (CA 18 ad sz)) ([.ref (ad 0), .int p1, .int p2, .int p3] : List Value).toArray s 0 0 (CA 18 ad sz)) (F0 m 90 ls [])) → ∀ (H : Heap) (locs : List Loc), CW 18 (eM ad) ad D (CA 18 ad sz) s.heap S_65 H locs → ∀ ls : Array Slot, lv_has ls 5 [(0, .ref (ad 0)), (1, .int p1), (3, .int p3), (4, .int v4_65)] → W p l e (headSpec wsX4_sheet ({ frames := 2, cells := 0, slots := 0, locals := 45 })).room s m ([.ref (ad 0), .int p1, .int p2, .int p3] : List Value).toArray below meth c H locs 0 0 (MQ below (QWi 18 (eM ad) ad D T (CA 18 ad sz)) ([.ref (ad 0), .int p1, .int p2, .int p3] : List Value).toArray s 0 0 (CA 18 ad sz)) (F0 m 65 ls []) := by
            intro n
            induction n with
            | zero => intro _ _ _ _ hm; exact absurd hm (Nat.not_lt_zero _)
            | succ n ih65 =>
              intro res65 v4_65 S_65 hI65 hm65 hG hex65 H locs w ls hl
              have i65_0 := hI65
              rw [lp_X4_sheet_65] at hG
              refine lv_iload hx hb dX4_sheet_65 (lv_at hl 3 rfl) ?_
              refine lv_iload_n hx hb dX4_sheet_67 rfl (lv_at hl 2 rfl) ?_
              refine lv_icmp_ge (tgt := 90) hx hb dX4_sheet_68 (by decide) (fun c68 => ?_) (fun c68 => ?_)
              · have t68 : p3.toInt ≤ v4_65.toInt := qt_le c68
                rw [if_pos c68] at hG
                exact hex65 S_65 hG.symm _ _ w ls (lv_sub hl [0] rfl)
              · have t68 : v4_65.toInt < p3.toInt := qt_nle c68
                rw [if_neg c68] at hG
                refine lv_aload_n hx hb dX4_sheet_71 rfl (lv_at hl 0 rfl) ?_
                refine r_get (C := RX4) (T := TX4) (N := 25) S hK w (k := 0) (by decide) (eM_0 ad _) rfl hinX4 22 (by decide) (List.mem_of_getElem? (i := 4) rfl) rfl dX4_sheet_72 ?_
                refine lv_bipush (v := 90) hx hb dX4_sheet_75 (by decide) ?_
                refine lv_iload_n hx hb dX4_sheet_77 rfl (lv_at hl 1 rfl) ?_
                refine lv_imul hx hb dX4_sheet_78 ?_
                refine lv_iload hx hb dX4_sheet_79 (lv_at hl 3 rfl) ?_
                refine lv_iadd hx hb dX4_sheet_81 ?_
                refine lv_iconst (v := 0) hx hb dX4_sheet_82 (by decide) ?_
                have e78 := km_toInt (a := p1) (k := 90) (z := 90) (by decide) (by omega) (by omega)
                have e81 := a_toInt (a := 90 * p1) (b := v4_65) (by omega) (by omega)
                have g83 : vp_in ((90 * p1) + v4_65) 360 := vpi (by omega) (by omega)
                refine r_iast (cA := ad 100) (N := 360) S hK w (k := 16) (by decide) (fun f => rfl) rfl g83 dX4_sheet_83 (fun H locs w => ?_)
                refine lv_iinc (v := (v4_65 + 1)) (lv' := [(4, .int (v4_65 + 1)), (0, .ref (ad 0)), (1, .int p1), (3, .int p3)]) hx hb dX4_sheet_84 hl (k := 3) rfl rfl (by decide) rfl (fun ls hl => ?_)
                refine lv_goto (tgt := 65) hx hb dX4_sheet_87 (by decide) ?_
                have b4_65 : (v4_65 + 1).toInt = v4_65.toInt + 1 := inc_toInt (by omega) (by omega)
                exact ih65 _ (v4_65 + 1) (u2 S_65 16 (ix ((90 * p1) + v4_65)) 0) (by omega) (by omega) hG hex65 _ _ w ls (lv_sub hl [1, 2, 3, 0] rfl)
          refine L65 200 _ 0 (u2 (u2 σ 14 (ix p1) p3) 15 (ix p1) p2) (by omega) (by omega) rfl (fun S_65e hr65 H locs w ls hl => ?_) _ _ w ls (lv_sub hl [1, 2, 4, 0] rfl)
          rw [hr65] at hG
          refine lv_aload_n hx hb dX4_sheet_90 rfl (lv_at hl 0 rfl) ?_
          refine lv_iconst (v := 1) hx hb dX4_sheet_91 (by decide) ?_
          refine callWi w (va_runV (As := [.int 1]) (rest := []) S (c_X4_refused l ad D H.size S_65e 1) (cwV 1 S.2.2.2.2 gX4_sheet_X4_refused rfl rfl rfl ⟨rfl, hd_X4_refused⟩ ⟨Nat.le_of_ble_eq_true rfl, Nat.le_of_ble_eq_true rfl⟩) (preV hK hN w (k := 0) (by decide) (eM_0 ad _) (q := (RX4, TX4, 25)) rfl) rfl rfl hl.1 rfl (lv_room (Nat.le_of_ble_eq_true rfl)) dX4_sheet_92 ⟨Nat.zero_le _, Nat.zero_le _⟩) (fun H locs w => ?_)
          exact endWi S hr hlocks w hG dX4_sheet_95
        · have t39 : p3.toInt < 0 := qt_nle c39
          rw [if_neg c39] at hG
          refine lv_aload_n hx hb dX4_sheet_42 rfl (lv_at hl 0 rfl) ?_
          refine lv_iconst (v := 4) hx hb dX4_sheet_43 (by decide) ?_
          refine callWi w (va_runV (As := [.int 4]) (rest := []) S (c_X4_failed l ad D s.heap.size σ 4) (cwV 1 S.2.2.2.2 gX4_sheet_X4_failed rfl rfl rfl ⟨rfl, hd_X4_failed⟩ ⟨Nat.le_of_ble_eq_true rfl, Nat.le_of_ble_eq_true rfl⟩) (preV hK hN w (k := 0) (by decide) (eM_0 ad _) (q := (RX4, TX4, 25)) rfl) rfl rfl hl.1 rfl (lv_room (Nat.le_of_ble_eq_true rfl)) dX4_sheet_44 ⟨Nat.zero_le _, Nat.zero_le _⟩) (fun H locs w => ?_)
          exact endWi S hr hlocks w hG dX4_sheet_47
      · have t28 : 90 < p3.toInt := qt_nle c28
        rw [if_neg c28] at hG
        refine lv_aload_n hx hb dX4_sheet_31 rfl (lv_at hl 0 rfl) ?_
        refine lv_bipush (v := (-2)) hx hb dX4_sheet_32 (by decide) ?_
        refine callWi w (va_runV (As := [.int (-2)]) (rest := []) S (c_X4_refused l ad D s.heap.size σ (-2)) (cwV 1 S.2.2.2.2 gX4_sheet_X4_refused rfl rfl rfl ⟨rfl, hd_X4_refused⟩ ⟨Nat.le_of_ble_eq_true rfl, Nat.le_of_ble_eq_true rfl⟩) (preV hK hN w (k := 0) (by decide) (eM_0 ad _) (q := (RX4, TX4, 25)) rfl) rfl rfl hl.1 rfl (lv_room (Nat.le_of_ble_eq_true rfl)) dX4_sheet_34 ⟨Nat.zero_le _, Nat.zero_le _⟩) (fun H locs w => ?_)
        exact endWi S hr hlocks w hG dX4_sheet_37
  · rw [if_neg c4] at hG
    refine lv_aload_n hx hb dX4_sheet_7 rfl (lv_at hl 0 rfl) ?_
    refine lv_iconst (v := (-1)) hx hb dX4_sheet_8 (by decide) ?_
    refine callWi w (va_runV (As := [.int (-1)]) (rest := []) S (c_X4_refused l ad D s.heap.size σ (-1)) (cwV 1 S.2.2.2.2 gX4_sheet_X4_refused rfl rfl rfl ⟨rfl, hd_X4_refused⟩ ⟨Nat.le_of_ble_eq_true rfl, Nat.le_of_ble_eq_true rfl⟩) (preV hK hN w (k := 0) (by decide) (eM_0 ad _) (q := (RX4, TX4, 25)) rfl) rfl rfl hl.1 rfl (lv_room (Nat.le_of_ble_eq_true rfl)) dX4_sheet_9 ⟨Nat.zero_le _, Nat.zero_le _⟩) (fun H locs w => ?_)
    exact endWi S hr hlocks w hG dX4_sheet_12
set_option maxHeartbeats 4000000 in
set_option maxRecDepth 100000 in
theorem c_X4_lose (l : Launch) (ad : Nat → Nat) (D : va_G) (sz : Nat) (σ : St) (p1 : Int32) : Met l yX4_lose wsX4_lose ({ frames := 2, cells := 0, slots := 0, locals := 45 }) (PreW 18 (eM ad) ad D (tyM ad) σ sz ([.ref (ad 0), .int p1] : List Value)) (QWi 18 (eM ad) ad D (f_X4_lose σ p1) (CA 18 ad sz)) 0 0 (CA 18 ad sz) := by
  generalize hG : f_X4_lose σ p1 = T
  refine headW (cc := cX4_lose) (maxL := 3) (ret := (some .int)) ([.ref (ad 0), .int p1] : List Value) (by decide) rfl (Nat.le_of_ble_eq_true rfl) ?_
  intro p e s m below meth c S hr hlocks hK hN hsz w ls hl
  have S : CallFix p m c cX4_lose 3 s ([.ref (ad 0), .int p1] : List Value).toArray wsX4_lose RX4 := S
  have hx := S.1
  have hb := S.2.1
  have z0 : (0 : Int32).toInt = 0 := by decide
  have z1 : (1 : Int32).toInt = 1 := by decide
  have hl : lv_has ls 3 [(0, .ref (ad 0)), (1, .int p1)] := hl
  have hinX4 : ∀ w ∈ wsX40, w ∈ wsX4_lose := (fun _ h => List.mem_cons_of_mem _ (List.mem_append_right _ h))
  rw [f_X4_lose] at hG
  refine lv_iload_n hx hb dX4_lose_0 rfl (lv_at hl 1 rfl) ?_
  refine call0i (va_runS (As := [.int p1]) (rest := []) S (c_X4_noSheet l p1) (va_cwS 1 S.2.2.2.2 gX4_lose_X4_noSheet rfl rfl rfl hd_X4_noSheet ⟨Nat.le_of_ble_eq_true rfl, Nat.le_of_ble_eq_true rfl⟩) pre0S rfl rfl hl.1 rfl (lv_room (Nat.le_of_ble_eq_true rfl)) dX4_lose_1 ⟨Nat.zero_le _, Nat.zero_le _⟩) ?_
  refine lv_if_eq (tgt := 9) hx hb dX4_lose_4 (by decide) (fun c4 => ?_) (fun c4 => ?_)
  · have t4 := bf_noSheet_z c4
    rw [if_pos c4] at hG
    refine lv_aload_n hx hb dX4_lose_9 rfl (lv_at hl 0 rfl) ?_
    refine r_get (C := RX4) (T := TX4) (N := 25) S hK w (k := 0) (by decide) (eM_0 ad _) rfl hinX4 20 (by decide) (List.mem_of_getElem? (i := 1) rfl) rfl dX4_lose_10 ?_
    refine lv_iload_n hx hb dX4_lose_13 rfl (lv_at hl 1 rfl) ?_
    have g14 : vp_in p1 4 := vpi (by omega) (by omega)
    refine r_iald (cA := ad 100) (N := 4) S hK w (k := 14) (by decide) (fun f => rfl) rfl g14 dX4_lose_14 ?_
    have J15_23 : ∀ (k0_15_23 : Int32), (k0_15_23, (u2 σ 14 (ix p1) (-1))) = T → ∀ (H : Heap) (locs : List Loc), CW 18 (eM ad) ad D (CA 18 ad sz) s.heap σ H locs → ∀ ls : Array Slot, lv_has ls 3 [(0, .ref (ad 0)), (1, .int p1)] → W p l e (headSpec wsX4_lose ({ frames := 2, cells := 0, slots := 0, locals := 45 })).room s m ([.ref (ad 0), .int p1] : List Value).toArray below meth c H locs 0 0 (MQ below (QWi 18 (eM ad) ad D T (CA 18 ad sz)) ([.ref (ad 0), .int p1] : List Value).toArray s 0 0 (CA 18 ad sz)) (F0 m 23 ls [.int k0_15_23]) := by
      intro k0_15_23 hG H locs w ls hl
      refine lv_istore_n (lv' := [(2, .int k0_15_23), (0, .ref (ad 0)), (1, .int p1)]) hx hb dX4_lose_23 rfl hl (by decide) rfl (fun ls hl => ?_)
      refine lv_aload_n hx hb dX4_lose_24 rfl (lv_at hl 1 rfl) ?_
      refine r_get (C := RX4) (T := TX4) (N := 25) S hK w (k := 0) (by decide) (eM_0 ad _) rfl hinX4 20 (by decide) (List.mem_of_getElem? (i := 1) rfl) rfl dX4_lose_25 ?_
      refine lv_iload_n hx hb dX4_lose_28 rfl (lv_at hl 2 rfl) ?_
      refine lv_iconst (v := (-1)) hx hb dX4_lose_29 (by decide) ?_
      have g30 : vp_in p1 4 := vpi (by omega) (by omega)
      refine r_iast (cA := ad 100) (N := 4) S hK w (k := 14) (by decide) (fun f => rfl) rfl g30 dX4_lose_30 (fun H locs w => ?_)
      refine lv_iload_n hx hb dX4_lose_31 rfl (lv_at hl 0 rfl) ?_
      exact endWi S hr hlocks w hG dX4_lose_32
    refine lv_if_ge (tgt := 22) hx hb dX4_lose_15 (by decide) (fun c15 => ?_) (fun c15 => ?_)
    · have t15 : 0 ≤ (σ 14 (ix p1)).toInt := qt_le c15
      simp only [if_pos c15] at hG
      refine lv_iconst (v := 1) hx hb dX4_lose_22 (by decide) ?_
      exact J15_23 1 hG _ _ w ls (lv_sub hl [0, 1] rfl)
    · have t15 : (σ 14 (ix p1)).toInt < 0 := qt_nle c15
      simp only [if_neg c15] at hG
      refine lv_iconst (v := 0) hx hb dX4_lose_18 (by decide) ?_
      refine lv_goto (tgt := 23) hx hb dX4_lose_19 (by decide) ?_
      exact J15_23 0 hG _ _ w ls (lv_sub hl [0, 1] rfl)
  · rw [if_neg c4] at hG
    refine lv_iconst (v := (-1)) hx hb dX4_lose_7 (by decide) ?_
    exact endWi S hr hlocks w hG dX4_lose_8
set_option maxHeartbeats 4000000 in
set_option maxRecDepth 100000 in
theorem c_X4_noCell (l : Launch) (ad : Nat → Nat) (D : va_G) (sz : Nat) (σ : St) (p1 : Int32) (p2 : Int32) (hk : 0 ≤ p1.toInt ∧ p1.toInt < 4) : Met l yX4_noCell wsX4_noCell ({ frames := 1, cells := 0, slots := 0, locals := 25 }) (PreW 18 (eM ad) ad D (tyM ad) σ sz ([.ref (ad 0), .int p1, .int p2] : List Value)) (Q0i (f_X4_noCell σ p1 p2)) 0 0 N0 := by
  generalize hG : f_X4_noCell σ p1 p2 = T
  refine headW (cc := cX4_noCell) (maxL := 3) (ret := (some .int)) ([.ref (ad 0), .int p1, .int p2] : List Value) (by decide) rfl (Nat.le_of_ble_eq_true rfl) ?_
  intro p e s m below meth c S hr hlocks hK hN hsz w ls hl
  have S : CallFix p m c cX4_noCell 3 s ([.ref (ad 0), .int p1, .int p2] : List Value).toArray wsX4_noCell RX4 := S
  have hx := S.1
  have hb := S.2.1
  have z0 : (0 : Int32).toInt = 0 := by decide
  have z1 : (1 : Int32).toInt = 1 := by decide
  have hl : lv_has ls 3 [(0, .ref (ad 0)), (1, .int p1), (2, .int p2)] := hl
  have hinX4 : ∀ w ∈ wsX40, w ∈ wsX4_noCell := (fun _ h => List.mem_cons_of_mem _ (List.mem_append_right _ h))
  rw [f_X4_noCell] at hG
  refine lv_aload_n hx hb dX4_noCell_0 rfl (lv_at hl 0 rfl) ?_
  refine r_get (C := RX4) (T := TX4) (N := 25) S hK w (k := 0) (by decide) (eM_0 ad _) rfl hinX4 20 (by decide) (List.mem_of_getElem? (i := 1) rfl) rfl dX4_noCell_1 ?_
  refine lv_iload_n hx hb dX4_noCell_4 rfl (lv_at hl 1 rfl) ?_
  have g5 : vp_in p1 4 := vpi (by omega) (by omega)
  refine r_iald (cA := ad 100) (N := 4) S hK w (k := 14) (by decide) (fun f => rfl) rfl g5 dX4_noCell_5 ?_
  refine lv_if_ge (tgt := 13) hx hb dX4_noCell_6 (by decide) (fun c6 => ?_) (fun c6 => ?_)
  · have t6 : 0 ≤ (σ 14 (ix p1)).toInt := qt_le c6
    rw [if_pos c6] at hG
    refine lv_iload_n hx hb dX4_noCell_13 rfl (lv_at hl 2 rfl) ?_
    refine lv_i2l hx hb dX4_noCell_14 rfl ?_
    refine lv_lconst (v := 0) hx hb dX4_noCell_15 (by decide) ?_
    refine lv_aload_n hx hb dX4_noCell_16 rfl (lv_at hl 0 rfl) ?_
    refine r_get (C := RX4) (T := TX4) (N := 25) S hK w (k := 0) (by decide) (eM_0 ad _) rfl hinX4 20 (by decide) (List.mem_of_getElem? (i := 1) rfl) rfl dX4_noCell_17 ?_
    refine lv_iload_n hx hb dX4_noCell_20 rfl (lv_at hl 1 rfl) ?_
    have g21 : vp_in p1 4 := vpi (by omega) (by omega)
    refine r_iald (cA := ad 100) (N := 4) S hK w (k := 14) (by decide) (fun f => rfl) rfl g21 dX4_noCell_21 ?_
    refine lv_i2l hx hb dX4_noCell_22 rfl ?_
    refine lv_lconst (v := 1) hx hb dX4_noCell_23 (by decide) ?_
    refine lv_lsub hx hb dX4_noCell_24 ?_
    refine call0i (va_runS (As := [.long p2.toInt64, .long 0, .long (((σ 14 (ix p1)).toInt64) - 1)]) (rest := []) S (c_X4_in l p2.toInt64 0 (((σ 14 (ix p1)).toInt64) - 1)) (va_cwS 3 S.2.2.2.2 gX4_noCell_X4_in rfl rfl rfl hd_X4_in ⟨Nat.le_of_ble_eq_true rfl, Nat.le_of_ble_eq_true rfl⟩) pre0S rfl rfl hl.1 rfl (lv_room (Nat.le_of_ble_eq_true rfl)) dX4_noCell_25 ⟨Nat.zero_le _, Nat.zero_le _⟩) ?_
    refine lv_if_eq (tgt := 35) hx hb dX4_noCell_28 (by decide) (fun c28 => ?_) (fun c28 => ?_)
    · rw [if_pos c28] at hG
      refine lv_iconst (v := 3) hx hb dX4_noCell_35 (by decide) ?_
      exact end0i S hr hlocks hG dX4_noCell_36
    · have t28 := bf_in_n c28
      rw [if_neg c28] at hG
      refine lv_iconst (v := 0) hx hb dX4_noCell_31 (by decide) ?_
      refine lv_goto (tgt := 36) hx hb dX4_noCell_32 (by decide) ?_
      exact end0i S hr hlocks hG dX4_noCell_36
  · have t6 : (σ 14 (ix p1)).toInt < 0 := qt_nle c6
    rw [if_neg c6] at hG
    refine lv_iconst (v := 1) hx hb dX4_noCell_9 (by decide) ?_
    refine lv_goto (tgt := 36) hx hb dX4_noCell_10 (by decide) ?_
    exact end0i S hr hlocks hG dX4_noCell_36
set_option maxHeartbeats 4000000 in
set_option maxRecDepth 100000 in
theorem c_X4_put (l : Launch) (ad : Nat → Nat) (D : va_G) (sz : Nat) (σ : St) (p1 : Int32) (p2 : Int32) (p3 : Int32) (hok : OkM σ) : Met l yX4_put wsX4_put ({ frames := 2, cells := 0, slots := 0, locals := 47 }) (PreW 18 (eM ad) ad D (tyM ad) σ sz ([.ref (ad 0), .int p1, .int p2, .int p3] : List Value)) (QWi 18 (eM ad) ad D (f_X4_put σ p1 p2 p3) (CA 18 ad sz)) 0 0 (CA 18 ad sz) := by
  generalize hG : f_X4_put σ p1 p2 p3 = T
  refine headW (cc := cX4_put) (maxL := 4) (ret := (some .int)) ([.ref (ad 0), .int p1, .int p2, .int p3] : List Value) (by decide) rfl (Nat.le_of_ble_eq_true rfl) ?_
  intro p e s m below meth c S hr hlocks hK hN hsz w ls hl
  have S : CallFix p m c cX4_put 4 s ([.ref (ad 0), .int p1, .int p2, .int p3] : List Value).toArray wsX4_put RX4 := S
  have hx := S.1
  have hb := S.2.1
  have z0 : (0 : Int32).toInt = 0 := by decide
  have z1 : (1 : Int32).toInt = 1 := by decide
  have hl : lv_has ls 4 [(0, .ref (ad 0)), (1, .int p1), (2, .int p2), (3, .int p3)] := hl
  have hinX4 : ∀ w ∈ wsX40, w ∈ wsX4_put := (fun _ h => List.mem_cons_of_mem _ (List.mem_append_right _ h))
  have okf0 := hok.1
  have okf1 := hok.2.1
  have okf2 := hok.2.2.1
  have okf3 := hok.2.2.2.1
  have okf4 := hok.2.2.2.2.1
  have okf6 := hok.2.2.2.2.2.1
  have okf7 := hok.2.2.2.2.2.2.1
  have okf8 := hok.2.2.2.2.2.2.2
  rw [f_X4_put] at hG
  refine lv_iload_n hx hb dX4_put_0 rfl (lv_at hl 1 rfl) ?_
  refine call0i (va_runS (As := [.int p1]) (rest := []) S (c_X4_noSheet l p1) (va_cwS 1 S.2.2.2.2 gX4_put_X4_noSheet rfl rfl rfl hd_X4_noSheet ⟨Nat.le_of_ble_eq_true rfl, Nat.le_of_ble_eq_true rfl⟩) pre0S rfl rfl hl.1 rfl (lv_room (Nat.le_of_ble_eq_true rfl)) dX4_put_1 ⟨Nat.zero_le _, Nat.zero_le _⟩) ?_
  refine lv_if_eq (tgt := 13) hx hb dX4_put_4 (by decide) (fun c4 => ?_) (fun c4 => ?_)
  · have t4 := bf_noSheet_z c4
    rw [if_pos c4] at hG
    refine lv_aload_n hx hb dX4_put_13 rfl (lv_at hl 0 rfl) ?_
    refine lv_iload_n hx hb dX4_put_14 rfl (lv_at hl 1 rfl) ?_
    refine lv_iload_n hx hb dX4_put_15 rfl (lv_at hl 2 rfl) ?_
    refine call0i (va_runV (As := [.int p1, .int p2]) (rest := []) S (c_X4_noCell l ad D s.heap.size σ p1 p2 (by omega)) (cwV 2 S.2.2.2.2 gX4_put_X4_noCell rfl rfl rfl ⟨rfl, hd_X4_noCell⟩ ⟨Nat.le_of_ble_eq_true rfl, Nat.le_of_ble_eq_true rfl⟩) (preV hK hN w (k := 0) (by decide) (eM_0 ad _) (q := (RX4, TX4, 25)) rfl) rfl rfl hl.1 rfl (lv_room (Nat.le_of_ble_eq_true rfl)) dX4_put_16 ⟨Nat.zero_le _, Nat.zero_le _⟩) ?_
    refine lv_if_le (tgt := 33) hx hb dX4_put_19 (by decide) (fun c19 => ?_) (fun c19 => ?_)
    · have t19 : (f_X4_noCell σ p1 p2).toInt ≤ 0 := qt_le c19
      rw [if_pos c19] at hG
      have z := nc_z c19
      have z3 := okf3 (ix p1) (vpl (vpi (by omega) (by omega)))
      have e39 := km_toInt (a := p1) (k := 90) (z := 90) (by decide) (by omega) (by omega)
      have e42 := a_toInt (a := 90 * p1) (b := p2) (by omega) (by omega)
      refine lv_aload_n hx hb dX4_put_33 rfl (lv_at hl 0 rfl) ?_
      refine r_get (C := RX4) (T := TX4) (N := 25) S hK w (k := 0) (by decide) (eM_0 ad _) rfl hinX4 22 (by decide) (List.mem_of_getElem? (i := 1) rfl) rfl dX4_put_34 ?_
      refine lv_bipush (v := 90) hx hb dX4_put_37 (by decide) ?_
      refine lv_iload_n hx hb dX4_put_39 rfl (lv_at hl 1 rfl) ?_
      refine lv_imul hx hb dX4_put_40 ?_
      refine lv_iload_n hx hb dX4_put_41 rfl (lv_at hl 2 rfl) ?_
      refine lv_iadd hx hb dX4_put_42 ?_
      refine lv_aload_n hx hb dX4_put_43 rfl (lv_at hl 0 rfl) ?_
      refine r_get (C := RX4) (T := TX4) (N := 25) S hK w (k := 0) (by decide) (eM_0 ad _) rfl hinX4 21 (by decide) (List.mem_of_getElem? (i := 2) rfl) rfl dX4_put_44 ?_
      refine lv_iload_n hx hb dX4_put_47 rfl (lv_at hl 1 rfl) ?_
      have g48 : vp_in p1 4 := vpi (by omega) (by omega)
      refine r_iald (cA := ad 100) (N := 4) S hK w (k := 15) (by decide) (fun f => rfl) rfl g48 dX4_put_48 ?_
      have J49_73 : ∀ (k2_49_73 : Int32), ((f_X4_refused (u2 σ 16 (ix ((90 * p1) + p2)) k2_49_73) 1).1, (f_X4_refused (u2 σ 16 (ix ((90 * p1) + p2)) k2_49_73) 1).2) = T → ∀ (H : Heap) (locs : List Loc), CW 18 (eM ad) ad D (CA 18 ad sz) s.heap σ H locs → ∀ ls : Array Slot, lv_has ls 4 [(0, .ref (ad 0))] → W p l e (headSpec wsX4_put ({ frames := 2, cells := 0, slots := 0, locals := 47 })).room s m ([.ref (ad 0), .int p1, .int p2, .int p3] : List Value).toArray below meth c H locs 0 0 (MQ below (QWi 18 (eM ad) ad D T (CA 18 ad sz)) ([.ref (ad 0), .int p1, .int p2, .int p3] : List Value).toArray s 0 0 (CA 18 ad sz)) (F0 m 73 ls [.int k2_49_73, .int ((90 * p1) + p2), .ref (ad 16)]) := by
        intro k2_49_73 hG H locs w ls hl
        have g73 : vp_in ((90 * p1) + p2) 360 := vpi (by omega) (by omega)
        refine r_iast (cA := ad 100) (N := 360) S hK w (k := 16) (by decide) (fun f => rfl) rfl g73 dX4_put_73 (fun H locs w => ?_)
        have hok : OkM (u2 σ 16 (ix ((90 * p1) + p2)) k2_49_73) := okM_scr (show scrM 16 by unfold scrM; omega) hok
        have okf0 := hok.1
        have okf1 := hok.2.1
        have okf2 := hok.2.2.1
        have okf3 := hok.2.2.2.1
        have okf4 := hok.2.2.2.2.1
        have okf6 := hok.2.2.2.2.2.1
        have okf7 := hok.2.2.2.2.2.2.1
        have okf8 := hok.2.2.2.2.2.2.2
        refine lv_aload_n hx hb dX4_put_74 rfl (lv_at hl 0 rfl) ?_
        refine lv_iconst (v := 1) hx hb dX4_put_75 (by decide) ?_
        refine callWi w (va_runV (As := [.int 1]) (rest := []) S (c_X4_refused l ad D H.size (u2 σ 16 (ix ((90 * p1) + p2)) k2_49_73) 1) (cwV 1 S.2.2.2.2 gX4_put_X4_refused rfl rfl rfl ⟨rfl, hd_X4_refused⟩ ⟨Nat.le_of_ble_eq_true rfl, Nat.le_of_ble_eq_true rfl⟩) (preV hK hN w (k := 0) (by decide) (eM_0 ad _) (q := (RX4, TX4, 25)) rfl) rfl rfl hl.1 rfl (lv_room (Nat.le_of_ble_eq_true rfl)) dX4_put_76 ⟨Nat.zero_le _, Nat.zero_le _⟩) (fun H locs w => ?_)
        exact endWi S hr hlocks w hG dX4_put_79
      refine lv_if_ne (tgt := 57) hx hb dX4_put_49 (by decide) (fun c49 => ?_) (fun c49 => ?_)
      · have t49 : (σ 15 (ix p1)).toInt ≠ 0 := qt_ne c49
        simp only [if_neg c49] at hG
        refine lv_aload_n hx hb dX4_put_57 rfl (lv_at hl 0 rfl) ?_
        refine r_get (C := RX4) (T := TX4) (N := 25) S hK w (k := 0) (by decide) (eM_0 ad _) rfl hinX4 21 (by decide) (List.mem_of_getElem? (i := 2) rfl) rfl dX4_put_58 ?_
        refine lv_iload_n hx hb dX4_put_61 rfl (lv_at hl 1 rfl) ?_
        have g62 : vp_in p1 4 := vpi (by omega) (by omega)
        refine r_iald (cA := ad 100) (N := 4) S hK w (k := 15) (by decide) (fun f => rfl) rfl g62 dX4_put_62 ?_
        refine lv_iconst (v := 1) hx hb dX4_put_63 (by decide) ?_
        refine lv_icmp_ne (tgt := 72) hx hb dX4_put_64 (by decide) (fun c64 => ?_) (fun c64 => ?_)
        · have t64 : (σ 15 (ix p1)).toInt ≠ 1 := qt_ne c64
          simp only [if_neg c64] at hG
          refine lv_iload_n hx hb dX4_put_72 rfl (lv_at hl 3 rfl) ?_
          exact J49_73 p3 hG _ _ w ls (lv_sub hl [0] rfl)
        · have t64 : (σ 15 (ix p1)).toInt = 1 := qt_eq c64
          simp only [if_pos c64] at hG
          refine lv_iload_n hx hb dX4_put_67 rfl (lv_at hl 3 rfl) ?_
          refine lv_i2s hx hb dX4_put_68 rfl ?_
          refine lv_goto (tgt := 73) hx hb dX4_put_69 (by decide) ?_
          exact J49_73 p3.toInt16.toInt32 hG _ _ w ls (lv_sub hl [0] rfl)
      · have t49 : (σ 15 (ix p1)).toInt = 0 := qt_eq c49
        simp only [if_pos c49] at hG
        refine lv_iload_n hx hb dX4_put_52 rfl (lv_at hl 3 rfl) ?_
        refine lv_i2b hx hb dX4_put_53 rfl ?_
        refine lv_goto (tgt := 73) hx hb dX4_put_54 (by decide) ?_
        exact J49_73 p3.toInt8.toInt32 hG _ _ w ls (lv_sub hl [0] rfl)
    · have t19 : 0 < (f_X4_noCell σ p1 p2).toInt := qt_nle c19
      rw [if_neg c19] at hG
      refine lv_aload_n hx hb dX4_put_22 rfl (lv_at hl 0 rfl) ?_
      refine lv_aload_n hx hb dX4_put_23 rfl (lv_at hl 0 rfl) ?_
      refine lv_iload_n hx hb dX4_put_24 rfl (lv_at hl 1 rfl) ?_
      refine lv_iload_n hx hb dX4_put_25 rfl (lv_at hl 2 rfl) ?_
      refine call0i (va_runV (As := [.int p1, .int p2]) (rest := [.ref (ad 0)]) S (c_X4_noCell l ad D s.heap.size σ p1 p2 (by omega)) (cwV 2 S.2.2.2.2 gX4_put_X4_noCell rfl rfl rfl ⟨rfl, hd_X4_noCell⟩ ⟨Nat.le_of_ble_eq_true rfl, Nat.le_of_ble_eq_true rfl⟩) (preV hK hN w (k := 0) (by decide) (eM_0 ad _) (q := (RX4, TX4, 25)) rfl) rfl rfl hl.1 rfl (lv_room (Nat.le_of_ble_eq_true rfl)) dX4_put_26 ⟨Nat.zero_le _, Nat.zero_le _⟩) ?_
      refine callWi w (va_runV (As := [.int (f_X4_noCell σ p1 p2)]) (rest := []) S (c_X4_failed l ad D s.heap.size σ (f_X4_noCell σ p1 p2)) (cwV 1 S.2.2.2.2 gX4_put_X4_failed rfl rfl rfl ⟨rfl, hd_X4_failed⟩ ⟨Nat.le_of_ble_eq_true rfl, Nat.le_of_ble_eq_true rfl⟩) (preV hK hN w (k := 0) (by decide) (eM_0 ad _) (q := (RX4, TX4, 25)) rfl) rfl rfl hl.1 rfl (lv_room (Nat.le_of_ble_eq_true rfl)) dX4_put_29 ⟨Nat.zero_le _, Nat.zero_le _⟩) (fun H locs w => ?_)
      exact endWi S hr hlocks w hG dX4_put_32
  · rw [if_neg c4] at hG
    refine lv_aload_n hx hb dX4_put_7 rfl (lv_at hl 0 rfl) ?_
    refine lv_iconst (v := (-1)) hx hb dX4_put_8 (by decide) ?_
    refine callWi w (va_runV (As := [.int (-1)]) (rest := []) S (c_X4_refused l ad D s.heap.size σ (-1)) (cwV 1 S.2.2.2.2 gX4_put_X4_refused rfl rfl rfl ⟨rfl, hd_X4_refused⟩ ⟨Nat.le_of_ble_eq_true rfl, Nat.le_of_ble_eq_true rfl⟩) (preV hK hN w (k := 0) (by decide) (eM_0 ad _) (q := (RX4, TX4, 25)) rfl) rfl rfl hl.1 rfl (lv_room (Nat.le_of_ble_eq_true rfl)) dX4_put_9 ⟨Nat.zero_le _, Nat.zero_le _⟩) (fun H locs w => ?_)
    exact endWi S hr hlocks w hG dX4_put_12
set_option maxHeartbeats 4000000 in
set_option maxRecDepth 100000 in
theorem c_X4_cell (l : Launch) (ad : Nat → Nat) (D : va_G) (sz : Nat) (σ : St) (p1 : Int32) (p2 : Int32) (p3 : Int32) (hok : OkM σ) : Met l yX4_cell wsX4_cell ({ frames := 2, cells := 0, slots := 0, locals := 47 }) (PreW 18 (eM ad) ad D (tyM ad) σ sz ([.ref (ad 0), .int p1, .int p2, .int p3] : List Value)) (QWl 18 (eM ad) ad D (f_X4_cell σ p1 p2 p3) (CA 18 ad sz)) 0 0 (CA 18 ad sz) := by
  generalize hG : f_X4_cell σ p1 p2 p3 = T
  refine headW (cc := cX4_cell) (maxL := 4) (ret := (some .long)) ([.ref (ad 0), .int p1, .int p2, .int p3] : List Value) (by decide) rfl (Nat.le_of_ble_eq_true rfl) ?_
  intro p e s m below meth c S hr hlocks hK hN hsz w ls hl
  have S : CallFix p m c cX4_cell 4 s ([.ref (ad 0), .int p1, .int p2, .int p3] : List Value).toArray wsX4_cell RX4 := S
  have hx := S.1
  have hb := S.2.1
  have z0 : (0 : Int32).toInt = 0 := by decide
  have z1 : (1 : Int32).toInt = 1 := by decide
  have hl : lv_has ls 4 [(0, .ref (ad 0)), (1, .int p1), (2, .int p2), (3, .int p3)] := hl
  have hinX4 : ∀ w ∈ wsX40, w ∈ wsX4_cell := (fun _ h => List.mem_cons_of_mem _ (List.mem_append_right _ h))
  have okf0 := hok.1
  have okf1 := hok.2.1
  have okf2 := hok.2.2.1
  have okf3 := hok.2.2.2.1
  have okf4 := hok.2.2.2.2.1
  have okf6 := hok.2.2.2.2.2.1
  have okf7 := hok.2.2.2.2.2.2.1
  have okf8 := hok.2.2.2.2.2.2.2
  rw [f_X4_cell] at hG
  refine lv_aload_n hx hb dX4_cell_0 rfl (lv_at hl 0 rfl) ?_
  refine lv_iconst (v := 0) hx hb dX4_cell_1 (by decide) ?_
  refine r_put (C := RX4) (T := TX4) (N := 25) S hK w (k := 0) (by decide) (eM_0 ad _) rfl hinX4 tyX4 tyX4_ok nmX4 0 (by decide) (List.mem_of_getElem? (i := 1) rfl) rfl (x := 0) (ty := .int) (by decide +kernel) rfl rfl (by show _ < List.length _; exact Nat.le_of_ble_eq_true rfl) (sM ad _ _ 0 (by decide)) dX4_cell_2 (fun H locs w => ?_)
  have hok : OkM (u2 σ 0 0 0) := okM_obj (by decide) hok
  have okf0 := hok.1
  have okf1 := hok.2.1
  have okf2 := hok.2.2.1
  have okf3 := hok.2.2.2.1
  have okf4 := hok.2.2.2.2.1
  have okf6 := hok.2.2.2.2.2.1
  have okf7 := hok.2.2.2.2.2.2.1
  have okf8 := hok.2.2.2.2.2.2.2
  refine lv_iload_n hx hb dX4_cell_5 rfl (lv_at hl 1 rfl) ?_
  refine call0i (va_runS (As := [.int p1]) (rest := []) S (c_X4_noSheet l p1) (va_cwS 1 S.2.2.2.2 gX4_cell_X4_noSheet rfl rfl rfl hd_X4_noSheet ⟨Nat.le_of_ble_eq_true rfl, Nat.le_of_ble_eq_true rfl⟩) pre0S rfl rfl hl.1 rfl (lv_room (Nat.le_of_ble_eq_true rfl)) dX4_cell_6 ⟨Nat.zero_le _, Nat.zero_le _⟩) ?_
  refine lv_if_ne (tgt := 24) hx hb dX4_cell_9 (by decide) (fun c9 => ?_) (fun c9 => ?_)
  · rw [if_neg c9] at hG
    refine call0l (va_runS (As := []) (rest := []) S (c_X4_lost l) (va_cwS 0 S.2.2.2.2 gX4_cell_X4_lost rfl rfl rfl hd_X4_lost ⟨Nat.le_of_ble_eq_true rfl, Nat.le_of_ble_eq_true rfl⟩) pre0S rfl rfl hl.1 rfl (lv_room (Nat.le_of_ble_eq_true rfl)) dX4_cell_24 ⟨Nat.zero_le _, Nat.zero_le _⟩) ?_
    exact endWl S hr hlocks w hG dX4_cell_27
  · have t9 := bf_noSheet_z c9
    rw [if_pos c9] at hG
    refine lv_iload_n hx hb dX4_cell_12 rfl (lv_at hl 3 rfl) ?_
    refine lv_i2l hx hb dX4_cell_13 rfl ?_
    refine lv_lconst (v := 0) hx hb dX4_cell_14 (by decide) ?_
    refine lv_ldc2 hx hb S.2.2.2.1 (S.2.2.2.2 _ (List.mem_of_getElem? (i := 2) rfl)) dX4_cell_15 ?_
    refine call0i (va_runS (As := [.long p3.toInt64, .long 0, .long 2]) (rest := []) S (c_X4_in l p3.toInt64 0 2) (va_cwS 3 S.2.2.2.2 gX4_cell_X4_in rfl rfl rfl hd_X4_in ⟨Nat.le_of_ble_eq_true rfl, Nat.le_of_ble_eq_true rfl⟩) pre0S rfl rfl hl.1 rfl (lv_room (Nat.le_of_ble_eq_true rfl)) dX4_cell_18 ⟨Nat.zero_le _, Nat.zero_le _⟩) ?_
    refine lv_if_ne (tgt := 28) hx hb dX4_cell_21 (by decide) (fun c21 => ?_) (fun c21 => ?_)
    · have t21 := bf_in_n c21
      rw [if_neg c21] at hG
      refine lv_aload_n hx hb dX4_cell_28 rfl (lv_at hl 0 rfl) ?_
      refine r_get (C := RX4) (T := TX4) (N := 25) S hK w (k := 0) (by decide) (eM_0 ad _) rfl hinX4 20 (by decide) (List.mem_of_getElem? (i := 3) rfl) rfl dX4_cell_29 ?_
      refine lv_iload_n hx hb dX4_cell_32 rfl (lv_at hl 1 rfl) ?_
      have g33 : vp_in p1 4 := vpi (by omega) (by omega)
      refine r_iald (cA := ad 100) (N := 4) S hK w (k := 14) (by decide) (fun f => rfl) rfl g33 dX4_cell_33 ?_
      refine lv_if_lt (tgt := 53) hx hb dX4_cell_34 (by decide) (fun c34 => ?_) (fun c34 => ?_)
      · have t34 : ((u2 σ 0 0 0) 14 (ix p1)).toInt < 0 := qt_lt c34
        rw [if_pos c34] at hG
        refine lv_aload_n hx hb dX4_cell_53 rfl (lv_at hl 0 rfl) ?_
        refine lv_iload_n hx hb dX4_cell_54 rfl (lv_at hl 1 rfl) ?_
        refine lv_iload_n hx hb dX4_cell_55 rfl (lv_at hl 2 rfl) ?_
        refine call0i (va_runV (As := [.int p1, .int p2]) (rest := []) S (c_X4_noCell l ad D H.size (u2 σ 0 0 0) p1 p2 (by omega)) (cwV 2 S.2.2.2.2 gX4_cell_X4_noCell rfl rfl rfl ⟨rfl, hd_X4_noCell⟩ ⟨Nat.le_of_ble_eq_true rfl, Nat.le_of_ble_eq_true rfl⟩) (preV hK hN w (k := 0) (by decide) (eM_0 ad _) (q := (RX4, TX4, 25)) rfl) rfl rfl hl.1 rfl (lv_room (Nat.le_of_ble_eq_true rfl)) dX4_cell_56 ⟨Nat.zero_le _, Nat.zero_le _⟩) ?_
        refine lv_if_le (tgt := 75) hx hb dX4_cell_59 (by decide) (fun c59 => ?_) (fun c59 => ?_)
        · have t59 : (f_X4_noCell (u2 σ 0 0 0) p1 p2).toInt ≤ 0 := qt_le c59
          rw [if_pos c59] at hG
          have z := nc_z c59
          have z3 := okf3 (ix p1) (vpl (vpi (by omega) (by omega)))
          have e39 := km_toInt (a := p1) (k := 90) (z := 90) (by decide) (by omega) (by omega)
          have e42 := a_toInt (a := 90 * p1) (b := p2) (by omega) (by omega)
          refine lv_aload_n hx hb dX4_cell_75 rfl (lv_at hl 0 rfl) ?_
          refine r_get (C := RX4) (T := TX4) (N := 25) S hK w (k := 0) (by decide) (eM_0 ad _) rfl hinX4 22 (by decide) (List.mem_of_getElem? (i := 5) rfl) rfl dX4_cell_76 ?_
          refine lv_bipush (v := 90) hx hb dX4_cell_79 (by decide) ?_
          refine lv_iload_n hx hb dX4_cell_81 rfl (lv_at hl 1 rfl) ?_
          refine lv_imul hx hb dX4_cell_82 ?_
          refine lv_iload_n hx hb dX4_cell_83 rfl (lv_at hl 2 rfl) ?_
          refine lv_iadd hx hb dX4_cell_84 ?_
          have g85 : vp_in ((90 * p1) + p2) 360 := vpi (by omega) (by omega)
          refine r_iald (cA := ad 100) (N := 360) S hK w (k := 16) (by decide) (fun f => rfl) rfl g85 dX4_cell_85 ?_
          refine lv_i2l hx hb dX4_cell_86 rfl ?_
          exact endWl S hr hlocks w hG dX4_cell_87
        · have t59 : 0 < (f_X4_noCell (u2 σ 0 0 0) p1 p2).toInt := qt_nle c59
          rw [if_neg c59] at hG
          refine lv_aload_n hx hb dX4_cell_62 rfl (lv_at hl 0 rfl) ?_
          refine lv_aload_n hx hb dX4_cell_63 rfl (lv_at hl 0 rfl) ?_
          refine lv_iload_n hx hb dX4_cell_64 rfl (lv_at hl 1 rfl) ?_
          refine lv_iload_n hx hb dX4_cell_65 rfl (lv_at hl 2 rfl) ?_
          refine call0i (va_runV (As := [.int p1, .int p2]) (rest := [.ref (ad 0)]) S (c_X4_noCell l ad D H.size (u2 σ 0 0 0) p1 p2 (by omega)) (cwV 2 S.2.2.2.2 gX4_cell_X4_noCell rfl rfl rfl ⟨rfl, hd_X4_noCell⟩ ⟨Nat.le_of_ble_eq_true rfl, Nat.le_of_ble_eq_true rfl⟩) (preV hK hN w (k := 0) (by decide) (eM_0 ad _) (q := (RX4, TX4, 25)) rfl) rfl rfl hl.1 rfl (lv_room (Nat.le_of_ble_eq_true rfl)) dX4_cell_66 ⟨Nat.zero_le _, Nat.zero_le _⟩) ?_
          refine callWl w (va_runV (As := [.int (f_X4_noCell (u2 σ 0 0 0) p1 p2)]) (rest := []) S (c_X4_failedLong l ad D H.size (u2 σ 0 0 0) (f_X4_noCell (u2 σ 0 0 0) p1 p2)) (cwV 1 S.2.2.2.2 gX4_cell_X4_failedLong rfl rfl rfl ⟨rfl, hd_X4_failedLong⟩ ⟨Nat.le_of_ble_eq_true rfl, Nat.le_of_ble_eq_true rfl⟩) (preV hK hN w (k := 0) (by decide) (eM_0 ad _) (q := (RX4, TX4, 25)) rfl) rfl rfl hl.1 rfl (lv_room (Nat.le_of_ble_eq_true rfl)) dX4_cell_69 ⟨Nat.zero_le _, Nat.zero_le _⟩) (fun H locs w => ?_)
          refine lv_goto (tgt := 87) hx hb dX4_cell_72 (by decide) ?_
          exact endWl S hr hlocks w hG dX4_cell_87
      · have t34 : 0 ≤ ((u2 σ 0 0 0) 14 (ix p1)).toInt := qt_nlt c34
        rw [if_neg c34] at hG
        refine lv_aload_n hx hb dX4_cell_37 rfl (lv_at hl 0 rfl) ?_
        refine r_get (C := RX4) (T := TX4) (N := 25) S hK w (k := 0) (by decide) (eM_0 ad _) rfl hinX4 21 (by decide) (List.mem_of_getElem? (i := 4) rfl) rfl dX4_cell_38 ?_
        refine lv_iload_n hx hb dX4_cell_41 rfl (lv_at hl 1 rfl) ?_
        have g42 : vp_in p1 4 := vpi (by omega) (by omega)
        refine r_iald (cA := ad 100) (N := 4) S hK w (k := 15) (by decide) (fun f => rfl) rfl g42 dX4_cell_42 ?_
        refine lv_iload_n hx hb dX4_cell_43 rfl (lv_at hl 3 rfl) ?_
        refine lv_icmp_eq (tgt := 53) hx hb dX4_cell_44 (by decide) (fun c44 => ?_) (fun c44 => ?_)
        · have t44 : ((u2 σ 0 0 0) 15 (ix p1)).toInt = p3.toInt := qt_eq c44
          rw [if_pos c44] at hG
          refine lv_aload_n hx hb dX4_cell_53 rfl (lv_at hl 0 rfl) ?_
          refine lv_iload_n hx hb dX4_cell_54 rfl (lv_at hl 1 rfl) ?_
          refine lv_iload_n hx hb dX4_cell_55 rfl (lv_at hl 2 rfl) ?_
          refine call0i (va_runV (As := [.int p1, .int p2]) (rest := []) S (c_X4_noCell l ad D H.size (u2 σ 0 0 0) p1 p2 (by omega)) (cwV 2 S.2.2.2.2 gX4_cell_X4_noCell rfl rfl rfl ⟨rfl, hd_X4_noCell⟩ ⟨Nat.le_of_ble_eq_true rfl, Nat.le_of_ble_eq_true rfl⟩) (preV hK hN w (k := 0) (by decide) (eM_0 ad _) (q := (RX4, TX4, 25)) rfl) rfl rfl hl.1 rfl (lv_room (Nat.le_of_ble_eq_true rfl)) dX4_cell_56 ⟨Nat.zero_le _, Nat.zero_le _⟩) ?_
          refine lv_if_le (tgt := 75) hx hb dX4_cell_59 (by decide) (fun c59 => ?_) (fun c59 => ?_)
          · have t59 : (f_X4_noCell (u2 σ 0 0 0) p1 p2).toInt ≤ 0 := qt_le c59
            rw [if_pos c59] at hG
            have z := nc_z c59
            have z3 := okf3 (ix p1) (vpl (vpi (by omega) (by omega)))
            have e39 := km_toInt (a := p1) (k := 90) (z := 90) (by decide) (by omega) (by omega)
            have e42 := a_toInt (a := 90 * p1) (b := p2) (by omega) (by omega)
            refine lv_aload_n hx hb dX4_cell_75 rfl (lv_at hl 0 rfl) ?_
            refine r_get (C := RX4) (T := TX4) (N := 25) S hK w (k := 0) (by decide) (eM_0 ad _) rfl hinX4 22 (by decide) (List.mem_of_getElem? (i := 5) rfl) rfl dX4_cell_76 ?_
            refine lv_bipush (v := 90) hx hb dX4_cell_79 (by decide) ?_
            refine lv_iload_n hx hb dX4_cell_81 rfl (lv_at hl 1 rfl) ?_
            refine lv_imul hx hb dX4_cell_82 ?_
            refine lv_iload_n hx hb dX4_cell_83 rfl (lv_at hl 2 rfl) ?_
            refine lv_iadd hx hb dX4_cell_84 ?_
            have g85 : vp_in ((90 * p1) + p2) 360 := vpi (by omega) (by omega)
            refine r_iald (cA := ad 100) (N := 360) S hK w (k := 16) (by decide) (fun f => rfl) rfl g85 dX4_cell_85 ?_
            refine lv_i2l hx hb dX4_cell_86 rfl ?_
            exact endWl S hr hlocks w hG dX4_cell_87
          · have t59 : 0 < (f_X4_noCell (u2 σ 0 0 0) p1 p2).toInt := qt_nle c59
            rw [if_neg c59] at hG
            refine lv_aload_n hx hb dX4_cell_62 rfl (lv_at hl 0 rfl) ?_
            refine lv_aload_n hx hb dX4_cell_63 rfl (lv_at hl 0 rfl) ?_
            refine lv_iload_n hx hb dX4_cell_64 rfl (lv_at hl 1 rfl) ?_
            refine lv_iload_n hx hb dX4_cell_65 rfl (lv_at hl 2 rfl) ?_
            refine call0i (va_runV (As := [.int p1, .int p2]) (rest := [.ref (ad 0)]) S (c_X4_noCell l ad D H.size (u2 σ 0 0 0) p1 p2 (by omega)) (cwV 2 S.2.2.2.2 gX4_cell_X4_noCell rfl rfl rfl ⟨rfl, hd_X4_noCell⟩ ⟨Nat.le_of_ble_eq_true rfl, Nat.le_of_ble_eq_true rfl⟩) (preV hK hN w (k := 0) (by decide) (eM_0 ad _) (q := (RX4, TX4, 25)) rfl) rfl rfl hl.1 rfl (lv_room (Nat.le_of_ble_eq_true rfl)) dX4_cell_66 ⟨Nat.zero_le _, Nat.zero_le _⟩) ?_
            refine callWl w (va_runV (As := [.int (f_X4_noCell (u2 σ 0 0 0) p1 p2)]) (rest := []) S (c_X4_failedLong l ad D H.size (u2 σ 0 0 0) (f_X4_noCell (u2 σ 0 0 0) p1 p2)) (cwV 1 S.2.2.2.2 gX4_cell_X4_failedLong rfl rfl rfl ⟨rfl, hd_X4_failedLong⟩ ⟨Nat.le_of_ble_eq_true rfl, Nat.le_of_ble_eq_true rfl⟩) (preV hK hN w (k := 0) (by decide) (eM_0 ad _) (q := (RX4, TX4, 25)) rfl) rfl rfl hl.1 rfl (lv_room (Nat.le_of_ble_eq_true rfl)) dX4_cell_69 ⟨Nat.zero_le _, Nat.zero_le _⟩) (fun H locs w => ?_)
            refine lv_goto (tgt := 87) hx hb dX4_cell_72 (by decide) ?_
            exact endWl S hr hlocks w hG dX4_cell_87
        · have t44 : ((u2 σ 0 0 0) 15 (ix p1)).toInt ≠ p3.toInt := qt_ne c44
          rw [if_neg c44] at hG
          refine lv_aload_n hx hb dX4_cell_47 rfl (lv_at hl 0 rfl) ?_
          refine lv_iconst (v := 2) hx hb dX4_cell_48 (by decide) ?_
          refine callWl w (va_runV (As := [.int 2]) (rest := []) S (c_X4_failedLong l ad D H.size (u2 σ 0 0 0) 2) (cwV 1 S.2.2.2.2 gX4_cell_X4_failedLong rfl rfl rfl ⟨rfl, hd_X4_failedLong⟩ ⟨Nat.le_of_ble_eq_true rfl, Nat.le_of_ble_eq_true rfl⟩) (preV hK hN w (k := 0) (by decide) (eM_0 ad _) (q := (RX4, TX4, 25)) rfl) rfl rfl hl.1 rfl (lv_room (Nat.le_of_ble_eq_true rfl)) dX4_cell_49 ⟨Nat.zero_le _, Nat.zero_le _⟩) (fun H locs w => ?_)
          exact endWl S hr hlocks w hG dX4_cell_52
    · rw [if_pos c21] at hG
      refine call0l (va_runS (As := []) (rest := []) S (c_X4_lost l) (va_cwS 0 S.2.2.2.2 gX4_cell_X4_lost rfl rfl rfl hd_X4_lost ⟨Nat.le_of_ble_eq_true rfl, Nat.le_of_ble_eq_true rfl⟩) pre0S rfl rfl hl.1 rfl (lv_room (Nat.le_of_ble_eq_true rfl)) dX4_cell_24 ⟨Nat.zero_le _, Nat.zero_le _⟩) ?_
      exact endWl S hr hlocks w hG dX4_cell_27
set_option maxHeartbeats 4000000 in
set_option maxRecDepth 100000 in
theorem c_X4_copy (l : Launch) (ad : Nat → Nat) (D : va_G) (sz : Nat) (σ : St) (p1 : Int32) (p2 : Int32) (p3 : Int32) (p4 : Int32) (p5 : Int32) (hok : OkM σ) : Met l yX4_copy wsX4_copy ({ frames := 2, cells := 0, slots := 0, locals := 45 }) (PreW 18 (eM ad) ad D (tyM ad) σ sz ([.ref (ad 0), .int p1, .int p2, .int p3, .int p4, .int p5] : List Value)) (QWi 18 (eM ad) ad D (f_X4_copy σ p1 p2 p3 p4 p5) (CA 18 ad sz)) 0 0 (CA 18 ad sz) := by
  generalize hG : f_X4_copy σ p1 p2 p3 p4 p5 = T
  refine headW (cc := cX4_copy) (maxL := 7) (ret := (some .int)) ([.ref (ad 0), .int p1, .int p2, .int p3, .int p4, .int p5] : List Value) (by decide) rfl (Nat.le_of_ble_eq_true rfl) ?_
  intro p e s m below meth c S hr hlocks hK hN hsz w ls hl
  have S : CallFix p m c cX4_copy 7 s ([.ref (ad 0), .int p1, .int p2, .int p3, .int p4, .int p5] : List Value).toArray wsX4_copy RX4 := S
  have hx := S.1
  have hb := S.2.1
  have z0 : (0 : Int32).toInt = 0 := by decide
  have z1 : (1 : Int32).toInt = 1 := by decide
  have hl : lv_has ls 7 [(0, .ref (ad 0)), (1, .int p1), (2, .int p2), (3, .int p3), (4, .int p4), (5, .int p5)] := hl
  have hinX4 : ∀ w ∈ wsX40, w ∈ wsX4_copy := (fun _ h => List.mem_cons_of_mem _ (List.mem_append_right _ h))
  have okf0 := hok.1
  have okf1 := hok.2.1
  have okf2 := hok.2.2.1
  have okf3 := hok.2.2.2.1
  have okf4 := hok.2.2.2.2.1
  have okf6 := hok.2.2.2.2.2.1
  have okf7 := hok.2.2.2.2.2.2.1
  have okf8 := hok.2.2.2.2.2.2.2
  rw [f_X4_copy] at hG
  refine lv_iload_n hx hb dX4_copy_0 rfl (lv_at hl 1 rfl) ?_
  refine call0i (va_runS (As := [.int p1]) (rest := []) S (c_X4_noSheet l p1) (va_cwS 1 S.2.2.2.2 gX4_copy_X4_noSheet rfl rfl rfl hd_X4_noSheet ⟨Nat.le_of_ble_eq_true rfl, Nat.le_of_ble_eq_true rfl⟩) pre0S rfl rfl hl.1 rfl (lv_room (Nat.le_of_ble_eq_true rfl)) dX4_copy_1 ⟨Nat.zero_le _, Nat.zero_le _⟩) ?_
  refine lv_if_ne (tgt := 14) hx hb dX4_copy_4 (by decide) (fun c4 => ?_) (fun c4 => ?_)
  · rw [if_neg c4] at hG
    refine lv_aload_n hx hb dX4_copy_14 rfl (lv_at hl 0 rfl) ?_
    refine lv_iconst (v := (-1)) hx hb dX4_copy_15 (by decide) ?_
    refine callWi w (va_runV (As := [.int (-1)]) (rest := []) S (c_X4_refused l ad D s.heap.size σ (-1)) (cwV 1 S.2.2.2.2 gX4_copy_X4_refused rfl rfl rfl ⟨rfl, hd_X4_refused⟩ ⟨Nat.le_of_ble_eq_true rfl, Nat.le_of_ble_eq_true rfl⟩) (preV hK hN w (k := 0) (by decide) (eM_0 ad _) (q := (RX4, TX4, 25)) rfl) rfl rfl hl.1 rfl (lv_room (Nat.le_of_ble_eq_true rfl)) dX4_copy_16 ⟨Nat.zero_le _, Nat.zero_le _⟩) (fun H locs w => ?_)
    exact endWi S hr hlocks w hG dX4_copy_19
  · have t4 := bf_noSheet_z c4
    rw [if_pos c4] at hG
    refine lv_iload_n hx hb dX4_copy_7 rfl (lv_at hl 3 rfl) ?_
    refine call0i (va_runS (As := [.int p3]) (rest := []) S (c_X4_noSheet l p3) (va_cwS 1 S.2.2.2.2 gX4_copy_X4_noSheet rfl rfl rfl hd_X4_noSheet ⟨Nat.le_of_ble_eq_true rfl, Nat.le_of_ble_eq_true rfl⟩) pre0S rfl rfl hl.1 rfl (lv_room (Nat.le_of_ble_eq_true rfl)) dX4_copy_8 ⟨Nat.zero_le _, Nat.zero_le _⟩) ?_
    refine lv_if_eq (tgt := 20) hx hb dX4_copy_11 (by decide) (fun c11 => ?_) (fun c11 => ?_)
    · have t11 := bf_noSheet_z c11
      rw [if_pos c11] at hG
      refine lv_aload_n hx hb dX4_copy_20 rfl (lv_at hl 0 rfl) ?_
      refine r_get (C := RX4) (T := TX4) (N := 25) S hK w (k := 0) (by decide) (eM_0 ad _) rfl hinX4 20 (by decide) (List.mem_of_getElem? (i := 1) rfl) rfl dX4_copy_21 ?_
      refine lv_iload_n hx hb dX4_copy_24 rfl (lv_at hl 1 rfl) ?_
      have g25 : vp_in p1 4 := vpi (by omega) (by omega)
      refine r_iald (cA := ad 100) (N := 4) S hK w (k := 14) (by decide) (fun f => rfl) rfl g25 dX4_copy_25 ?_
      refine lv_if_lt (tgt := 38) hx hb dX4_copy_26 (by decide) (fun c26 => ?_) (fun c26 => ?_)
      · have t26 : (σ 14 (ix p1)).toInt < 0 := qt_lt c26
        rw [if_pos c26] at hG
        refine lv_aload_n hx hb dX4_copy_38 rfl (lv_at hl 0 rfl) ?_
        refine lv_iconst (v := 1) hx hb dX4_copy_39 (by decide) ?_
        refine callWi w (va_runV (As := [.int 1]) (rest := []) S (c_X4_failed l ad D s.heap.size σ 1) (cwV 1 S.2.2.2.2 gX4_copy_X4_failed rfl rfl rfl ⟨rfl, hd_X4_failed⟩ ⟨Nat.le_of_ble_eq_true rfl, Nat.le_of_ble_eq_true rfl⟩) (preV hK hN w (k := 0) (by decide) (eM_0 ad _) (q := (RX4, TX4, 25)) rfl) rfl rfl hl.1 rfl (lv_room (Nat.le_of_ble_eq_true rfl)) dX4_copy_40 ⟨Nat.zero_le _, Nat.zero_le _⟩) (fun H locs w => ?_)
        exact endWi S hr hlocks w hG dX4_copy_43
      · have t26 : 0 ≤ (σ 14 (ix p1)).toInt := qt_nlt c26
        rw [if_neg c26] at hG
        refine lv_aload_n hx hb dX4_copy_29 rfl (lv_at hl 0 rfl) ?_
        refine r_get (C := RX4) (T := TX4) (N := 25) S hK w (k := 0) (by decide) (eM_0 ad _) rfl hinX4 20 (by decide) (List.mem_of_getElem? (i := 1) rfl) rfl dX4_copy_30 ?_
        refine lv_iload_n hx hb dX4_copy_33 rfl (lv_at hl 3 rfl) ?_
        have g34 : vp_in p3 4 := vpi (by omega) (by omega)
        refine r_iald (cA := ad 100) (N := 4) S hK w (k := 14) (by decide) (fun f => rfl) rfl g34 dX4_copy_34 ?_
        refine lv_if_ge (tgt := 44) hx hb dX4_copy_35 (by decide) (fun c35 => ?_) (fun c35 => ?_)
        · have t35 : 0 ≤ (σ 14 (ix p3)).toInt := qt_le c35
          rw [if_pos c35] at hG
          refine lv_aload_n hx hb dX4_copy_44 rfl (lv_at hl 0 rfl) ?_
          refine r_get (C := RX4) (T := TX4) (N := 25) S hK w (k := 0) (by decide) (eM_0 ad _) rfl hinX4 21 (by decide) (List.mem_of_getElem? (i := 2) rfl) rfl dX4_copy_45 ?_
          refine lv_iload_n hx hb dX4_copy_48 rfl (lv_at hl 1 rfl) ?_
          have g49 : vp_in p1 4 := vpi (by omega) (by omega)
          refine r_iald (cA := ad 100) (N := 4) S hK w (k := 15) (by decide) (fun f => rfl) rfl g49 dX4_copy_49 ?_
          refine lv_aload_n hx hb dX4_copy_50 rfl (lv_at hl 0 rfl) ?_
          refine r_get (C := RX4) (T := TX4) (N := 25) S hK w (k := 0) (by decide) (eM_0 ad _) rfl hinX4 21 (by decide) (List.mem_of_getElem? (i := 2) rfl) rfl dX4_copy_51 ?_
          refine lv_iload_n hx hb dX4_copy_54 rfl (lv_at hl 3 rfl) ?_
          have g55 : vp_in p3 4 := vpi (by omega) (by omega)
          refine r_iald (cA := ad 100) (N := 4) S hK w (k := 15) (by decide) (fun f => rfl) rfl g55 dX4_copy_55 ?_
          refine lv_icmp_eq (tgt := 65) hx hb dX4_copy_56 (by decide) (fun c56 => ?_) (fun c56 => ?_)
          · have t56 : (σ 15 (ix p1)).toInt = (σ 15 (ix p3)).toInt := qt_eq c56
            rw [if_pos c56] at hG
            refine lv_iload_n hx hb dX4_copy_65 rfl (lv_at hl 2 rfl) ?_
            refine lv_iload hx hb dX4_copy_66 (lv_at hl 5 rfl) ?_
            refine lv_i2l hx hb dX4_copy_68 rfl ?_
            refine lv_aload_n hx hb dX4_copy_69 rfl (lv_at hl 0 rfl) ?_
            refine r_get (C := RX4) (T := TX4) (N := 25) S hK w (k := 0) (by decide) (eM_0 ad _) rfl hinX4 20 (by decide) (List.mem_of_getElem? (i := 1) rfl) rfl dX4_copy_70 ?_
            refine lv_iload_n hx hb dX4_copy_73 rfl (lv_at hl 1 rfl) ?_
            have g74 : vp_in p1 4 := vpi (by omega) (by omega)
            refine r_iald (cA := ad 100) (N := 4) S hK w (k := 14) (by decide) (fun f => rfl) rfl g74 dX4_copy_74 ?_
            refine call0i (va_runS (As := [.int p2, .long p5.toInt64, .int (σ 14 (ix p1))]) (rest := []) S (c_X4_isBeyond l p2 p5.toInt64 (σ 14 (ix p1))) (va_cwS 3 S.2.2.2.2 gX4_copy_X4_isBeyond rfl rfl rfl hd_X4_isBeyond ⟨Nat.le_of_ble_eq_true rfl, Nat.le_of_ble_eq_true rfl⟩) pre0S rfl rfl hl.1 rfl (lv_room (Nat.le_of_ble_eq_true rfl)) dX4_copy_75 ⟨Nat.zero_le _, Nat.zero_le _⟩) ?_
            refine lv_if_ne (tgt := 98) hx hb dX4_copy_78 (by decide) (fun c78 => ?_) (fun c78 => ?_)
            · rw [if_neg c78] at hG
              refine lv_aload_n hx hb dX4_copy_98 rfl (lv_at hl 0 rfl) ?_
              refine lv_iconst (v := 3) hx hb dX4_copy_99 (by decide) ?_
              refine callWi w (va_runV (As := [.int 3]) (rest := []) S (c_X4_failed l ad D s.heap.size σ 3) (cwV 1 S.2.2.2.2 gX4_copy_X4_failed rfl rfl rfl ⟨rfl, hd_X4_failed⟩ ⟨Nat.le_of_ble_eq_true rfl, Nat.le_of_ble_eq_true rfl⟩) (preV hK hN w (k := 0) (by decide) (eM_0 ad _) (q := (RX4, TX4, 25)) rfl) rfl rfl hl.1 rfl (lv_room (Nat.le_of_ble_eq_true rfl)) dX4_copy_100 ⟨Nat.zero_le _, Nat.zero_le _⟩) (fun H locs w => ?_)
              exact endWi S hr hlocks w hG dX4_copy_103
            · have t78 := bf_isBeyond_z c78
              rw [if_pos c78] at hG
              refine lv_iload hx hb dX4_copy_81 (lv_at hl 4 rfl) ?_
              refine lv_iload hx hb dX4_copy_83 (lv_at hl 5 rfl) ?_
              refine lv_i2l hx hb dX4_copy_85 rfl ?_
              refine lv_aload_n hx hb dX4_copy_86 rfl (lv_at hl 0 rfl) ?_
              refine r_get (C := RX4) (T := TX4) (N := 25) S hK w (k := 0) (by decide) (eM_0 ad _) rfl hinX4 20 (by decide) (List.mem_of_getElem? (i := 1) rfl) rfl dX4_copy_87 ?_
              refine lv_iload_n hx hb dX4_copy_90 rfl (lv_at hl 3 rfl) ?_
              have g91 : vp_in p3 4 := vpi (by omega) (by omega)
              refine r_iald (cA := ad 100) (N := 4) S hK w (k := 14) (by decide) (fun f => rfl) rfl g91 dX4_copy_91 ?_
              refine call0i (va_runS (As := [.int p4, .long p5.toInt64, .int (σ 14 (ix p3))]) (rest := []) S (c_X4_isBeyond l p4 p5.toInt64 (σ 14 (ix p3))) (va_cwS 3 S.2.2.2.2 gX4_copy_X4_isBeyond rfl rfl rfl hd_X4_isBeyond ⟨Nat.le_of_ble_eq_true rfl, Nat.le_of_ble_eq_true rfl⟩) pre0S rfl rfl hl.1 rfl (lv_room (Nat.le_of_ble_eq_true rfl)) dX4_copy_92 ⟨Nat.zero_le _, Nat.zero_le _⟩) ?_
              refine lv_if_eq (tgt := 104) hx hb dX4_copy_95 (by decide) (fun c95 => ?_) (fun c95 => ?_)
              · have t95 := bf_isBeyond_z c95
                rw [if_pos c95] at hG
                have zl : p5.toInt64.toInt = p5.toInt := Int32.toInt_toInt64 p5
                have zb : p5.toInt < 2147483648 := Int32.toInt_lt p5
                have z3 := okf3 (ix p1) (vpl g25)
                have z4 := okf3 (ix p3) (vpl g34)
                have e1 := km_toInt (a := p1) (k := 90) (z := 90) (by decide) (by omega) (by omega)
                have e2 := a_toInt (a := 90 * p1) (b := p2) (by omega) (by omega)
                have e3 := km_toInt (a := p3) (k := 90) (z := 90) (by decide) (by omega) (by omega)
                have e4 := a_toInt (a := 90 * p3) (b := p4) (by omega) (by omega)
                refine lv_iconst (v := 0) hx hb dX4_copy_104 (by decide) ?_
                refine lv_istore (lv' := [(6, .int 0), (0, .ref (ad 0)), (1, .int p1), (2, .int p2), (3, .int p3), (4, .int p4), (5, .int p5)]) hx hb dX4_copy_105 hl (by decide) rfl (fun ls hl => ?_)
                have L107 : ∀ (n : Nat) (res107 : St), ∀ (v6_107 : Int32), ∀ (S_107 : St), ((OkM S_107) ∧ (0 ≤ v6_107.toInt ∧ v6_107.toInt ≤ p5.toInt)) → (p5.toInt - v6_107.toInt).toNat < n → (lp_X4_copy_107 p1 p2 p3 p4 p5 n v6_107 S_107) = res107 → (∀ (S_107e : St), (OkM S_107e) → res107 = S_107e → ∀ (H : Heap) (locs : List Loc), CW 18 (eM ad) ad D (CA 18 ad sz) s.heap S_107e H locs → ∀ ls : Array Slot, lv_has ls 7 [(0, .ref (ad 0)), (3, .int p3), (4, .int p4), (5, .int p5)] → W p l e (headSpec wsX4_copy ({ frames := 2, cells := 0, slots := 0, locals := 45 })).room s m ([.ref (ad 0), .int p1, .int p2, .int p3, .int p4, .int p5] : List Value).toArray below meth c H locs 0 0 (MQ below (QWi 18 (eM ad) ad D T (CA 18 ad sz)) ([.ref (ad 0), .int p1, .int p2, .int p3, .int p4, .int p5] : List Value).toArray s 0 0 (CA 18 ad sz)) (F0 m 141 ls [])) → ∀ (H : Heap) (locs : List Loc), CW 18 (eM ad) ad D (CA 18 ad sz) s.heap S_107 H locs → ∀ ls : Array Slot, lv_has ls 7 [(0, .ref (ad 0)), (1, .int p1), (2, .int p2), (3, .int p3), (4, .int p4), (5, .int p5), (6, .int v6_107)] → W p l e (headSpec wsX4_copy ({ frames := 2, cells := 0, slots := 0, locals := 45 })).room s m ([.ref (ad 0), .int p1, .int p2, .int p3, .int p4, .int p5] : List Value).toArray below meth c H locs 0 0 (MQ below (QWi 18 (eM ad) ad D T (CA 18 ad sz)) ([.ref (ad 0), .int p1, .int p2, .int p3, .int p4, .int p5] : List Value).toArray s 0 0 (CA 18 ad sz)) (F0 m 107 ls []) := by
                  intro n
                  induction n with
                  | zero => intro _ _ _ _ hm; exact absurd hm (Nat.not_lt_zero _)
                  | succ n ih107 =>
                    intro res107 v6_107 S_107 hI107 hm107 hG hex107 H locs w ls hl
                    obtain ⟨hok, i107_1⟩ := id hI107
                    have okf0 := hok.1
                    have okf1 := hok.2.1
                    have okf2 := hok.2.2.1
                    have okf3 := hok.2.2.2.1
                    have okf4 := hok.2.2.2.2.1
                    have okf6 := hok.2.2.2.2.2.1
                    have okf7 := hok.2.2.2.2.2.2.1
                    have okf8 := hok.2.2.2.2.2.2.2
                    rw [lp_X4_copy_107] at hG
                    refine lv_iload hx hb dX4_copy_107 (lv_at hl 6 rfl) ?_
                    refine lv_iload hx hb dX4_copy_109 (lv_at hl 5 rfl) ?_
                    refine lv_icmp_ge (tgt := 141) hx hb dX4_copy_111 (by decide) (fun c111 => ?_) (fun c111 => ?_)
                    · have t111 : p5.toInt ≤ v6_107.toInt := qt_le c111
                      rw [if_pos c111] at hG
                      exact hex107 S_107 hok hG.symm _ _ w ls (lv_sub hl [0, 3, 4, 5] rfl)
                    · have t111 : v6_107.toInt < p5.toInt := qt_nle c111
                      rw [if_neg c111] at hG
                      refine lv_aload_n hx hb dX4_copy_114 rfl (lv_at hl 0 rfl) ?_
                      refine r_get (C := RX4) (T := TX4) (N := 25) S hK w (k := 0) (by decide) (eM_0 ad _) rfl hinX4 23 (by decide) (List.mem_of_getElem? (i := 3) rfl) rfl dX4_copy_115 ?_
                      refine lv_iload hx hb dX4_copy_118 (lv_at hl 6 rfl) ?_
                      refine lv_aload_n hx hb dX4_copy_120 rfl (lv_at hl 0 rfl) ?_
                      refine r_get (C := RX4) (T := TX4) (N := 25) S hK w (k := 0) (by decide) (eM_0 ad _) rfl hinX4 22 (by decide) (List.mem_of_getElem? (i := 4) rfl) rfl dX4_copy_121 ?_
                      refine lv_bipush (v := 90) hx hb dX4_copy_124 (by decide) ?_
                      refine lv_iload_n hx hb dX4_copy_126 rfl (lv_at hl 1 rfl) ?_
                      refine lv_imul hx hb dX4_copy_127 ?_
                      refine lv_iload_n hx hb dX4_copy_128 rfl (lv_at hl 2 rfl) ?_
                      refine lv_iadd hx hb dX4_copy_129 ?_
                      refine lv_iload hx hb dX4_copy_130 (lv_at hl 6 rfl) ?_
                      refine lv_iadd hx hb dX4_copy_132 ?_
                      have e5 := a_toInt (a := 90 * p1 + p2) (b := v6_107) (by omega) (by omega)
                      have g133 : vp_in (((90 * p1) + p2) + v6_107) 360 := vpi (by omega) (by omega)
                      refine r_iald (cA := ad 100) (N := 360) S hK w (k := 16) (by decide) (fun f => rfl) rfl g133 dX4_copy_133 ?_
                      have g134 : vp_in v6_107 90 := vpi (by omega) (by omega)
                      refine r_iast (cA := ad 100) (N := 90) S hK w (k := 17) (by decide) (fun f => rfl) rfl g134 dX4_copy_134 (fun H locs w => ?_)
                      have hok : OkM (u2 S_107 17 (ix v6_107) (S_107 16 (ix (((90 * p1) + p2) + v6_107)))) := okM_scr (show scrM 17 by unfold scrM; omega) hok
                      have okf0 := hok.1
                      have okf1 := hok.2.1
                      have okf2 := hok.2.2.1
                      have okf3 := hok.2.2.2.1
                      have okf4 := hok.2.2.2.2.1
                      have okf6 := hok.2.2.2.2.2.1
                      have okf7 := hok.2.2.2.2.2.2.1
                      have okf8 := hok.2.2.2.2.2.2.2
                      refine lv_iinc (v := (v6_107 + 1)) (lv' := [(6, .int (v6_107 + 1)), (0, .ref (ad 0)), (1, .int p1), (2, .int p2), (3, .int p3), (4, .int p4), (5, .int p5)]) hx hb dX4_copy_135 hl (k := 6) rfl rfl (by decide) rfl (fun ls hl => ?_)
                      refine lv_goto (tgt := 107) hx hb dX4_copy_138 (by decide) ?_
                      have b6_107 : (v6_107 + 1).toInt = v6_107.toInt + 1 := inc_toInt (by omega) (by omega)
                      exact ih107 _ (v6_107 + 1) (u2 S_107 17 (ix v6_107) (S_107 16 (ix (((90 * p1) + p2) + v6_107)))) ⟨hok, (by omega)⟩ (by omega) hG hex107 _ _ w ls (lv_sub hl [1, 2, 3, 4, 5, 6, 0] rfl)
                refine L107 200 _ 0 σ ⟨hok, (by omega)⟩ (by omega) rfl (fun S_107e hok hr107 H locs w ls hl => ?_) _ _ w ls (lv_sub hl [1, 2, 3, 4, 5, 6, 0] rfl)
                rw [hr107] at hG
                have okf0 := hok.1
                have okf1 := hok.2.1
                have okf2 := hok.2.2.1
                have okf3 := hok.2.2.2.1
                have okf4 := hok.2.2.2.2.1
                have okf6 := hok.2.2.2.2.2.1
                have okf7 := hok.2.2.2.2.2.2.1
                have okf8 := hok.2.2.2.2.2.2.2
                refine lv_iconst (v := 0) hx hb dX4_copy_141 (by decide) ?_
                refine lv_istore (lv' := [(6, .int 0), (0, .ref (ad 0)), (3, .int p3), (4, .int p4), (5, .int p5)]) hx hb dX4_copy_142 hl (by decide) rfl (fun ls hl => ?_)
                have L144 : ∀ (n : Nat) (res144 : St), ∀ (v6_144 : Int32), ∀ (S_144 : St), ((OkM S_144) ∧ (0 ≤ v6_144.toInt ∧ v6_144.toInt ≤ p5.toInt)) → (p5.toInt - v6_144.toInt).toNat < n → (lp_X4_copy_144 p3 p4 p5 n v6_144 S_144) = res144 → (∀ (S_144e : St), (OkM S_144e) → res144 = S_144e → ∀ (H : Heap) (locs : List Loc), CW 18 (eM ad) ad D (CA 18 ad sz) s.heap S_144e H locs → ∀ ls : Array Slot, lv_has ls 7 [(0, .ref (ad 0)), (5, .int p5)] → W p l e (headSpec wsX4_copy ({ frames := 2, cells := 0, slots := 0, locals := 45 })).room s m ([.ref (ad 0), .int p1, .int p2, .int p3, .int p4, .int p5] : List Value).toArray below meth c H locs 0 0 (MQ below (QWi 18 (eM ad) ad D T (CA 18 ad sz)) ([.ref (ad 0), .int p1, .int p2, .int p3, .int p4, .int p5] : List Value).toArray s 0 0 (CA 18 ad sz)) (F0 m 179 ls [])) → ∀ (H : Heap) (locs : List Loc), CW 18 (eM ad) ad D (CA 18 ad sz) s.heap S_144 H locs → ∀ ls : Array Slot, lv_has ls 7 [(0, .ref (ad 0)), (3, .int p3), (4, .int p4), (5, .int p5), (6, .int v6_144)] → W p l e (headSpec wsX4_copy ({ frames := 2, cells := 0, slots := 0, locals := 45 })).room s m ([.ref (ad 0), .int p1, .int p2, .int p3, .int p4, .int p5] : List Value).toArray below meth c H locs 0 0 (MQ below (QWi 18 (eM ad) ad D T (CA 18 ad sz)) ([.ref (ad 0), .int p1, .int p2, .int p3, .int p4, .int p5] : List Value).toArray s 0 0 (CA 18 ad sz)) (F0 m 144 ls []) := by
                  intro n
                  induction n with
                  | zero => intro _ _ _ _ hm; exact absurd hm (Nat.not_lt_zero _)
                  | succ n ih144 =>
                    intro res144 v6_144 S_144 hI144 hm144 hG hex144 H locs w ls hl
                    obtain ⟨hok, i144_1⟩ := id hI144
                    have okf0 := hok.1
                    have okf1 := hok.2.1
                    have okf2 := hok.2.2.1
                    have okf3 := hok.2.2.2.1
                    have okf4 := hok.2.2.2.2.1
                    have okf6 := hok.2.2.2.2.2.1
                    have okf7 := hok.2.2.2.2.2.2.1
                    have okf8 := hok.2.2.2.2.2.2.2
                    rw [lp_X4_copy_144] at hG
                    refine lv_iload hx hb dX4_copy_144 (lv_at hl 4 rfl) ?_
                    refine lv_iload hx hb dX4_copy_146 (lv_at hl 3 rfl) ?_
                    refine lv_icmp_ge (tgt := 179) hx hb dX4_copy_148 (by decide) (fun c148 => ?_) (fun c148 => ?_)
                    · have t148 : p5.toInt ≤ v6_144.toInt := qt_le c148
                      rw [if_pos c148] at hG
                      exact hex144 S_144 hok hG.symm _ _ w ls (lv_sub hl [0, 3] rfl)
                    · have t148 : v6_144.toInt < p5.toInt := qt_nle c148
                      rw [if_neg c148] at hG
                      refine lv_aload_n hx hb dX4_copy_151 rfl (lv_at hl 0 rfl) ?_
                      refine r_get (C := RX4) (T := TX4) (N := 25) S hK w (k := 0) (by decide) (eM_0 ad _) rfl hinX4 22 (by decide) (List.mem_of_getElem? (i := 4) rfl) rfl dX4_copy_152 ?_
                      refine lv_bipush (v := 90) hx hb dX4_copy_155 (by decide) ?_
                      refine lv_iload_n hx hb dX4_copy_157 rfl (lv_at hl 1 rfl) ?_
                      refine lv_imul hx hb dX4_copy_158 ?_
                      refine lv_iload hx hb dX4_copy_159 (lv_at hl 2 rfl) ?_
                      refine lv_iadd hx hb dX4_copy_161 ?_
                      refine lv_iload hx hb dX4_copy_162 (lv_at hl 4 rfl) ?_
                      refine lv_iadd hx hb dX4_copy_164 ?_
                      refine lv_aload_n hx hb dX4_copy_165 rfl (lv_at hl 0 rfl) ?_
                      refine r_get (C := RX4) (T := TX4) (N := 25) S hK w (k := 0) (by decide) (eM_0 ad _) rfl hinX4 23 (by decide) (List.mem_of_getElem? (i := 3) rfl) rfl dX4_copy_166 ?_
                      refine lv_iload hx hb dX4_copy_169 (lv_at hl 4 rfl) ?_
                      have g171 : vp_in v6_144 90 := vpi (by omega) (by omega)
                      refine r_iald (cA := ad 100) (N := 90) S hK w (k := 17) (by decide) (fun f => rfl) rfl g171 dX4_copy_171 ?_
                      have e6 := a_toInt (a := 90 * p3 + p4) (b := v6_144) (by omega) (by omega)
                      have g172 : vp_in (((90 * p3) + p4) + v6_144) 360 := vpi (by omega) (by omega)
                      refine r_iast (cA := ad 100) (N := 360) S hK w (k := 16) (by decide) (fun f => rfl) rfl g172 dX4_copy_172 (fun H locs w => ?_)
                      have hok : OkM (u2 S_144 16 (ix (((90 * p3) + p4) + v6_144)) (S_144 17 (ix v6_144))) := okM_scr (show scrM 16 by unfold scrM; omega) hok
                      have okf0 := hok.1
                      have okf1 := hok.2.1
                      have okf2 := hok.2.2.1
                      have okf3 := hok.2.2.2.1
                      have okf4 := hok.2.2.2.2.1
                      have okf6 := hok.2.2.2.2.2.1
                      have okf7 := hok.2.2.2.2.2.2.1
                      have okf8 := hok.2.2.2.2.2.2.2
                      refine lv_iinc (v := (v6_144 + 1)) (lv' := [(6, .int (v6_144 + 1)), (0, .ref (ad 0)), (3, .int p3), (4, .int p4), (5, .int p5)]) hx hb dX4_copy_173 hl (k := 4) rfl rfl (by decide) rfl (fun ls hl => ?_)
                      refine lv_goto (tgt := 144) hx hb dX4_copy_176 (by decide) ?_
                      have b6_144 : (v6_144 + 1).toInt = v6_144.toInt + 1 := inc_toInt (by omega) (by omega)
                      exact ih144 _ (v6_144 + 1) (u2 S_144 16 (ix (((90 * p3) + p4) + v6_144)) (S_144 17 (ix v6_144))) ⟨hok, (by omega)⟩ (by omega) hG hex144 _ _ w ls (lv_sub hl [1, 2, 3, 4, 0] rfl)
                refine L144 200 _ 0 S_107e ⟨hok, (by omega)⟩ (by omega) rfl (fun S_144e hok hr144 H locs w ls hl => ?_) _ _ w ls (lv_sub hl [1, 2, 3, 4, 0] rfl)
                rw [hr144] at hG
                have okf0 := hok.1
                have okf1 := hok.2.1
                have okf2 := hok.2.2.1
                have okf3 := hok.2.2.2.1
                have okf4 := hok.2.2.2.2.1
                have okf6 := hok.2.2.2.2.2.1
                have okf7 := hok.2.2.2.2.2.2.1
                have okf8 := hok.2.2.2.2.2.2.2
                refine lv_aload_n hx hb dX4_copy_179 rfl (lv_at hl 0 rfl) ?_
                refine lv_iload hx hb dX4_copy_180 (lv_at hl 1 rfl) ?_
                refine callWi w (va_runV (As := [.int p5]) (rest := []) S (c_X4_refused l ad D H.size S_144e p5) (cwV 1 S.2.2.2.2 gX4_copy_X4_refused rfl rfl rfl ⟨rfl, hd_X4_refused⟩ ⟨Nat.le_of_ble_eq_true rfl, Nat.le_of_ble_eq_true rfl⟩) (preV hK hN w (k := 0) (by decide) (eM_0 ad _) (q := (RX4, TX4, 25)) rfl) rfl rfl hl.1 rfl (lv_room (Nat.le_of_ble_eq_true rfl)) dX4_copy_182 ⟨Nat.zero_le _, Nat.zero_le _⟩) (fun H locs w => ?_)
                exact endWi S hr hlocks w hG dX4_copy_185
              · rw [if_neg c95] at hG
                refine lv_aload_n hx hb dX4_copy_98 rfl (lv_at hl 0 rfl) ?_
                refine lv_iconst (v := 3) hx hb dX4_copy_99 (by decide) ?_
                refine callWi w (va_runV (As := [.int 3]) (rest := []) S (c_X4_failed l ad D s.heap.size σ 3) (cwV 1 S.2.2.2.2 gX4_copy_X4_failed rfl rfl rfl ⟨rfl, hd_X4_failed⟩ ⟨Nat.le_of_ble_eq_true rfl, Nat.le_of_ble_eq_true rfl⟩) (preV hK hN w (k := 0) (by decide) (eM_0 ad _) (q := (RX4, TX4, 25)) rfl) rfl rfl hl.1 rfl (lv_room (Nat.le_of_ble_eq_true rfl)) dX4_copy_100 ⟨Nat.zero_le _, Nat.zero_le _⟩) (fun H locs w => ?_)
                exact endWi S hr hlocks w hG dX4_copy_103
          · have t56 : (σ 15 (ix p1)).toInt ≠ (σ 15 (ix p3)).toInt := qt_ne c56
            rw [if_neg c56] at hG
            refine lv_aload_n hx hb dX4_copy_59 rfl (lv_at hl 0 rfl) ?_
            refine lv_iconst (v := 2) hx hb dX4_copy_60 (by decide) ?_
            refine callWi w (va_runV (As := [.int 2]) (rest := []) S (c_X4_failed l ad D s.heap.size σ 2) (cwV 1 S.2.2.2.2 gX4_copy_X4_failed rfl rfl rfl ⟨rfl, hd_X4_failed⟩ ⟨Nat.le_of_ble_eq_true rfl, Nat.le_of_ble_eq_true rfl⟩) (preV hK hN w (k := 0) (by decide) (eM_0 ad _) (q := (RX4, TX4, 25)) rfl) rfl rfl hl.1 rfl (lv_room (Nat.le_of_ble_eq_true rfl)) dX4_copy_61 ⟨Nat.zero_le _, Nat.zero_le _⟩) (fun H locs w => ?_)
            exact endWi S hr hlocks w hG dX4_copy_64
        · have t35 : (σ 14 (ix p3)).toInt < 0 := qt_nle c35
          rw [if_neg c35] at hG
          refine lv_aload_n hx hb dX4_copy_38 rfl (lv_at hl 0 rfl) ?_
          refine lv_iconst (v := 1) hx hb dX4_copy_39 (by decide) ?_
          refine callWi w (va_runV (As := [.int 1]) (rest := []) S (c_X4_failed l ad D s.heap.size σ 1) (cwV 1 S.2.2.2.2 gX4_copy_X4_failed rfl rfl rfl ⟨rfl, hd_X4_failed⟩ ⟨Nat.le_of_ble_eq_true rfl, Nat.le_of_ble_eq_true rfl⟩) (preV hK hN w (k := 0) (by decide) (eM_0 ad _) (q := (RX4, TX4, 25)) rfl) rfl rfl hl.1 rfl (lv_room (Nat.le_of_ble_eq_true rfl)) dX4_copy_40 ⟨Nat.zero_le _, Nat.zero_le _⟩) (fun H locs w => ?_)
          exact endWi S hr hlocks w hG dX4_copy_43
    · rw [if_neg c11] at hG
      refine lv_aload_n hx hb dX4_copy_14 rfl (lv_at hl 0 rfl) ?_
      refine lv_iconst (v := (-1)) hx hb dX4_copy_15 (by decide) ?_
      refine callWi w (va_runV (As := [.int (-1)]) (rest := []) S (c_X4_refused l ad D s.heap.size σ (-1)) (cwV 1 S.2.2.2.2 gX4_copy_X4_refused rfl rfl rfl ⟨rfl, hd_X4_refused⟩ ⟨Nat.le_of_ble_eq_true rfl, Nat.le_of_ble_eq_true rfl⟩) (preV hK hN w (k := 0) (by decide) (eM_0 ad _) (q := (RX4, TX4, 25)) rfl) rfl rfl hl.1 rfl (lv_room (Nat.le_of_ble_eq_true rfl)) dX4_copy_16 ⟨Nat.zero_le _, Nat.zero_le _⟩) (fun H locs w => ?_)
      exact endWi S hr hlocks w hG dX4_copy_19
set_option maxHeartbeats 4000000 in
set_option maxRecDepth 100000 in
theorem c_X4_traced (l : Launch) (ad : Nat → Nat) (D : va_G) (sz : Nat) (σ : St) (p1 : Int32) : Met l yX4_traced wsX4_traced ({ frames := 0, cells := 0, slots := 0, locals := 0 }) (PreW 18 (eM ad) ad D (tyM ad) σ sz ([.ref (ad 0), .int p1] : List Value)) (QWv 18 (eM ad) ad D (f_X4_traced σ p1) (CA 18 ad sz)) 0 0 (CA 18 ad sz) := by
  generalize hG : f_X4_traced σ p1 = T
  refine headW (cc := cX4_traced) (maxL := 2) (ret := none) ([.ref (ad 0), .int p1] : List Value) (by decide) rfl (Nat.le_of_ble_eq_true rfl) ?_
  intro p e s m below meth c S hr hlocks hK hN hsz w ls hl
  have S : CallFix p m c cX4_traced 2 s ([.ref (ad 0), .int p1] : List Value).toArray wsX4_traced RX4 := S
  have hx := S.1
  have hb := S.2.1
  have z0 : (0 : Int32).toInt = 0 := by decide
  have z1 : (1 : Int32).toInt = 1 := by decide
  have hl : lv_has ls 2 [(0, .ref (ad 0)), (1, .int p1)] := hl
  have hinX4 : ∀ w ∈ wsX40, w ∈ wsX4_traced := (fun _ h => List.mem_cons_of_mem _ (List.mem_append_right _ h))
  rw [f_X4_traced] at hG
  refine lv_aload_n hx hb dX4_traced_0 rfl (lv_at hl 0 rfl) ?_
  refine lv_bipush (v := 31) hx hb dX4_traced_1 (by decide) ?_
  refine lv_aload_n hx hb dX4_traced_3 rfl (lv_at hl 0 rfl) ?_
  refine r_get (C := RX4) (T := TX4) (N := 25) S hK w (k := 0) (by decide) (eM_0 ad _) rfl hinX4 24 (by decide) (List.mem_of_getElem? (i := 1) rfl) rfl dX4_traced_4 ?_
  refine lv_imul hx hb dX4_traced_7 ?_
  refine lv_iload_n hx hb dX4_traced_8 rfl (lv_at hl 1 rfl) ?_
  refine lv_iadd hx hb dX4_traced_9 ?_
  refine r_put (C := RX4) (T := TX4) (N := 25) S hK w (k := 0) (by decide) (eM_0 ad _) rfl hinX4 tyX4 tyX4_ok nmX4 24 (by decide) (List.mem_of_getElem? (i := 1) rfl) rfl (x := ((31 * (σ 0 24)) + p1)) (ty := .int) (by decide +kernel) rfl rfl (by show _ < List.length _; exact Nat.le_of_ble_eq_true rfl) (sM ad _ _ 24 (by decide)) dX4_traced_10 (fun H locs w => ?_)
  exact endWv S hr hlocks w hG dX4_traced_13
set_option maxHeartbeats 4000000 in
set_option maxRecDepth 100000 in
theorem c_X4_tell (l : Launch) (ad : Nat → Nat) (D : va_G) (sz : Nat) (σ : St) (p1 : Int32) (hok : OkM σ) : Met l yX4_tell wsX4_tell ({ frames := 2, cells := 0, slots := 0, locals := 46 }) (PreW 18 (eM ad) ad D (tyM ad) σ sz ([.ref (ad 0), .int p1] : List Value)) (QWi 18 (eM ad) ad D (f_X4_tell σ p1) (CA 18 ad sz)) 0 0 (CA 18 ad sz) := by
  generalize hG : f_X4_tell σ p1 = T
  refine headW (cc := cX4_tell) (maxL := 4) (ret := (some .int)) ([.ref (ad 0), .int p1] : List Value) (by decide) rfl (Nat.le_of_ble_eq_true rfl) ?_
  intro p e s m below meth c S hr hlocks hK hN hsz w ls hl
  have S : CallFix p m c cX4_tell 4 s ([.ref (ad 0), .int p1] : List Value).toArray wsX4_tell RX4 := S
  have hx := S.1
  have hb := S.2.1
  have z0 : (0 : Int32).toInt = 0 := by decide
  have z1 : (1 : Int32).toInt = 1 := by decide
  have hl : lv_has ls 4 [(0, .ref (ad 0)), (1, .int p1)] := hl
  have hinX4 : ∀ w ∈ wsX40, w ∈ wsX4_tell := (fun _ h => List.mem_cons_of_mem _ (List.mem_append_right _ h))
  have okf0 := hok.1
  have okf1 := hok.2.1
  have okf2 := hok.2.2.1
  have okf3 := hok.2.2.2.1
  have okf4 := hok.2.2.2.2.1
  have okf6 := hok.2.2.2.2.2.1
  have okf7 := hok.2.2.2.2.2.2.1
  have okf8 := hok.2.2.2.2.2.2.2
  rw [f_X4_tell] at hG
  refine lv_aload_n hx hb dX4_tell_0 rfl (lv_at hl 0 rfl) ?_
  refine lv_iload_n hx hb dX4_tell_1 rfl (lv_at hl 1 rfl) ?_
  refine call0i (va_runV (As := [.int p1]) (rest := []) S (c_X4_noSign l ad D s.heap.size σ p1) (cwV 1 S.2.2.2.2 gX4_tell_X4_noSign rfl rfl rfl ⟨rfl, hd_X4_noSign⟩ ⟨Nat.le_of_ble_eq_true rfl, Nat.le_of_ble_eq_true rfl⟩) (preV hK hN w (k := 0) (by decide) (eM_0 ad _) (q := (RX4, TX4, 25)) rfl) rfl rfl hl.1 rfl (lv_room (Nat.le_of_ble_eq_true rfl)) dX4_tell_2 ⟨Nat.zero_le _, Nat.zero_le _⟩) ?_
  refine lv_if_eq (tgt := 10) hx hb dX4_tell_5 (by decide) (fun c5 => ?_) (fun c5 => ?_)
  · have t5 := bf_noSign_z c5
    rw [if_pos c5] at hG
    have px : 0 ≤ p1.toInt ∧ p1.toInt < 8 := by omega
    refine lv_aload_n hx hb dX4_tell_10 rfl (lv_at hl 0 rfl) ?_
    refine r_get (C := RX4) (T := TX4) (N := 25) S hK w (k := 0) (by decide) (eM_0 ad _) rfl hinX4 4 (by decide) (List.mem_of_getElem? (i := 1) rfl) rfl dX4_tell_11 ?_
    refine lv_iload_n hx hb dX4_tell_14 rfl (lv_at hl 1 rfl) ?_
    have g15 : vp_in p1 8 := vpi (by omega) (by omega)
    refine r_iald (cA := ad 100) (N := 8) S hK w (k := 1) (by decide) (fun f => rfl) rfl g15 dX4_tell_15 ?_
    refine lv_istore_n (lv' := [(2, .int (σ 1 (ix p1))), (0, .ref (ad 0)), (1, .int p1)]) hx hb dX4_tell_16 rfl hl (by decide) rfl (fun ls hl => ?_)
    refine lv_iload_n hx hb dX4_tell_17 rfl (lv_at hl 0 rfl) ?_
    refine lv_iconst (v := 2) hx hb dX4_tell_18 (by decide) ?_
    have J19_27 : ∀ (S_19_27 : St), (if (σ 1 (ix p1)) = 0 then ((f_X4_strong (if (σ 1 (ix p1)) = 2 then (f_X4_traced (f_X4_traced (if (σ 1 (ix p1)) ≤ 0 then S_19_27 else (f_X4_traced S_19_27 2)) 1) 1) else (f_X4_traced (if (σ 1 (ix p1)) ≤ 0 then S_19_27 else (f_X4_traced S_19_27 2)) 1)) p1 0), (if (σ 1 (ix p1)) = 2 then (f_X4_traced (f_X4_traced (if (σ 1 (ix p1)) ≤ 0 then S_19_27 else (f_X4_traced S_19_27 2)) 1) 1) else (f_X4_traced (if (σ 1 (ix p1)) ≤ 0 then S_19_27 else (f_X4_traced S_19_27 2)) 1))) else (if (σ 1 (ix p1)) = 1 then (((f_X4_strong (if (σ 1 (ix p1)) = 2 then (f_X4_traced (f_X4_traced (if (σ 1 (ix p1)) ≤ 0 then S_19_27 else (f_X4_traced S_19_27 2)) 1) 1) else (f_X4_traced (if (σ 1 (ix p1)) ≤ 0 then S_19_27 else (f_X4_traced S_19_27 2)) 1)) p1 0) + 100), (if (σ 1 (ix p1)) = 2 then (f_X4_traced (f_X4_traced (if (σ 1 (ix p1)) ≤ 0 then S_19_27 else (f_X4_traced S_19_27 2)) 1) 1) else (f_X4_traced (if (σ 1 (ix p1)) ≤ 0 then S_19_27 else (f_X4_traced S_19_27 2)) 1))) else (((2 * (f_X4_strong (if (σ 1 (ix p1)) = 2 then (f_X4_traced (f_X4_traced (if (σ 1 (ix p1)) ≤ 0 then S_19_27 else (f_X4_traced S_19_27 2)) 1) 1) else (f_X4_traced (if (σ 1 (ix p1)) ≤ 0 then S_19_27 else (f_X4_traced S_19_27 2)) 1)) p1 0)) + 100), (if (σ 1 (ix p1)) = 2 then (f_X4_traced (f_X4_traced (if (σ 1 (ix p1)) ≤ 0 then S_19_27 else (f_X4_traced S_19_27 2)) 1) 1) else (f_X4_traced (if (σ 1 (ix p1)) ≤ 0 then S_19_27 else (f_X4_traced S_19_27 2)) 1))))) = T → ∀ (H : Heap) (locs : List Loc), CW 18 (eM ad) ad D (CA 18 ad sz) s.heap S_19_27 H locs → ∀ ls : Array Slot, lv_has ls 4 [(0, .ref (ad 0)), (1, .int p1), (2, .int (σ 1 (ix p1)))] → W p l e (headSpec wsX4_tell ({ frames := 2, cells := 0, slots := 0, locals := 46 })).room s m ([.ref (ad 0), .int p1] : List Value).toArray below meth c H locs 0 0 (MQ below (QWi 18 (eM ad) ad D T (CA 18 ad sz)) ([.ref (ad 0), .int p1] : List Value).toArray s 0 0 (CA 18 ad sz)) (F0 m 27 ls []) := by
      intro S_19_27 hG H locs w ls hl
      refine lv_iload_n hx hb dX4_tell_27 rfl (lv_at hl 2 rfl) ?_
      have J28_36 : ∀ (S_28_36 : St), (if (σ 1 (ix p1)) = 0 then ((f_X4_strong (if (σ 1 (ix p1)) = 2 then (f_X4_traced (f_X4_traced S_28_36 1) 1) else (f_X4_traced S_28_36 1)) p1 0), (if (σ 1 (ix p1)) = 2 then (f_X4_traced (f_X4_traced S_28_36 1) 1) else (f_X4_traced S_28_36 1))) else (if (σ 1 (ix p1)) = 1 then (((f_X4_strong (if (σ 1 (ix p1)) = 2 then (f_X4_traced (f_X4_traced S_28_36 1) 1) else (f_X4_traced S_28_36 1)) p1 0) + 100), (if (σ 1 (ix p1)) = 2 then (f_X4_traced (f_X4_traced S_28_36 1) 1) else (f_X4_traced S_28_36 1))) else (((2 * (f_X4_strong (if (σ 1 (ix p1)) = 2 then (f_X4_traced (f_X4_traced S_28_36 1) 1) else (f_X4_traced S_28_36 1)) p1 0)) + 100), (if (σ 1 (ix p1)) = 2 then (f_X4_traced (f_X4_traced S_28_36 1) 1) else (f_X4_traced S_28_36 1))))) = T → ∀ (H : Heap) (locs : List Loc), CW 18 (eM ad) ad D (CA 18 ad sz) s.heap S_28_36 H locs → ∀ ls : Array Slot, lv_has ls 4 [(0, .ref (ad 0)), (1, .int p1), (2, .int (σ 1 (ix p1)))] → W p l e (headSpec wsX4_tell ({ frames := 2, cells := 0, slots := 0, locals := 46 })).room s m ([.ref (ad 0), .int p1] : List Value).toArray below meth c H locs 0 0 (MQ below (QWi 18 (eM ad) ad D T (CA 18 ad sz)) ([.ref (ad 0), .int p1] : List Value).toArray s 0 0 (CA 18 ad sz)) (F0 m 36 ls []) := by
        intro S_28_36 hG H locs w ls hl
        refine lv_aload_n hx hb dX4_tell_36 rfl (lv_at hl 0 rfl) ?_
        refine lv_iconst (v := 1) hx hb dX4_tell_37 (by decide) ?_
        refine callWv w (va_runV (As := [.int 1]) (rest := []) S (c_X4_traced l ad D H.size S_28_36 1) (cwV 1 S.2.2.2.2 gX4_tell_X4_traced rfl rfl rfl ⟨rfl, hd_X4_traced⟩ ⟨Nat.le_of_ble_eq_true rfl, Nat.le_of_ble_eq_true rfl⟩) (preV hK hN w (k := 0) (by decide) (eM_0 ad _) (q := (RX4, TX4, 25)) rfl) rfl rfl hl.1 rfl (lv_room (Nat.le_of_ble_eq_true rfl)) dX4_tell_38 ⟨Nat.zero_le _, Nat.zero_le _⟩) (fun H locs w => ?_)
        refine lv_iload_n hx hb dX4_tell_41 rfl (lv_at hl 2 rfl) ?_
        refine lv_iconst (v := 2) hx hb dX4_tell_42 (by decide) ?_
        have J43_51 : ∀ (S_43_51 : St), (if (σ 1 (ix p1)) = 0 then ((f_X4_strong S_43_51 p1 0), S_43_51) else (if (σ 1 (ix p1)) = 1 then (((f_X4_strong S_43_51 p1 0) + 100), S_43_51) else (((2 * (f_X4_strong S_43_51 p1 0)) + 100), S_43_51))) = T → ∀ (H : Heap) (locs : List Loc), CW 18 (eM ad) ad D (CA 18 ad sz) s.heap S_43_51 H locs → ∀ ls : Array Slot, lv_has ls 4 [(0, .ref (ad 0)), (1, .int p1), (2, .int (σ 1 (ix p1)))] → W p l e (headSpec wsX4_tell ({ frames := 2, cells := 0, slots := 0, locals := 46 })).room s m ([.ref (ad 0), .int p1] : List Value).toArray below meth c H locs 0 0 (MQ below (QWi 18 (eM ad) ad D T (CA 18 ad sz)) ([.ref (ad 0), .int p1] : List Value).toArray s 0 0 (CA 18 ad sz)) (F0 m 51 ls []) := by
          intro S_43_51 hG H locs w ls hl
          refine lv_aload_n hx hb dX4_tell_51 rfl (lv_at hl 0 rfl) ?_
          refine lv_iload_n hx hb dX4_tell_52 rfl (lv_at hl 1 rfl) ?_
          refine lv_iconst (v := 0) hx hb dX4_tell_53 (by decide) ?_
          refine call0i (va_runV (As := [.int p1, .int 0]) (rest := []) S (c_X4_strong l ad D H.size S_43_51 p1 0 (by omega) (by omega)) (cwV 2 S.2.2.2.2 gX4_tell_X4_strong rfl rfl rfl ⟨rfl, hd_X4_strong⟩ ⟨Nat.le_of_ble_eq_true rfl, Nat.le_of_ble_eq_true rfl⟩) (preV hK hN w (k := 0) (by decide) (eM_0 ad _) (q := (RX4, TX4, 25)) rfl) rfl rfl hl.1 rfl (lv_room (Nat.le_of_ble_eq_true rfl)) dX4_tell_54 ⟨Nat.zero_le _, Nat.zero_le _⟩) ?_
          refine lv_istore_n (lv' := [(3, .int (f_X4_strong S_43_51 p1 0)), (0, .ref (ad 0)), (1, .int p1), (2, .int (σ 1 (ix p1)))]) hx hb dX4_tell_57 rfl hl (by decide) rfl (fun ls hl => ?_)
          refine lv_iload_n hx hb dX4_tell_58 rfl (lv_at hl 3 rfl) ?_
          refine lv_if_ne (tgt := 66) hx hb dX4_tell_59 (by decide) (fun c59 => ?_) (fun c59 => ?_)
          · have t59 : (σ 1 (ix p1)).toInt ≠ 0 := qt_ne c59
            rw [if_neg c59] at hG
            refine lv_iload_n hx hb dX4_tell_66 rfl (lv_at hl 3 rfl) ?_
            refine lv_iconst (v := 1) hx hb dX4_tell_67 (by decide) ?_
            refine lv_icmp_ne (tgt := 78) hx hb dX4_tell_68 (by decide) (fun c68 => ?_) (fun c68 => ?_)
            · have t68 : (σ 1 (ix p1)).toInt ≠ 1 := qt_ne c68
              rw [if_neg c68] at hG
              refine lv_iconst (v := 2) hx hb dX4_tell_78 (by decide) ?_
              refine lv_iload_n hx hb dX4_tell_79 rfl (lv_at hl 0 rfl) ?_
              refine lv_imul hx hb dX4_tell_80 ?_
              refine lv_bipush (v := 100) hx hb dX4_tell_81 (by decide) ?_
              refine lv_iadd hx hb dX4_tell_83 ?_
              exact endWi S hr hlocks w hG dX4_tell_84
            · have t68 : (σ 1 (ix p1)).toInt = 1 := qt_eq c68
              rw [if_pos c68] at hG
              refine lv_iload_n hx hb dX4_tell_71 rfl (lv_at hl 0 rfl) ?_
              refine lv_bipush (v := 100) hx hb dX4_tell_72 (by decide) ?_
              refine lv_iadd hx hb dX4_tell_74 ?_
              refine lv_goto (tgt := 84) hx hb dX4_tell_75 (by decide) ?_
              exact endWi S hr hlocks w hG dX4_tell_84
          · have t59 : (σ 1 (ix p1)).toInt = 0 := qt_eq c59
            rw [if_pos c59] at hG
            refine lv_iload_n hx hb dX4_tell_62 rfl (lv_at hl 0 rfl) ?_
            refine lv_goto (tgt := 84) hx hb dX4_tell_63 (by decide) ?_
            exact endWi S hr hlocks w hG dX4_tell_84
        refine lv_icmp_ne (tgt := 51) hx hb dX4_tell_43 (by decide) (fun c43 => ?_) (fun c43 => ?_)
        · have t43 : (σ 1 (ix p1)).toInt ≠ 2 := qt_ne c43
          simp only [if_neg c43] at hG
          exact J43_51 (f_X4_traced S_28_36 1) (by first | exact hG | (simp only [if_neg c43]; exact hG)) _ _ w ls (lv_sub hl [0, 1, 2] rfl)
        · have t43 : (σ 1 (ix p1)).toInt = 2 := qt_eq c43
          simp only [if_pos c43] at hG
          refine lv_aload_n hx hb dX4_tell_46 rfl (lv_at hl 0 rfl) ?_
          refine lv_iconst (v := 1) hx hb dX4_tell_47 (by decide) ?_
          refine callWv w (va_runV (As := [.int 1]) (rest := []) S (c_X4_traced l ad D H.size (f_X4_traced S_28_36 1) 1) (cwV 1 S.2.2.2.2 gX4_tell_X4_traced rfl rfl rfl ⟨rfl, hd_X4_traced⟩ ⟨Nat.le_of_ble_eq_true rfl, Nat.le_of_ble_eq_true rfl⟩) (preV hK hN w (k := 0) (by decide) (eM_0 ad _) (q := (RX4, TX4, 25)) rfl) rfl rfl hl.1 rfl (lv_room (Nat.le_of_ble_eq_true rfl)) dX4_tell_48 ⟨Nat.zero_le _, Nat.zero_le _⟩) (fun H locs w => ?_)
          exact J43_51 (f_X4_traced (f_X4_traced S_28_36 1) 1) (by first | exact hG | (simp only [if_pos c43]; exact hG)) _ _ w ls (lv_sub hl [0, 1, 2] rfl)
      refine lv_if_le (tgt := 36) hx hb dX4_tell_28 (by decide) (fun c28 => ?_) (fun c28 => ?_)
      · have t28 : (σ 1 (ix p1)).toInt ≤ 0 := qt_le c28
        simp only [if_pos c28] at hG
        exact J28_36 S_19_27 (by first | exact hG | (simp only [if_pos c28]; exact hG)) _ _ w ls (lv_sub hl [0, 1, 2] rfl)
      · have t28 : 0 < (σ 1 (ix p1)).toInt := qt_nle c28
        simp only [if_neg c28] at hG
        refine lv_aload_n hx hb dX4_tell_31 rfl (lv_at hl 0 rfl) ?_
        refine lv_iconst (v := 2) hx hb dX4_tell_32 (by decide) ?_
        refine callWv w (va_runV (As := [.int 2]) (rest := []) S (c_X4_traced l ad D H.size S_19_27 2) (cwV 1 S.2.2.2.2 gX4_tell_X4_traced rfl rfl rfl ⟨rfl, hd_X4_traced⟩ ⟨Nat.le_of_ble_eq_true rfl, Nat.le_of_ble_eq_true rfl⟩) (preV hK hN w (k := 0) (by decide) (eM_0 ad _) (q := (RX4, TX4, 25)) rfl) rfl rfl hl.1 rfl (lv_room (Nat.le_of_ble_eq_true rfl)) dX4_tell_33 ⟨Nat.zero_le _, Nat.zero_le _⟩) (fun H locs w => ?_)
        exact J28_36 (f_X4_traced S_19_27 2) (by first | exact hG | (simp only [if_neg c28]; exact hG)) _ _ w ls (lv_sub hl [0, 1, 2] rfl)
    refine lv_icmp_ne (tgt := 27) hx hb dX4_tell_19 (by decide) (fun c19 => ?_) (fun c19 => ?_)
    · have t19 : (σ 1 (ix p1)).toInt ≠ 2 := qt_ne c19
      simp only [if_neg c19] at hG
      exact J19_27 σ (by first | exact hG | (simp only [if_neg c19]; exact hG)) _ _ w ls (lv_sub hl [1, 2, 0] rfl)
    · have t19 : (σ 1 (ix p1)).toInt = 2 := qt_eq c19
      simp only [if_pos c19] at hG
      refine lv_aload_n hx hb dX4_tell_22 rfl (lv_at hl 1 rfl) ?_
      refine lv_iconst (v := 3) hx hb dX4_tell_23 (by decide) ?_
      refine callWv w (va_runV (As := [.int 3]) (rest := []) S (c_X4_traced l ad D s.heap.size σ 3) (cwV 1 S.2.2.2.2 gX4_tell_X4_traced rfl rfl rfl ⟨rfl, hd_X4_traced⟩ ⟨Nat.le_of_ble_eq_true rfl, Nat.le_of_ble_eq_true rfl⟩) (preV hK hN w (k := 0) (by decide) (eM_0 ad _) (q := (RX4, TX4, 25)) rfl) rfl rfl hl.1 rfl (lv_room (Nat.le_of_ble_eq_true rfl)) dX4_tell_24 ⟨Nat.zero_le _, Nat.zero_le _⟩) (fun H locs w => ?_)
      exact J19_27 (f_X4_traced σ 3) (by first | exact hG | (simp only [if_pos c19]; exact hG)) _ _ w ls (lv_sub hl [1, 2, 0] rfl)
  · rw [if_neg c5] at hG
    refine lv_iconst (v := (-1)) hx hb dX4_tell_8 (by decide) ?_
    exact endWi S hr hlocks w hG dX4_tell_9
set_option maxHeartbeats 4000000 in
set_option maxRecDepth 100000 in
theorem c_X4_stop (l : Launch) (ad : Nat → Nat) (D : va_G) (sz : Nat) (σ : St) (p1 : Int32) (hok : OkM σ) : Met l yX4_stop wsX4_stop ({ frames := 2, cells := 0, slots := 0, locals := 46 }) (PreW 18 (eM ad) ad D (tyM ad) σ sz ([.ref (ad 0), .int p1] : List Value)) (QWi 18 (eM ad) ad D (f_X4_stop σ p1) (CA 18 ad sz)) 0 0 (CA 18 ad sz) := by
  generalize hG : f_X4_stop σ p1 = T
  refine headW (cc := cX4_stop) (maxL := 2) (ret := (some .int)) ([.ref (ad 0), .int p1] : List Value) (by decide) rfl (Nat.le_of_ble_eq_true rfl) ?_
  intro p e s m below meth c S hr hlocks hK hN hsz w ls hl
  have S : CallFix p m c cX4_stop 2 s ([.ref (ad 0), .int p1] : List Value).toArray wsX4_stop RX4 := S
  have hx := S.1
  have hb := S.2.1
  have z0 : (0 : Int32).toInt = 0 := by decide
  have z1 : (1 : Int32).toInt = 1 := by decide
  have hl : lv_has ls 2 [(0, .ref (ad 0)), (1, .int p1)] := hl
  have hinX4 : ∀ w ∈ wsX40, w ∈ wsX4_stop := (fun _ h => List.mem_cons_of_mem _ (List.mem_append_right _ h))
  have okf0 := hok.1
  have okf1 := hok.2.1
  have okf2 := hok.2.2.1
  have okf3 := hok.2.2.2.1
  have okf4 := hok.2.2.2.2.1
  have okf6 := hok.2.2.2.2.2.1
  have okf7 := hok.2.2.2.2.2.2.1
  have okf8 := hok.2.2.2.2.2.2.2
  rw [f_X4_stop] at hG
  refine lv_aload_n hx hb dX4_stop_0 rfl (lv_at hl 0 rfl) ?_
  refine lv_iload_n hx hb dX4_stop_1 rfl (lv_at hl 1 rfl) ?_
  refine call0i (va_runV (As := [.int p1]) (rest := []) S (c_X4_noSign l ad D s.heap.size σ p1) (cwV 1 S.2.2.2.2 gX4_stop_X4_noSign rfl rfl rfl ⟨rfl, hd_X4_noSign⟩ ⟨Nat.le_of_ble_eq_true rfl, Nat.le_of_ble_eq_true rfl⟩) (preV hK hN w (k := 0) (by decide) (eM_0 ad _) (q := (RX4, TX4, 25)) rfl) rfl rfl hl.1 rfl (lv_room (Nat.le_of_ble_eq_true rfl)) dX4_stop_2 ⟨Nat.zero_le _, Nat.zero_le _⟩) ?_
  refine lv_if_eq (tgt := 10) hx hb dX4_stop_5 (by decide) (fun c5 => ?_) (fun c5 => ?_)
  · have t5 := bf_noSign_z c5
    rw [if_pos c5] at hG
    have px : 0 ≤ p1.toInt ∧ p1.toInt < 8 := by omega
    refine lv_aload_n hx hb dX4_stop_10 rfl (lv_at hl 0 rfl) ?_
    refine lv_aload_n hx hb dX4_stop_11 rfl (lv_at hl 0 rfl) ?_
    refine r_get (C := RX4) (T := TX4) (N := 25) S hK w (k := 0) (by decide) (eM_0 ad _) rfl hinX4 4 (by decide) (List.mem_of_getElem? (i := 1) rfl) rfl dX4_stop_12 ?_
    refine lv_iload_n hx hb dX4_stop_15 rfl (lv_at hl 1 rfl) ?_
    have g16 : vp_in p1 8 := vpi (by omega) (by omega)
    refine r_iald (cA := ad 100) (N := 8) S hK w (k := 1) (by decide) (fun f => rfl) rfl g16 dX4_stop_16 ?_
    refine lv_iconst (v := 2) hx hb dX4_stop_17 (by decide) ?_
    have J18_26 : ∀ (k1_18_26 : Int32), (if ((f_X4_traced σ k1_18_26) 1 (ix p1)) = 2 then (90, (f_X4_traced σ k1_18_26)) else (p1, (f_X4_traced σ k1_18_26))) = T → ∀ (H : Heap) (locs : List Loc), CW 18 (eM ad) ad D (CA 18 ad sz) s.heap σ H locs → ∀ ls : Array Slot, lv_has ls 2 [(0, .ref (ad 0)), (1, .int p1)] → W p l e (headSpec wsX4_stop ({ frames := 2, cells := 0, slots := 0, locals := 46 })).room s m ([.ref (ad 0), .int p1] : List Value).toArray below meth c H locs 0 0 (MQ below (QWi 18 (eM ad) ad D T (CA 18 ad sz)) ([.ref (ad 0), .int p1] : List Value).toArray s 0 0 (CA 18 ad sz)) (F0 m 26 ls [.int k1_18_26, .ref (ad 0)]) := by
      intro k1_18_26 hG H locs w ls hl
      refine callWv w (va_runV (As := [.int k1_18_26]) (rest := []) S (c_X4_traced l ad D H.size σ k1_18_26) (cwV 1 S.2.2.2.2 gX4_stop_X4_traced rfl rfl rfl ⟨rfl, hd_X4_traced⟩ ⟨Nat.le_of_ble_eq_true rfl, Nat.le_of_ble_eq_true rfl⟩) (preV hK hN w (k := 0) (by decide) (eM_0 ad _) (q := (RX4, TX4, 25)) rfl) rfl rfl hl.1 rfl (lv_room (Nat.le_of_ble_eq_true rfl)) dX4_stop_26 ⟨Nat.zero_le _, Nat.zero_le _⟩) (fun H locs w => ?_)
      refine lv_aload_n hx hb dX4_stop_29 rfl (lv_at hl 0 rfl) ?_
      refine r_get (C := RX4) (T := TX4) (N := 25) S hK w (k := 0) (by decide) (eM_0 ad _) rfl hinX4 4 (by decide) (List.mem_of_getElem? (i := 1) rfl) rfl dX4_stop_30 ?_
      refine lv_iload_n hx hb dX4_stop_33 rfl (lv_at hl 1 rfl) ?_
      have g34 : vp_in p1 8 := vpi (by omega) (by omega)
      refine r_iald (cA := ad 100) (N := 8) S hK w (k := 1) (by decide) (fun f => rfl) rfl g34 dX4_stop_34 ?_
      refine lv_iconst (v := 2) hx hb dX4_stop_35 (by decide) ?_
      refine lv_icmp_ne (tgt := 44) hx hb dX4_stop_36 (by decide) (fun c36 => ?_) (fun c36 => ?_)
      · have t36 : ((f_X4_traced σ k1_18_26) 1 (ix p1)).toInt ≠ 2 := qt_ne c36
        rw [if_neg c36] at hG
        refine lv_iload_n hx hb dX4_stop_44 rfl (lv_at hl 1 rfl) ?_
        exact endWi S hr hlocks w hG dX4_stop_45
      · have t36 : ((f_X4_traced σ k1_18_26) 1 (ix p1)).toInt = 2 := qt_eq c36
        rw [if_pos c36] at hG
        refine lv_bipush (v := 90) hx hb dX4_stop_39 (by decide) ?_
        refine lv_goto (tgt := 45) hx hb dX4_stop_41 (by decide) ?_
        exact endWi S hr hlocks w hG dX4_stop_45
    refine lv_icmp_ne (tgt := 25) hx hb dX4_stop_18 (by decide) (fun c18 => ?_) (fun c18 => ?_)
    · have t18 : (σ 1 (ix p1)).toInt ≠ 2 := qt_ne c18
      simp only [if_neg c18] at hG
      refine lv_iconst (v := 4) hx hb dX4_stop_25 (by decide) ?_
      exact J18_26 4 hG _ _ w ls (lv_sub hl [0, 1] rfl)
    · have t18 : (σ 1 (ix p1)).toInt = 2 := qt_eq c18
      simp only [if_pos c18] at hG
      refine lv_iconst (v := 5) hx hb dX4_stop_21 (by decide) ?_
      refine lv_goto (tgt := 26) hx hb dX4_stop_22 (by decide) ?_
      exact J18_26 5 hG _ _ w ls (lv_sub hl [0, 1] rfl)
  · rw [if_neg c5] at hG
    refine lv_iconst (v := (-1)) hx hb dX4_stop_8 (by decide) ?_
    exact endWi S hr hlocks w hG dX4_stop_9
set_option maxHeartbeats 4000000 in
set_option maxRecDepth 100000 in
theorem c_X4_as (l : Launch) (ad : Nat → Nat) (D : va_G) (sz : Nat) (σ : St) (p1 : Int32) (p2 : Int32) (hok : OkM σ) : Met l yX4_as wsX4_as ({ frames := 2, cells := 0, slots := 0, locals := 46 }) (PreW 18 (eM ad) ad D (tyM ad) σ sz ([.ref (ad 0), .int p1, .int p2] : List Value)) (QWi 18 (eM ad) ad D (f_X4_as σ p1 p2) (CA 18 ad sz)) 0 0 (CA 18 ad sz) := by
  generalize hG : f_X4_as σ p1 p2 = T
  refine headW (cc := cX4_as) (maxL := 3) (ret := (some .int)) ([.ref (ad 0), .int p1, .int p2] : List Value) (by decide) rfl (Nat.le_of_ble_eq_true rfl) ?_
  intro p e s m below meth c S hr hlocks hK hN hsz w ls hl
  have S : CallFix p m c cX4_as 3 s ([.ref (ad 0), .int p1, .int p2] : List Value).toArray wsX4_as RX4 := S
  have hx := S.1
  have hb := S.2.1
  have z0 : (0 : Int32).toInt = 0 := by decide
  have z1 : (1 : Int32).toInt = 1 := by decide
  have hl : lv_has ls 3 [(0, .ref (ad 0)), (1, .int p1), (2, .int p2)] := hl
  have hinX4 : ∀ w ∈ wsX40, w ∈ wsX4_as := (fun _ h => List.mem_cons_of_mem _ (List.mem_append_right _ h))
  have okf0 := hok.1
  have okf1 := hok.2.1
  have okf2 := hok.2.2.1
  have okf3 := hok.2.2.2.1
  have okf4 := hok.2.2.2.2.1
  have okf6 := hok.2.2.2.2.2.1
  have okf7 := hok.2.2.2.2.2.2.1
  have okf8 := hok.2.2.2.2.2.2.2
  rw [f_X4_as] at hG
  refine lv_aload_n hx hb dX4_as_0 rfl (lv_at hl 0 rfl) ?_
  refine lv_iload_n hx hb dX4_as_1 rfl (lv_at hl 1 rfl) ?_
  refine call0i (va_runV (As := [.int p1]) (rest := []) S (c_X4_noSign l ad D s.heap.size σ p1) (cwV 1 S.2.2.2.2 gX4_as_X4_noSign rfl rfl rfl ⟨rfl, hd_X4_noSign⟩ ⟨Nat.le_of_ble_eq_true rfl, Nat.le_of_ble_eq_true rfl⟩) (preV hK hN w (k := 0) (by decide) (eM_0 ad _) (q := (RX4, TX4, 25)) rfl) rfl rfl hl.1 rfl (lv_room (Nat.le_of_ble_eq_true rfl)) dX4_as_2 ⟨Nat.zero_le _, Nat.zero_le _⟩) ?_
  refine lv_if_eq (tgt := 14) hx hb dX4_as_5 (by decide) (fun c5 => ?_) (fun c5 => ?_)
  · have t5 := bf_noSign_z c5
    rw [if_pos c5] at hG
    refine lv_iload_n hx hb dX4_as_14 rfl (lv_at hl 2 rfl) ?_
    refine lv_i2l hx hb dX4_as_15 rfl ?_
    refine lv_lconst (v := 0) hx hb dX4_as_16 (by decide) ?_
    refine lv_ldc2 hx hb S.2.2.2.1 (S.2.2.2.2 _ (List.mem_of_getElem? (i := 1) rfl)) dX4_as_17 ?_
    refine call0i (va_runS (As := [.long p2.toInt64, .long 0, .long 2]) (rest := []) S (c_X4_in l p2.toInt64 0 2) (va_cwS 3 S.2.2.2.2 gX4_as_X4_in rfl rfl rfl hd_X4_in ⟨Nat.le_of_ble_eq_true rfl, Nat.le_of_ble_eq_true rfl⟩) pre0S rfl rfl hl.1 rfl (lv_room (Nat.le_of_ble_eq_true rfl)) dX4_as_20 ⟨Nat.zero_le _, Nat.zero_le _⟩) ?_
    refine lv_if_ne (tgt := 33) hx hb dX4_as_23 (by decide) (fun c23 => ?_) (fun c23 => ?_)
    · have t23 := bf_in_n c23
      rw [if_neg c23] at hG
      refine lv_aload_n hx hb dX4_as_33 rfl (lv_at hl 0 rfl) ?_
      refine r_get (C := RX4) (T := TX4) (N := 25) S hK w (k := 0) (by decide) (eM_0 ad _) rfl hinX4 4 (by decide) (List.mem_of_getElem? (i := 2) rfl) rfl dX4_as_34 ?_
      refine lv_iload_n hx hb dX4_as_37 rfl (lv_at hl 1 rfl) ?_
      have g38 : vp_in p1 8 := vpi (by omega) (by omega)
      refine r_iald (cA := ad 100) (N := 8) S hK w (k := 1) (by decide) (fun f => rfl) rfl g38 dX4_as_38 ?_
      refine lv_iload_n hx hb dX4_as_39 rfl (lv_at hl 2 rfl) ?_
      refine lv_icmp_lt (tgt := 51) hx hb dX4_as_40 (by decide) (fun c40 => ?_) (fun c40 => ?_)
      · have t40 : (σ 1 (ix p1)).toInt < p2.toInt := qt_lt c40
        rw [if_pos c40] at hG
        refine lv_aload_n hx hb dX4_as_51 rfl (lv_at hl 0 rfl) ?_
        refine lv_iconst (v := 2) hx hb dX4_as_52 (by decide) ?_
        refine callWi w (va_runV (As := [.int 2]) (rest := []) S (c_X4_failed l ad D s.heap.size σ 2) (cwV 1 S.2.2.2.2 gX4_as_X4_failed rfl rfl rfl ⟨rfl, hd_X4_failed⟩ ⟨Nat.le_of_ble_eq_true rfl, Nat.le_of_ble_eq_true rfl⟩) (preV hK hN w (k := 0) (by decide) (eM_0 ad _) (q := (RX4, TX4, 25)) rfl) rfl rfl hl.1 rfl (lv_room (Nat.le_of_ble_eq_true rfl)) dX4_as_53 ⟨Nat.zero_le _, Nat.zero_le _⟩) (fun H locs w => ?_)
        exact endWi S hr hlocks w hG dX4_as_56
      · have t40 : p2.toInt ≤ (σ 1 (ix p1)).toInt := qt_nlt c40
        rw [if_neg c40] at hG
        refine lv_aload_n hx hb dX4_as_43 rfl (lv_at hl 0 rfl) ?_
        refine lv_iconst (v := 1) hx hb dX4_as_44 (by decide) ?_
        refine callWi w (va_runV (As := [.int 1]) (rest := []) S (c_X4_refused l ad D s.heap.size σ 1) (cwV 1 S.2.2.2.2 gX4_as_X4_refused rfl rfl rfl ⟨rfl, hd_X4_refused⟩ ⟨Nat.le_of_ble_eq_true rfl, Nat.le_of_ble_eq_true rfl⟩) (preV hK hN w (k := 0) (by decide) (eM_0 ad _) (q := (RX4, TX4, 25)) rfl) rfl rfl hl.1 rfl (lv_room (Nat.le_of_ble_eq_true rfl)) dX4_as_45 ⟨Nat.zero_le _, Nat.zero_le _⟩) (fun H locs w => ?_)
        refine lv_goto (tgt := 56) hx hb dX4_as_48 (by decide) ?_
        exact endWi S hr hlocks w hG dX4_as_56
    · rw [if_pos c23] at hG
      refine lv_aload_n hx hb dX4_as_26 rfl (lv_at hl 0 rfl) ?_
      refine lv_bipush (v := (-2)) hx hb dX4_as_27 (by decide) ?_
      refine callWi w (va_runV (As := [.int (-2)]) (rest := []) S (c_X4_refused l ad D s.heap.size σ (-2)) (cwV 1 S.2.2.2.2 gX4_as_X4_refused rfl rfl rfl ⟨rfl, hd_X4_refused⟩ ⟨Nat.le_of_ble_eq_true rfl, Nat.le_of_ble_eq_true rfl⟩) (preV hK hN w (k := 0) (by decide) (eM_0 ad _) (q := (RX4, TX4, 25)) rfl) rfl rfl hl.1 rfl (lv_room (Nat.le_of_ble_eq_true rfl)) dX4_as_29 ⟨Nat.zero_le _, Nat.zero_le _⟩) (fun H locs w => ?_)
      exact endWi S hr hlocks w hG dX4_as_32
  · rw [if_neg c5] at hG
    refine lv_aload_n hx hb dX4_as_8 rfl (lv_at hl 0 rfl) ?_
    refine lv_iconst (v := (-1)) hx hb dX4_as_9 (by decide) ?_
    refine callWi w (va_runV (As := [.int (-1)]) (rest := []) S (c_X4_refused l ad D s.heap.size σ (-1)) (cwV 1 S.2.2.2.2 gX4_as_X4_refused rfl rfl rfl ⟨rfl, hd_X4_refused⟩ ⟨Nat.le_of_ble_eq_true rfl, Nat.le_of_ble_eq_true rfl⟩) (preV hK hN w (k := 0) (by decide) (eM_0 ad _) (q := (RX4, TX4, 25)) rfl) rfl rfl hl.1 rfl (lv_room (Nat.le_of_ble_eq_true rfl)) dX4_as_10 ⟨Nat.zero_le _, Nat.zero_le _⟩) (fun H locs w => ?_)
    exact endWi S hr hlocks w hG dX4_as_13
set_option maxHeartbeats 4000000 in
set_option maxRecDepth 100000 in
theorem c_X4_trace (l : Launch) (ad : Nat → Nat) (D : va_G) (sz : Nat) (σ : St) : Met l yX4_trace wsX4_trace ({ frames := 0, cells := 0, slots := 0, locals := 0 }) (PreW 18 (eM ad) ad D (tyM ad) σ sz ([.ref (ad 0)] : List Value)) (Q0i (f_X4_trace σ)) 0 0 N0 := by
  generalize hG : f_X4_trace σ = T
  refine headW (cc := cX4_trace) (maxL := 1) (ret := (some .int)) ([.ref (ad 0)] : List Value) (by decide) rfl (Nat.le_of_ble_eq_true rfl) ?_
  intro p e s m below meth c S hr hlocks hK hN hsz w ls hl
  have S : CallFix p m c cX4_trace 1 s ([.ref (ad 0)] : List Value).toArray wsX4_trace RX4 := S
  have hx := S.1
  have hb := S.2.1
  have z0 : (0 : Int32).toInt = 0 := by decide
  have z1 : (1 : Int32).toInt = 1 := by decide
  have hl : lv_has ls 1 [(0, .ref (ad 0))] := hl
  have hinX4 : ∀ w ∈ wsX40, w ∈ wsX4_trace := (fun _ h => List.mem_cons_of_mem _ (List.mem_append_right _ h))
  rw [f_X4_trace] at hG
  refine lv_aload_n hx hb dX4_trace_0 rfl (lv_at hl 0 rfl) ?_
  refine r_get (C := RX4) (T := TX4) (N := 25) S hK w (k := 0) (by decide) (eM_0 ad _) rfl hinX4 24 (by decide) (List.mem_of_getElem? (i := 1) rfl) rfl dX4_trace_1 ?_
  exact end0i S hr hlocks hG dX4_trace_4
set_option maxHeartbeats 4000000 in
set_option maxRecDepth 100000 in
theorem c_X4_fault (l : Launch) (ad : Nat → Nat) (D : va_G) (sz : Nat) (σ : St) : Met l yX4_fault wsX4_fault ({ frames := 0, cells := 0, slots := 0, locals := 0 }) (PreW 18 (eM ad) ad D (tyM ad) σ sz ([.ref (ad 0)] : List Value)) (Q0i (f_X4_fault σ)) 0 0 N0 := by
  generalize hG : f_X4_fault σ = T
  refine headW (cc := cX4_fault) (maxL := 1) (ret := (some .int)) ([.ref (ad 0)] : List Value) (by decide) rfl (Nat.le_of_ble_eq_true rfl) ?_
  intro p e s m below meth c S hr hlocks hK hN hsz w ls hl
  have S : CallFix p m c cX4_fault 1 s ([.ref (ad 0)] : List Value).toArray wsX4_fault RX4 := S
  have hx := S.1
  have hb := S.2.1
  have z0 : (0 : Int32).toInt = 0 := by decide
  have z1 : (1 : Int32).toInt = 1 := by decide
  have hl : lv_has ls 1 [(0, .ref (ad 0))] := hl
  have hinX4 : ∀ w ∈ wsX40, w ∈ wsX4_fault := (fun _ h => List.mem_cons_of_mem _ (List.mem_append_right _ h))
  rw [f_X4_fault] at hG
  refine lv_aload_n hx hb dX4_fault_0 rfl (lv_at hl 0 rfl) ?_
  refine r_get (C := RX4) (T := TX4) (N := 25) S hK w (k := 0) (by decide) (eM_0 ad _) rfl hinX4 0 (by decide) (List.mem_of_getElem? (i := 1) rfl) rfl dX4_fault_1 ?_
  exact end0i S hr hlocks hG dX4_fault_4
set_option maxHeartbeats 4000000 in
set_option maxRecDepth 100000 in
theorem c_X4_many (l : Launch) (ad : Nat → Nat) (D : va_G) (sz : Nat) (σ : St) (p1 : Int32) : Met l yX4_many wsX4_many ({ frames := 0, cells := 0, slots := 0, locals := 0 }) (PreW 18 (eM ad) ad D (tyM ad) σ sz ([.ref (ad 0), .int p1] : List Value)) (Q0i (f_X4_many σ p1)) 0 0 N0 := by
  generalize hG : f_X4_many σ p1 = T
  refine headW (cc := cX4_many) (maxL := 2) (ret := (some .int)) ([.ref (ad 0), .int p1] : List Value) (by decide) rfl (Nat.le_of_ble_eq_true rfl) ?_
  intro p e s m below meth c S hr hlocks hK hN hsz w ls hl
  have S : CallFix p m c cX4_many 2 s ([.ref (ad 0), .int p1] : List Value).toArray wsX4_many RX4 := S
  have hx := S.1
  have hb := S.2.1
  have z0 : (0 : Int32).toInt = 0 := by decide
  have z1 : (1 : Int32).toInt = 1 := by decide
  have hl : lv_has ls 2 [(0, .ref (ad 0)), (1, .int p1)] := hl
  have hinX4 : ∀ w ∈ wsX40, w ∈ wsX4_many := (fun _ h => List.mem_cons_of_mem _ (List.mem_append_right _ h))
  rw [f_X4_many] at hG
  refine lv_iload_n hx hb dX4_many_0 rfl (lv_at hl 1 rfl) ?_
  by_cases c1_0 : p1 = 0
  · rw [if_pos c1_0] at hG
    refine lv_tableIn (tgt := 32) hx hb dX4_many_1 (by rw [c1_0]; decide) (by rw [c1_0]; decide) (off := 31) (by rw [c1_0]; decide) (by decide) ?_
    refine lv_aload_n hx hb dX4_many_32 rfl (lv_at hl 0 rfl) ?_
    refine r_get (C := RX4) (T := TX4) (N := 25) S hK w (k := 0) (by decide) (eM_0 ad _) rfl hinX4 1 (by decide) (List.mem_of_getElem? (i := 1) rfl) rfl dX4_many_33 ?_
    exact end0i S hr hlocks hG dX4_many_36
  rw [if_neg c1_0] at hG
  by_cases c1_1 : p1 = 1
  · rw [if_pos c1_1] at hG
    refine lv_tableIn (tgt := 37) hx hb dX4_many_1 (by rw [c1_1]; decide) (by rw [c1_1]; decide) (off := 36) (by rw [c1_1]; decide) (by decide) ?_
    refine lv_aload_n hx hb dX4_many_37 rfl (lv_at hl 0 rfl) ?_
    refine r_get (C := RX4) (T := TX4) (N := 25) S hK w (k := 0) (by decide) (eM_0 ad _) rfl hinX4 11 (by decide) (List.mem_of_getElem? (i := 2) rfl) rfl dX4_many_38 ?_
    exact end0i S hr hlocks hG dX4_many_41
  rw [if_neg c1_1] at hG
  by_cases c1_2 : p1 = 2
  · rw [if_pos c1_2] at hG
    refine lv_tableIn (tgt := 42) hx hb dX4_many_1 (by rw [c1_2]; decide) (by rw [c1_2]; decide) (off := 41) (by rw [c1_2]; decide) (by decide) ?_
    refine lv_aload_n hx hb dX4_many_42 rfl (lv_at hl 0 rfl) ?_
    refine r_get (C := RX4) (T := TX4) (N := 25) S hK w (k := 0) (by decide) (eM_0 ad _) rfl hinX4 2 (by decide) (List.mem_of_getElem? (i := 3) rfl) rfl dX4_many_43 ?_
    exact end0i S hr hlocks hG dX4_many_46
  rw [if_neg c1_2] at hG
  by_cases c1_3 : p1 = 3
  · rw [if_pos c1_3] at hG
    refine lv_tableIn (tgt := 47) hx hb dX4_many_1 (by rw [c1_3]; decide) (by rw [c1_3]; decide) (off := 46) (by rw [c1_3]; decide) (by decide) ?_
    refine lv_aload_n hx hb dX4_many_47 rfl (lv_at hl 0 rfl) ?_
    refine r_get (C := RX4) (T := TX4) (N := 25) S hK w (k := 0) (by decide) (eM_0 ad _) rfl hinX4 3 (by decide) (List.mem_of_getElem? (i := 4) rfl) rfl dX4_many_48 ?_
    exact end0i S hr hlocks hG dX4_many_51
  rw [if_neg c1_3] at hG
  have y1_0 : p1.toInt ≠ 0 := qt_ne c1_0
  have y1_1 : p1.toInt ≠ 1 := qt_ne c1_1
  have y1_2 : p1.toInt ≠ 2 := qt_ne c1_2
  have y1_3 : p1.toInt ≠ 3 := qt_ne c1_3
  refine lv_tableOut (tgt := 52) hx hb dX4_many_1 (by omega) (by decide) ?_
  refine lv_bipush (v := (-2)) hx hb dX4_many_52 (by decide) ?_
  exact end0i S hr hlocks hG dX4_many_54
