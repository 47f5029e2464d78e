set_option maxHeartbeats 4000000 in
set_option maxRecDepth 100000 in
theorem c_X4_forged (l : Launch) (ad : Nat → Nat) (D : va_G) (sz : Nat) (σ : St) (p1 : Int32) (p2 : Int32) (p3 : Int32) (p4 : Int32) (p5 : Int32) (p6 : Int32) (hok : OkM σ) : Met l yX4_forged wsX4_forged ({ frames := 3, cells := 0, slots := 0, locals := 71 }) (PreW 18 (eM ad) ad D (tyM ad) σ sz ([.ref (ad 0), .int p1, .int p2, .int p3, .int p4, .int p5, .int p6] : List Value)) (QWi 18 (eM ad) ad D (f_X4_forged σ p1 p2 p3 p4 p5 p6) (CA 18 ad sz)) 0 0 (CA 18 ad sz) := by
  generalize hG : f_X4_forged σ p1 p2 p3 p4 p5 p6 = T
  refine headW (cc := cX4_forged) (maxL := 11) (ret := (some .int)) ([.ref (ad 0), .int p1, .int p2, .int p3, .int p4, .int p5, .int p6] : List Value) (by decide) rfl (Nat.le_of_ble_eq_true rfl) ?_
  intro p e s m below meth c S hr hlocks hK hN hsz w ls hl
  have S : CallFix p m c cX4_forged 11 s ([.ref (ad 0), .int p1, .int p2, .int p3, .int p4, .int p5, .int p6] : List Value).toArray wsX4_forged RX4 := S
  have hx := S.1
  have hb := S.2.1
  have z0 : (0 : Int32).toInt = 0 := by decide
  have z1 : (1 : Int32).toInt = 1 := by decide
  have hl : lv_has ls 11 [(0, .ref (ad 0)), (1, .int p1), (2, .int p2), (3, .int p3), (4, .int p4), (5, .int p5), (6, .int p6)] := hl
  have hinX4 : ∀ w ∈ wsX40, w ∈ wsX4_forged := (fun _ h => List.mem_cons_of_mem _ (List.mem_append_right _ h))
  have okf0 := hok.1
  have okf1 := hok.2.1
  have okf2 := hok.2.2.1
  have okf3 := hok.2.2.2.1
  have okf4 := hok.2.2.2.2.1
  have okf6 := hok.2.2.2.2.2.1
  have okf7 := hok.2.2.2.2.2.2.1
  have okf8 := hok.2.2.2.2.2.2.2
  rw [f_X4_forged] at hG
  refine lv_aload_n hx hb dX4_forged_0 rfl (lv_at hl 0 rfl) ?_
  refine lv_iload_n hx hb dX4_forged_1 rfl (lv_at hl 1 rfl) ?_
  refine lv_iload_n hx hb dX4_forged_2 rfl (lv_at hl 2 rfl) ?_
  refine call0i (va_runV (As := [.int p1, .int p2]) (rest := []) S (c_X4_areTwo l ad D s.heap.size σ p1 p2) (cwV 2 S.2.2.2.2 gX4_forged_X4_areTwo rfl rfl rfl ⟨rfl, hd_X4_areTwo⟩ ⟨Nat.le_of_ble_eq_true rfl, Nat.le_of_ble_eq_true rfl⟩) (preV hK hN w (k := 0) (by decide) (eM_0 ad _) (q := (RX4, TX4, 25)) rfl) rfl rfl hl.1 rfl (lv_room (Nat.le_of_ble_eq_true rfl)) dX4_forged_3 ⟨Nat.zero_le _, Nat.zero_le _⟩) ?_
  refine lv_if_ne (tgt := 15) hx hb dX4_forged_6 (by decide) (fun c6 => ?_) (fun c6 => ?_)
  · have t6 := bf_areTwo_n c6
    rw [if_neg c6] at hG
    refine lv_aload_n hx hb dX4_forged_15 rfl (lv_at hl 0 rfl) ?_
    refine lv_iload_n hx hb dX4_forged_16 rfl (lv_at hl 3 rfl) ?_
    refine lv_iload hx hb dX4_forged_17 (lv_at hl 4 rfl) ?_
    refine lv_iload hx hb dX4_forged_19 (lv_at hl 5 rfl) ?_
    refine lv_ldc2 hx hb S.2.2.2.1 (S.2.2.2.2 _ (List.mem_of_getElem? (i := 1) rfl)) dX4_forged_21 ?_
    refine lv_iload hx hb dX4_forged_24 (lv_at hl 6 rfl) ?_
    refine lv_i2l hx hb dX4_forged_26 rfl ?_
    refine lv_lmul hx hb dX4_forged_27 ?_
    have ok3 := okf3
    refine callWi w (va_runV (As := [.int p3, .int p4, .int p5, .long (2 * p6.toInt64)]) (rest := []) S (c_X4_barred l ad D s.heap.size σ p3 p4 p5 (2 * p6.toInt64)) (cwV 4 S.2.2.2.2 gX4_forged_X4_barred rfl rfl rfl ⟨rfl, hd_X4_barred⟩ ⟨Nat.le_of_ble_eq_true rfl, Nat.le_of_ble_eq_true rfl⟩) (preV hK hN w (k := 0) (by decide) (eM_0 ad _) (q := (RX4, TX4, 25)) rfl) rfl rfl hl.1 rfl (lv_room (Nat.le_of_ble_eq_true rfl)) dX4_forged_28 ⟨Nat.zero_le _, Nat.zero_le _⟩) (fun H locs w => ?_)
    have hok : OkM ((f_X4_barred σ p3 p4 p5 (2 * p6.toInt64)).2) := ok_X4_barred hok
    have okf0 := hok.1
    have okf1 := hok.2.1
    have okf2 := hok.2.2.1
    have okf3 := hok.2.2.2.1
    have okf4 := hok.2.2.2.2.1
    have okf6 := hok.2.2.2.2.2.1
    have okf7 := hok.2.2.2.2.2.2.1
    have okf8 := hok.2.2.2.2.2.2.2
    refine lv_istore (lv' := [(7, .int ((f_X4_barred σ p3 p4 p5 (2 * p6.toInt64)).1)), (0, .ref (ad 0)), (1, .int p1), (2, .int p2), (3, .int p3), (4, .int p4), (5, .int p5), (6, .int p6)]) hx hb dX4_forged_31 hl (by decide) rfl (fun ls hl => ?_)
    refine lv_iload hx hb dX4_forged_33 (lv_at hl 0 rfl) ?_
    refine lv_if_ge (tgt := 41) hx hb dX4_forged_35 (by decide) (fun c35 => ?_) (fun c35 => ?_)
    · have t35 : 0 ≤ ((f_X4_barred σ p3 p4 p5 (2 * p6.toInt64)).1).toInt := qt_le c35
      rw [if_pos c35] at hG
      have z := br_z c35
      have zl := l2_toInt p6
      have zb : p6.toInt < 2147483648 := Int32.toInt_lt p6
      have z3 := ok3 (ix p3) (vpl (vpi (by omega) (by omega)))
      have e44 := km_toInt (a := p3) (k := 90) (z := 90) (by decide) (by omega) (by omega)
      have e47 := a_toInt (a := 90 * p3) (b := p5) (by omega) (by omega)
      refine lv_bipush (v := 90) hx hb dX4_forged_41 (by decide) ?_
      refine lv_iload_n hx hb dX4_forged_43 rfl (lv_at hl 4 rfl) ?_
      refine lv_imul hx hb dX4_forged_44 ?_
      refine lv_iload hx hb dX4_forged_45 (lv_at hl 6 rfl) ?_
      refine lv_iadd hx hb dX4_forged_47 ?_
      refine lv_istore (lv' := [(8, .int ((90 * p3) + p5)), (7, .int ((f_X4_barred σ p3 p4 p5 (2 * p6.toInt64)).1)), (0, .ref (ad 0)), (1, .int p1), (2, .int p2), (3, .int p3), (4, .int p4), (5, .int p5), (6, .int p6)]) hx hb dX4_forged_48 hl (by decide) rfl (fun ls hl => ?_)
      refine lv_iload hx hb dX4_forged_50 (lv_at hl 8 rfl) ?_
      refine lv_bipush (v := 10) hx hb dX4_forged_52 (by decide) ?_
      refine lv_icmp_le (tgt := 64) hx hb dX4_forged_54 (by decide) (fun c54 => ?_) (fun c54 => ?_)
      · have t54 : p6.toInt ≤ 10 := qt_le c54
        rw [if_pos c54] at hG
        refine lv_iconst (v := 0) hx hb dX4_forged_64 (by decide) ?_
        refine lv_istore (lv' := [(9, .int 0), (8, .int ((90 * p3) + p5)), (7, .int ((f_X4_barred σ p3 p4 p5 (2 * p6.toInt64)).1)), (0, .ref (ad 0)), (1, .int p1), (2, .int p2), (3, .int p3), (4, .int p4), (5, .int p5), (6, .int p6)]) hx hb dX4_forged_65 hl (by decide) rfl (fun ls hl => ?_)
        have L67 : ∀ (n : Nat) (res67 : (Int32 × St) ⊕ (Unit)), ∀ (v9_67 : Int32), ((0 ≤ v9_67.toInt ∧ v9_67.toInt ≤ p6.toInt) ∧ (HSM ((f_X4_barred σ p3 p4 p5 (2 * p6.toInt64)).2) (90 * p3 + p5) v9_67)) → (p6.toInt - v9_67.toInt).toNat < n → (lp_X4_forged_67 ((f_X4_barred σ p3 p4 p5 (2 * p6.toInt64)).2) p1 p2 p6 ((90 * p3) + p5) n v9_67) = res67 → (∀ r : Int32 × St, res67 = Sum.inl r → r = T) → ((HSM ((f_X4_barred σ p3 p4 p5 (2 * p6.toInt64)).2) (90 * p3 + p5) p6) → res67 = Sum.inr () → ∀ (H : Heap) (locs : List Loc), CW 18 (eM ad) ad D (CA 18 ad sz) s.heap ((f_X4_barred σ p3 p4 p5 (2 * p6.toInt64)).2) H locs → ∀ ls : Array Slot, lv_has ls 11 [(0, .ref (ad 0)), (1, .int p1), (2, .int p2), (6, .int p6), (8, .int ((90 * p3) + p5))] → W p l e (headSpec wsX4_forged ({ frames := 3, cells := 0, slots := 0, locals := 71 })).room s m ([.ref (ad 0), .int p1, .int p2, .int p3, .int p4, .int p5, .int p6] : List Value).toArray below meth c H locs 0 0 (MQ below (QWi 18 (eM ad) ad D T (CA 18 ad sz)) ([.ref (ad 0), .int p1, .int p2, .int p3, .int p4, .int p5, .int p6] : List Value).toArray s 0 0 (CA 18 ad sz)) (F0 m 130 ls [])) → ∀ (H : Heap) (locs : List Loc), CW 18 (eM ad) ad D (CA 18 ad sz) s.heap ((f_X4_barred σ p3 p4 p5 (2 * p6.toInt64)).2) H locs → ∀ ls : Array Slot, lv_has ls 11 [(0, .ref (ad 0)), (1, .int p1), (2, .int p2), (6, .int p6), (8, .int ((90 * p3) + p5)), (9, .int v9_67)] → W p l e (headSpec wsX4_forged ({ frames := 3, cells := 0, slots := 0, locals := 71 })).room s m ([.ref (ad 0), .int p1, .int p2, .int p3, .int p4, .int p5, .int p6] : List Value).toArray below meth c H locs 0 0 (MQ below (QWi 18 (eM ad) ad D T (CA 18 ad sz)) ([.ref (ad 0), .int p1, .int p2, .int p3, .int p4, .int p5, .int p6] : List Value).toArray s 0 0 (CA 18 ad sz)) (F0 m 67 ls []) := by
          intro n
          induction n with
          | zero => intro _ _ _ hm; exact absurd hm (Nat.not_lt_zero _)
          | succ n ih67 =>
            intro res67 v9_67 hI67 hm67 hG hret67 hex67 H locs w ls hl
            obtain ⟨i67_0, i67_1⟩ := id hI67
            rw [lp_X4_forged_67] at hG
            refine lv_iload hx hb dX4_forged_67 (lv_at hl 5 rfl) ?_
            refine lv_iload hx hb dX4_forged_69 (lv_at hl 3 rfl) ?_
            refine lv_icmp_ge (tgt := 130) hx hb dX4_forged_71 (by decide) (fun c71 => ?_) (fun c71 => ?_)
            · have t71 : p6.toInt ≤ v9_67.toInt := qt_le c71
              rw [if_pos c71] at hG
              exact hex67 (fun k h0 h1 => i67_1 k h0 (by omega)) hG.symm _ _ w ls (lv_sub hl [0, 1, 2, 3, 4] rfl)
            · have t71 : v9_67.toInt < p6.toInt := qt_nle c71
              rw [if_neg c71] at hG
              have e83 := km_toInt (a := v9_67) (k := 2) (z := 2) (by decide) (by omega) (by omega)
              have e84 := a_toInt (a := (90 * p3 + p5)) (b := 2 * v9_67) (by omega) (by omega)
              have e104 := inc_toInt (a := (90 * p3 + p5) + 2 * v9_67) (by omega) (by omega)
              refine lv_aload_n hx hb dX4_forged_74 rfl (lv_at hl 0 rfl) ?_
              refine r_get (C := RX4) (T := TX4) (N := 25) S hK w (k := 0) (by decide) (eM_0 ad _) rfl hinX4 22 (by decide) (List.mem_of_getElem? (i := 2) rfl) rfl dX4_forged_75 ?_
              refine lv_iload hx hb dX4_forged_78 (lv_at hl 4 rfl) ?_
              refine lv_iconst (v := 2) hx hb dX4_forged_80 (by decide) ?_
              refine lv_iload hx hb dX4_forged_81 (lv_at hl 5 rfl) ?_
              refine lv_imul hx hb dX4_forged_83 ?_
              refine lv_iadd hx hb dX4_forged_84 ?_
              have g85 : vp_in (((90 * p3) + p5) + (2 * v9_67)) 360 := vpi (by omega) (by omega)
              refine r_iald (cA := ad 100) (N := 360) S hK w (k := 16) (by decide) (fun f => rfl) rfl g85 dX4_forged_85 ?_
              refine call0i (va_runS (As := [.int (((f_X4_barred σ p3 p4 p5 (2 * p6.toInt64)).2) 16 (ix (((90 * p3) + p5) + (2 * v9_67))))]) (rest := []) S (c_X4_noSmell l (((f_X4_barred σ p3 p4 p5 (2 * p6.toInt64)).2) 16 (ix (((90 * p3) + p5) + (2 * v9_67))))) (va_cwS 1 S.2.2.2.2 gX4_forged_X4_noSmell rfl rfl rfl hd_X4_noSmell ⟨Nat.le_of_ble_eq_true rfl, Nat.le_of_ble_eq_true rfl⟩) pre0S rfl rfl hl.1 rfl (lv_room (Nat.le_of_ble_eq_true rfl)) dX4_forged_86 ⟨Nat.zero_le _, Nat.zero_le _⟩) ?_
              refine lv_if_ne (tgt := 117) hx hb dX4_forged_89 (by decide) (fun c89 => ?_) (fun c89 => ?_)
              · rw [if_neg c89] at hG
                refine lv_aload_n hx hb dX4_forged_117 rfl (lv_at hl 0 rfl) ?_
                refine lv_bipush (v := (-2)) hx hb dX4_forged_118 (by decide) ?_
                refine callWi w (va_runV (As := [.int (-2)]) (rest := []) S (c_X4_refused l ad D H.size ((f_X4_barred σ p3 p4 p5 (2 * p6.toInt64)).2) (-2)) (cwV 1 S.2.2.2.2 gX4_forged_X4_refused rfl rfl rfl ⟨rfl, hd_X4_refused⟩ ⟨Nat.le_of_ble_eq_true rfl, Nat.le_of_ble_eq_true rfl⟩) (preV hK hN w (k := 0) (by decide) (eM_0 ad _) (q := (RX4, TX4, 25)) rfl) rfl rfl hl.1 rfl (lv_room (Nat.le_of_ble_eq_true rfl)) dX4_forged_120 ⟨Nat.zero_le _, Nat.zero_le _⟩) (fun H locs w => ?_)
                exact endWi S hr hlocks w (hret67 _ hG.symm) dX4_forged_123
              · have t89 := bf_noSmell_z c89
                rw [if_pos c89] at hG
                refine lv_aload_n hx hb dX4_forged_92 rfl (lv_at hl 0 rfl) ?_
                refine r_get (C := RX4) (T := TX4) (N := 25) S hK w (k := 0) (by decide) (eM_0 ad _) rfl hinX4 22 (by decide) (List.mem_of_getElem? (i := 2) rfl) rfl dX4_forged_93 ?_
                refine lv_iload hx hb dX4_forged_96 (lv_at hl 4 rfl) ?_
                refine lv_iconst (v := 2) hx hb dX4_forged_98 (by decide) ?_
                refine lv_iload hx hb dX4_forged_99 (lv_at hl 5 rfl) ?_
                refine lv_imul hx hb dX4_forged_101 ?_
                refine lv_iadd hx hb dX4_forged_102 ?_
                refine lv_iconst (v := 1) hx hb dX4_forged_103 (by decide) ?_
                refine lv_iadd hx hb dX4_forged_104 ?_
                have g105 : vp_in ((((90 * p3) + p5) + (2 * v9_67)) + 1) 360 := vpi (by omega) (by omega)
                refine r_iald (cA := ad 100) (N := 360) S hK w (k := 16) (by decide) (fun f => rfl) rfl g105 dX4_forged_105 ?_
                refine lv_i2l hx hb dX4_forged_106 rfl ?_
                refine lv_lconst (v := 1) hx hb dX4_forged_107 (by decide) ?_
                refine lv_ldc2 hx hb S.2.2.2.1 (S.2.2.2.2 _ (List.mem_of_getElem? (i := 3) rfl)) dX4_forged_108 ?_
                refine call0i (va_runS (As := [.long ((((f_X4_barred σ p3 p4 p5 (2 * p6.toInt64)).2) 16 (ix ((((90 * p3) + p5) + (2 * v9_67)) + 1))).toInt64), .long 1, .long 9]) (rest := []) S (c_X4_in l ((((f_X4_barred σ p3 p4 p5 (2 * p6.toInt64)).2) 16 (ix ((((90 * p3) + p5) + (2 * v9_67)) + 1))).toInt64) 1 9) (va_cwS 3 S.2.2.2.2 gX4_forged_X4_in rfl rfl rfl hd_X4_in ⟨Nat.le_of_ble_eq_true rfl, Nat.le_of_ble_eq_true rfl⟩) pre0S rfl rfl hl.1 rfl (lv_room (Nat.le_of_ble_eq_true rfl)) dX4_forged_111 ⟨Nat.zero_le _, Nat.zero_le _⟩) ?_
                refine lv_if_ne (tgt := 124) hx hb dX4_forged_114 (by decide) (fun c114 => ?_) (fun c114 => ?_)
                · have t114 := bf_in_n c114
                  rw [if_neg c114] at hG
                  refine lv_iinc (v := (v9_67 + 1)) (lv' := [(9, .int (v9_67 + 1)), (0, .ref (ad 0)), (1, .int p1), (2, .int p2), (6, .int p6), (8, .int ((90 * p3) + p5))]) hx hb dX4_forged_124 hl (k := 5) rfl rfl (by decide) rfl (fun ls hl => ?_)
                  refine lv_goto (tgt := 67) hx hb dX4_forged_127 (by decide) ?_
                  have b9_67 : (v9_67 + 1).toInt = v9_67.toInt + 1 := inc_toInt (by omega) (by omega)
                  exact ih67 _ (v9_67 + 1) ⟨(by omega), (hsm_step i67_1 b9_67 g85 g105 (vpi (by omega) (by omega)))⟩ (by omega) hG hret67 hex67 _ _ w ls (lv_sub hl [1, 2, 3, 4, 5, 0] rfl)
                · rw [if_pos c114] at hG
                  refine lv_aload_n hx hb dX4_forged_117 rfl (lv_at hl 0 rfl) ?_
                  refine lv_bipush (v := (-2)) hx hb dX4_forged_118 (by decide) ?_
                  refine callWi w (va_runV (As := [.int (-2)]) (rest := []) S (c_X4_refused l ad D H.size ((f_X4_barred σ p3 p4 p5 (2 * p6.toInt64)).2) (-2)) (cwV 1 S.2.2.2.2 gX4_forged_X4_refused rfl rfl rfl ⟨rfl, hd_X4_refused⟩ ⟨Nat.le_of_ble_eq_true rfl, Nat.le_of_ble_eq_true rfl⟩) (preV hK hN w (k := 0) (by decide) (eM_0 ad _) (q := (RX4, TX4, 25)) rfl) rfl rfl hl.1 rfl (lv_room (Nat.le_of_ble_eq_true rfl)) dX4_forged_120 ⟨Nat.zero_le _, Nat.zero_le _⟩) (fun H locs w => ?_)
                  exact endWi S hr hlocks w (hret67 _ hG.symm) dX4_forged_123
        refine L67 200 _ 0 ⟨(by omega), hsm_0⟩ (by omega) rfl (fun r hr67 => by rw [hr67] at hG; exact hG) (fun x67_0 hr67 H locs w ls hl => ?_) _ _ w ls (lv_sub hl [3, 4, 5, 9, 1, 0] rfl)
        rw [hr67] at hG
        dsimp only at hG
        refine lv_bipush (v := (-9)) hx hb dX4_forged_130 (by decide) ?_
        refine lv_istore (lv' := [(9, .int (-9)), (0, .ref (ad 0)), (1, .int p1), (2, .int p2), (6, .int p6), (8, .int ((90 * p3) + p5))]) hx hb dX4_forged_132 hl (by decide) rfl (fun ls hl => ?_)
        refine lv_iconst (v := 0) hx hb dX4_forged_134 (by decide) ?_
        refine lv_istore (lv' := [(10, .int 0), (9, .int (-9)), (0, .ref (ad 0)), (1, .int p1), (2, .int p2), (6, .int p6), (8, .int ((90 * p3) + p5))]) hx hb dX4_forged_135 hl (by decide) rfl (fun ls hl => ?_)
        have L137 : ∀ (n : Nat) (res137 : Int32 × St), ∀ (v9_137 : Int32), ∀ (v10_137 : Int32), ∀ (S_137 : St), ((OkM S_137) ∧ (0 ≤ v10_137.toInt ∧ v10_137.toInt ≤ 1024) ∧ (v9_137.toInt ≤ 1024) ∧ (S_137 16 = (f_X4_barred σ p3 p4 p5 (2 * p6.toInt64)).2 16)) → (1024 - v10_137.toInt).toNat < n → (lp_X4_forged_137 p1 p2 p6 ((90 * p3) + p5) n v9_137 v10_137 S_137) = res137 → (∀ (v9_137e : Int32), ∀ (S_137e : St), (OkM S_137e) → res137 = (v9_137e, S_137e) → ∀ (H : Heap) (locs : List Loc), CW 18 (eM ad) ad D (CA 18 ad sz) s.heap S_137e H locs → ∀ ls : Array Slot, lv_has ls 11 [(0, .ref (ad 0)), (9, .int v9_137e)] → W p l e (headSpec wsX4_forged ({ frames := 3, cells := 0, slots := 0, locals := 71 })).room s m ([.ref (ad 0), .int p1, .int p2, .int p3, .int p4, .int p5, .int p6] : List Value).toArray below meth c H locs 0 0 (MQ below (QWi 18 (eM ad) ad D T (CA 18 ad sz)) ([.ref (ad 0), .int p1, .int p2, .int p3, .int p4, .int p5, .int p6] : List Value).toArray s 0 0 (CA 18 ad sz)) (F0 m 189 ls [])) → ∀ (H : Heap) (locs : List Loc), CW 18 (eM ad) ad D (CA 18 ad sz) s.heap S_137 H locs → ∀ ls : Array Slot, lv_has ls 11 [(0, .ref (ad 0)), (1, .int p1), (2, .int p2), (6, .int p6), (8, .int ((90 * p3) + p5)), (9, .int v9_137), (10, .int v10_137)] → W p l e (headSpec wsX4_forged ({ frames := 3, cells := 0, slots := 0, locals := 71 })).room s m ([.ref (ad 0), .int p1, .int p2, .int p3, .int p4, .int p5, .int p6] : List Value).toArray below meth c H locs 0 0 (MQ below (QWi 18 (eM ad) ad D T (CA 18 ad sz)) ([.ref (ad 0), .int p1, .int p2, .int p3, .int p4, .int p5, .int p6] : List Value).toArray s 0 0 (CA 18 ad sz)) (F0 m 137 ls []) := by
          intro n
          induction n with
          | zero => intro _ _ _ _ _ hm; exact absurd hm (Nat.not_lt_zero _)
          | succ n ih137 =>
            intro res137 v9_137 v10_137 S_137 hI137 hm137 hG hex137 H locs w ls hl
            obtain ⟨hok, i137_1, i137_2, i137_3⟩ := id hI137
            have okf0 := hok.1
            have okf1 := hok.2.1
            have okf2 := hok.2.2.1
            have okf3 := hok.2.2.2.1
            have okf4 := hok.2.2.2.2.1
            have okf6 := hok.2.2.2.2.2.1
            have okf7 := hok.2.2.2.2.2.2.1
            have okf8 := hok.2.2.2.2.2.2.2
            rw [lp_X4_forged_137] at hG
            have sl := sh_le (p := p6) (by omega) (by omega)
            refine lv_iload hx hb dX4_forged_137 (lv_at hl 6 rfl) ?_
            refine lv_iconst (v := 1) hx hb dX4_forged_139 (by decide) ?_
            refine lv_iload hx hb dX4_forged_140 (lv_at hl 3 rfl) ?_
            refine lv_ishl hx hb dX4_forged_142 ?_
            refine lv_icmp_ge (tgt := 189) hx hb dX4_forged_143 (by decide) (fun c143 => ?_) (fun c143 => ?_)
            · have t143 : ((1 : Int32) <<< (p6 &&& 31)).toInt ≤ v10_137.toInt := qt_le c143
              rw [if_pos c143] at hG
              exact hex137 v9_137 S_137 hok hG.symm _ _ w ls (lv_sub hl [0, 5] rfl)
            · have t143 : v10_137.toInt < ((1 : Int32) <<< (p6 &&& 31)).toInt := qt_nle c143
              rw [if_neg c143] at hG
              refine lv_iload hx hb dX4_forged_146 (lv_at hl 5 rfl) ?_
              refine lv_if_lt (tgt := 164) hx hb dX4_forged_148 (by decide) (fun c148 => ?_) (fun c148 => ?_)
              · have t148 : v9_137.toInt < 0 := qt_lt c148
                rw [if_pos c148] at hG
                refine lv_aload_n hx hb dX4_forged_164 rfl (lv_at hl 0 rfl) ?_
                refine lv_iload_n hx hb dX4_forged_165 rfl (lv_at hl 1 rfl) ?_
                refine lv_iload_n hx hb dX4_forged_166 rfl (lv_at hl 2 rfl) ?_
                refine lv_iload hx hb dX4_forged_167 (lv_at hl 4 rfl) ?_
                refine lv_iload hx hb dX4_forged_169 (lv_at hl 3 rfl) ?_
                refine lv_iload hx hb dX4_forged_171 (lv_at hl 6 rfl) ?_
                refine callWi w (va_runV (As := [.int p1, .int p2, .int ((90 * p3) + p5), .int p6, .int v10_137]) (rest := []) S (c_X4_forges l ad D H.size S_137 p1 p2 ((90 * p3) + p5) p6 v10_137 (by omega) (by omega) (by omega) (hsm_congr i137_3 x67_0)) (cwV 5 S.2.2.2.2 gX4_forged_X4_forges rfl rfl rfl ⟨rfl, hd_X4_forges⟩ ⟨Nat.le_of_ble_eq_true rfl, Nat.le_of_ble_eq_true rfl⟩) (preV hK hN w (k := 0) (by decide) (eM_0 ad _) (q := (RX4, TX4, 25)) rfl) rfl rfl hl.1 rfl (lv_room (Nat.le_of_ble_eq_true rfl)) dX4_forged_173 ⟨Nat.zero_le _, Nat.zero_le _⟩) (fun H locs w => ?_)
                have hok : OkM ((f_X4_forges S_137 p1 p2 ((90 * p3) + p5) p6 v10_137).2) := ok_X4_forges hok
                have okf0 := hok.1
                have okf1 := hok.2.1
                have okf2 := hok.2.2.1
                have okf3 := hok.2.2.2.1
                have okf4 := hok.2.2.2.2.1
                have okf6 := hok.2.2.2.2.2.1
                have okf7 := hok.2.2.2.2.2.2.1
                have okf8 := hok.2.2.2.2.2.2.2
                refine lv_if_eq (tgt := 183) hx hb dX4_forged_176 (by decide) (fun c176 => ?_) (fun c176 => ?_)
                · have t176 : ((f_X4_forges S_137 p1 p2 ((90 * p3) + p5) p6 v10_137).1).toInt = 0 := qt_eq c176
                  rw [if_pos c176] at hG
                  refine lv_iinc (v := (v10_137 + 1)) (lv' := [(10, .int (v10_137 + 1)), (0, .ref (ad 0)), (1, .int p1), (2, .int p2), (6, .int p6), (8, .int ((90 * p3) + p5)), (9, .int v9_137)]) hx hb dX4_forged_183 hl (k := 6) rfl rfl (by decide) rfl (fun ls hl => ?_)
                  refine lv_goto (tgt := 137) hx hb dX4_forged_186 (by decide) ?_
                  have b10_137 : (v10_137 + 1).toInt = v10_137.toInt + 1 := inc_toInt (by omega) (by omega)
                  exact ih137 _ v9_137 (v10_137 + 1) ((f_X4_forges S_137 p1 p2 ((90 * p3) + p5) p6 v10_137).2) ⟨hok, (by omega), (by omega), (by first | exact i137_3 | (rw [fr_X4_forges (by omega)]; exact i137_3))⟩ (by omega) hG hex137 _ _ w ls (lv_sub hl [1, 2, 3, 4, 5, 6, 0] rfl)
                · have t176 : ((f_X4_forges S_137 p1 p2 ((90 * p3) + p5) p6 v10_137).1).toInt ≠ 0 := qt_ne c176
                  rw [if_neg c176] at hG
                  refine lv_iload hx hb dX4_forged_179 (lv_at hl 6 rfl) ?_
                  refine lv_istore (lv' := [(9, .int v10_137), (0, .ref (ad 0)), (1, .int p1), (2, .int p2), (6, .int p6), (8, .int ((90 * p3) + p5)), (10, .int v10_137)]) hx hb dX4_forged_181 hl (by decide) rfl (fun ls hl => ?_)
                  refine lv_iinc (v := (v10_137 + 1)) (lv' := [(10, .int (v10_137 + 1)), (9, .int v10_137), (0, .ref (ad 0)), (1, .int p1), (2, .int p2), (6, .int p6), (8, .int ((90 * p3) + p5))]) hx hb dX4_forged_183 hl (k := 6) rfl rfl (by decide) rfl (fun ls hl => ?_)
                  refine lv_goto (tgt := 137) hx hb dX4_forged_186 (by decide) ?_
                  have b10_137 : (v10_137 + 1).toInt = v10_137.toInt + 1 := inc_toInt (by omega) (by omega)
                  exact ih137 _ v10_137 (v10_137 + 1) ((f_X4_forges S_137 p1 p2 ((90 * p3) + p5) p6 v10_137).2) ⟨hok, (by omega), (by omega), (by first | exact i137_3 | (rw [fr_X4_forges (by omega)]; exact i137_3))⟩ (by omega) hG hex137 _ _ w ls (lv_sub hl [2, 3, 4, 5, 6, 1, 0] rfl)
              · have t148 : 0 ≤ v9_137.toInt := qt_nlt c148
                rw [if_neg c148] at hG
                refine lv_iload hx hb dX4_forged_151 (lv_at hl 6 rfl) ?_
                refine call0i (va_runS (As := [.int v10_137]) (rest := []) S (c_X4_bits l v10_137 (by omega)) (va_cwS 1 S.2.2.2.2 gX4_forged_X4_bits rfl rfl rfl hd_X4_bits ⟨Nat.le_of_ble_eq_true rfl, Nat.le_of_ble_eq_true rfl⟩) pre0S rfl rfl hl.1 rfl (lv_room (Nat.le_of_ble_eq_true rfl)) dX4_forged_153 ⟨Nat.zero_le _, Nat.zero_le _⟩) ?_
                refine lv_iload hx hb dX4_forged_156 (lv_at hl 5 rfl) ?_
                refine call0i (va_runS (As := [.int v9_137]) (rest := [.int (f_X4_bits v10_137)]) S (c_X4_bits l v9_137 (by omega)) (va_cwS 1 S.2.2.2.2 gX4_forged_X4_bits rfl rfl rfl hd_X4_bits ⟨Nat.le_of_ble_eq_true rfl, Nat.le_of_ble_eq_true rfl⟩) pre0S rfl rfl hl.1 rfl (lv_room (Nat.le_of_ble_eq_true rfl)) dX4_forged_158 ⟨Nat.zero_le _, Nat.zero_le _⟩) ?_
                refine lv_icmp_ge (tgt := 183) hx hb dX4_forged_161 (by decide) (fun c161 => ?_) (fun c161 => ?_)
                · have t161 : (f_X4_bits v9_137).toInt ≤ (f_X4_bits v10_137).toInt := qt_le c161
                  rw [if_pos c161] at hG
                  refine lv_iinc (v := (v10_137 + 1)) (lv' := [(10, .int (v10_137 + 1)), (0, .ref (ad 0)), (1, .int p1), (2, .int p2), (6, .int p6), (8, .int ((90 * p3) + p5)), (9, .int v9_137)]) hx hb dX4_forged_183 hl (k := 6) rfl rfl (by decide) rfl (fun ls hl => ?_)
                  refine lv_goto (tgt := 137) hx hb dX4_forged_186 (by decide) ?_
                  have b10_137 : (v10_137 + 1).toInt = v10_137.toInt + 1 := inc_toInt (by omega) (by omega)
                  exact ih137 _ v9_137 (v10_137 + 1) S_137 ⟨hok, (by omega), (by omega), (by first | exact i137_3 | (rw [fr_X4_forges (by omega)]; exact i137_3))⟩ (by omega) hG hex137 _ _ w ls (lv_sub hl [1, 2, 3, 4, 5, 6, 0] rfl)
                · have t161 : (f_X4_bits v10_137).toInt < (f_X4_bits v9_137).toInt := qt_nle c161
                  rw [if_neg c161] at hG
                  refine lv_aload_n hx hb dX4_forged_164 rfl (lv_at hl 0 rfl) ?_
                  refine lv_iload_n hx hb dX4_forged_165 rfl (lv_at hl 1 rfl) ?_
                  refine lv_iload_n hx hb dX4_forged_166 rfl (lv_at hl 2 rfl) ?_
                  refine lv_iload hx hb dX4_forged_167 (lv_at hl 4 rfl) ?_
                  refine lv_iload hx hb dX4_forged_169 (lv_at hl 3 rfl) ?_
                  refine lv_iload hx hb dX4_forged_171 (lv_at hl 6 rfl) ?_
                  refine callWi w (va_runV (As := [.int p1, .int p2, .int ((90 * p3) + p5), .int p6, .int v10_137]) (rest := []) S (c_X4_forges l ad D H.size S_137 p1 p2 ((90 * p3) + p5) p6 v10_137 (by omega) (by omega) (by omega) (hsm_congr i137_3 x67_0)) (cwV 5 S.2.2.2.2 gX4_forged_X4_forges rfl rfl rfl ⟨rfl, hd_X4_forges⟩ ⟨Nat.le_of_ble_eq_true rfl, Nat.le_of_ble_eq_true rfl⟩) (preV hK hN w (k := 0) (by decide) (eM_0 ad _) (q := (RX4, TX4, 25)) rfl) rfl rfl hl.1 rfl (lv_room (Nat.le_of_ble_eq_true rfl)) dX4_forged_173 ⟨Nat.zero_le _, Nat.zero_le _⟩) (fun H locs w => ?_)
                  have hok : OkM ((f_X4_forges S_137 p1 p2 ((90 * p3) + p5) p6 v10_137).2) := ok_X4_forges hok
                  have okf0 := hok.1
                  have okf1 := hok.2.1
                  have okf2 := hok.2.2.1
                  have okf3 := hok.2.2.2.1
                  have okf4 := hok.2.2.2.2.1
                  have okf6 := hok.2.2.2.2.2.1
                  have okf7 := hok.2.2.2.2.2.2.1
                  have okf8 := hok.2.2.2.2.2.2.2
                  refine lv_if_eq (tgt := 183) hx hb dX4_forged_176 (by decide) (fun c176 => ?_) (fun c176 => ?_)
                  · have t176 : ((f_X4_forges S_137 p1 p2 ((90 * p3) + p5) p6 v10_137).1).toInt = 0 := qt_eq c176
                    rw [if_pos c176] at hG
                    refine lv_iinc (v := (v10_137 + 1)) (lv' := [(10, .int (v10_137 + 1)), (0, .ref (ad 0)), (1, .int p1), (2, .int p2), (6, .int p6), (8, .int ((90 * p3) + p5)), (9, .int v9_137)]) hx hb dX4_forged_183 hl (k := 6) rfl rfl (by decide) rfl (fun ls hl => ?_)
                    refine lv_goto (tgt := 137) hx hb dX4_forged_186 (by decide) ?_
                    have b10_137 : (v10_137 + 1).toInt = v10_137.toInt + 1 := inc_toInt (by omega) (by omega)
                    exact ih137 _ v9_137 (v10_137 + 1) ((f_X4_forges S_137 p1 p2 ((90 * p3) + p5) p6 v10_137).2) ⟨hok, (by omega), (by omega), (by first | exact i137_3 | (rw [fr_X4_forges (by omega)]; exact i137_3))⟩ (by omega) hG hex137 _ _ w ls (lv_sub hl [1, 2, 3, 4, 5, 6, 0] rfl)
                  · have t176 : ((f_X4_forges S_137 p1 p2 ((90 * p3) + p5) p6 v10_137).1).toInt ≠ 0 := qt_ne c176
                    rw [if_neg c176] at hG
                    refine lv_iload hx hb dX4_forged_179 (lv_at hl 6 rfl) ?_
                    refine lv_istore (lv' := [(9, .int v10_137), (0, .ref (ad 0)), (1, .int p1), (2, .int p2), (6, .int p6), (8, .int ((90 * p3) + p5)), (10, .int v10_137)]) hx hb dX4_forged_181 hl (by decide) rfl (fun ls hl => ?_)
                    refine lv_iinc (v := (v10_137 + 1)) (lv' := [(10, .int (v10_137 + 1)), (9, .int v10_137), (0, .ref (ad 0)), (1, .int p1), (2, .int p2), (6, .int p6), (8, .int ((90 * p3) + p5))]) hx hb dX4_forged_183 hl (k := 6) rfl rfl (by decide) rfl (fun ls hl => ?_)
                    refine lv_goto (tgt := 137) hx hb dX4_forged_186 (by decide) ?_
                    have b10_137 : (v10_137 + 1).toInt = v10_137.toInt + 1 := inc_toInt (by omega) (by omega)
                    exact ih137 _ v10_137 (v10_137 + 1) ((f_X4_forges S_137 p1 p2 ((90 * p3) + p5) p6 v10_137).2) ⟨hok, (by omega), (by omega), (by first | exact i137_3 | (rw [fr_X4_forges (by omega)]; exact i137_3))⟩ (by omega) hG hex137 _ _ w ls (lv_sub hl [2, 3, 4, 5, 6, 1, 0] rfl)
        refine L137 1100 _ (-9) 0 ((f_X4_barred σ p3 p4 p5 (2 * p6.toInt64)).2) ⟨hok, (by omega), (by decide), rfl⟩ (by omega) rfl (fun v9_137e S_137e hok hr137 H locs w ls hl => ?_) _ _ w ls (lv_sub hl [2, 3, 4, 5, 6, 1, 0] rfl)
        rw [hr137] at hG
        dsimp only at hG
        have okf0 := hok.1
        have okf1 := hok.2.1
        have okf2 := hok.2.2.1
        have okf3 := hok.2.2.2.1
        have okf4 := hok.2.2.2.2.1
        have okf6 := hok.2.2.2.2.2.1
        have okf7 := hok.2.2.2.2.2.2.1
        have okf8 := hok.2.2.2.2.2.2.2
        refine lv_aload_n hx hb dX4_forged_189 rfl (lv_at hl 0 rfl) ?_
        refine lv_iload hx hb dX4_forged_190 (lv_at hl 1 rfl) ?_
        refine callWi w (va_runV (As := [.int v9_137e]) (rest := []) S (c_X4_refused l ad D H.size S_137e v9_137e) (cwV 1 S.2.2.2.2 gX4_forged_X4_refused rfl rfl rfl ⟨rfl, hd_X4_refused⟩ ⟨Nat.le_of_ble_eq_true rfl, Nat.le_of_ble_eq_true rfl⟩) (preV hK hN w (k := 0) (by decide) (eM_0 ad _) (q := (RX4, TX4, 25)) rfl) rfl rfl hl.1 rfl (lv_room (Nat.le_of_ble_eq_true rfl)) dX4_forged_192 ⟨Nat.zero_le _, Nat.zero_le _⟩) (fun H locs w => ?_)
        exact endWi S hr hlocks w hG dX4_forged_195
      · have t54 : 10 < p6.toInt := qt_nle c54
        rw [if_neg c54] at hG
        refine lv_aload_n hx hb dX4_forged_57 rfl (lv_at hl 2 rfl) ?_
        refine lv_bipush (v := (-2)) hx hb dX4_forged_58 (by decide) ?_
        refine callWi w (va_runV (As := [.int (-2)]) (rest := []) S (c_X4_refused l ad D H.size ((f_X4_barred σ p3 p4 p5 (2 * p6.toInt64)).2) (-2)) (cwV 1 S.2.2.2.2 gX4_forged_X4_refused rfl rfl rfl ⟨rfl, hd_X4_refused⟩ ⟨Nat.le_of_ble_eq_true rfl, Nat.le_of_ble_eq_true rfl⟩) (preV hK hN w (k := 0) (by decide) (eM_0 ad _) (q := (RX4, TX4, 25)) rfl) rfl rfl hl.1 rfl (lv_room (Nat.le_of_ble_eq_true rfl)) dX4_forged_60 ⟨Nat.zero_le _, Nat.zero_le _⟩) (fun H locs w => ?_)
        exact endWi S hr hlocks w hG dX4_forged_63
    · have t35 : ((f_X4_barred σ p3 p4 p5 (2 * p6.toInt64)).1).toInt < 0 := qt_nle c35
      rw [if_neg c35] at hG
      refine lv_iload hx hb dX4_forged_38 (lv_at hl 0 rfl) ?_
      exact endWi S hr hlocks w hG dX4_forged_40
  · rw [if_pos c6] at hG
    refine lv_aload_n hx hb dX4_forged_9 rfl (lv_at hl 0 rfl) ?_
    refine lv_iconst (v := (-1)) hx hb dX4_forged_10 (by decide) ?_
    refine callWi w (va_runV (As := [.int (-1)]) (rest := []) S (c_X4_refused l ad D s.heap.size σ (-1)) (cwV 1 S.2.2.2.2 gX4_forged_X4_refused rfl rfl rfl ⟨rfl, hd_X4_refused⟩ ⟨Nat.le_of_ble_eq_true rfl, Nat.le_of_ble_eq_true rfl⟩) (preV hK hN w (k := 0) (by decide) (eM_0 ad _) (q := (RX4, TX4, 25)) rfl) rfl rfl hl.1 rfl (lv_room (Nat.le_of_ble_eq_true rfl)) dX4_forged_11 ⟨Nat.zero_le _, Nat.zero_le _⟩) (fun H locs w => ?_)
    exact endWi S hr hlocks w hG dX4_forged_14
set_option maxHeartbeats 4000000 in
set_option maxRecDepth 100000 in
theorem c_X4_nearBy (l : Launch) (ad : Nat → Nat) (D : va_G) (sz : Nat) (σ : St) (p1 : Int32) (p2 : Int32) (p3 : Int32) (p4 : Int32) (hx1 : 0 ≤ p1.toInt ∧ p1.toInt < 8) (hx2 : 0 ≤ p2.toInt ∧ p2.toInt < 8) (hsm : 0 ≤ p4.toInt ∧ p4.toInt < 9) : Met l yX4_nearBy wsX4_nearBy ({ frames := 1, cells := 0, slots := 0, locals := 22 }) (PreW 18 (eM ad) ad D (tyM ad) σ sz ([.ref (ad 0), .int p1, .int p2, .int p3, .int p4] : List Value)) (Q0i (f_X4_nearBy σ p1 p2 p3 p4)) 0 0 N0 := by
  generalize hG : f_X4_nearBy σ p1 p2 p3 p4 = T
  refine headW (cc := cX4_nearBy) (maxL := 5) (ret := (some .int)) ([.ref (ad 0), .int p1, .int p2, .int p3, .int p4] : List Value) (by decide) rfl (Nat.le_of_ble_eq_true rfl) ?_
  intro p e s m below meth c S hr hlocks hK hN hsz w ls hl
  have S : CallFix p m c cX4_nearBy 5 s ([.ref (ad 0), .int p1, .int p2, .int p3, .int p4] : List Value).toArray wsX4_nearBy RX4 := S
  have hx := S.1
  have hb := S.2.1
  have z0 : (0 : Int32).toInt = 0 := by decide
  have z1 : (1 : Int32).toInt = 1 := by decide
  have hl : lv_has ls 5 [(0, .ref (ad 0)), (1, .int p1), (2, .int p2), (3, .int p3), (4, .int p4)] := hl
  have hinX4 : ∀ w ∈ wsX40, w ∈ wsX4_nearBy := (fun _ h => List.mem_cons_of_mem _ (List.mem_append_right _ h))
  rw [f_X4_nearBy] at hG
  refine lv_aload_n hx hb dX4_nearBy_0 rfl (lv_at hl 0 rfl) ?_
  refine lv_iload_n hx hb dX4_nearBy_1 rfl (lv_at hl 1 rfl) ?_
  refine lv_iload hx hb dX4_nearBy_2 (lv_at hl 4 rfl) ?_
  refine call0i (va_runV (As := [.int p1, .int p4]) (rest := []) S (c_X4_strong l ad D s.heap.size σ p1 p4 (by omega) (by omega)) (cwV 2 S.2.2.2.2 gX4_nearBy_X4_strong rfl rfl rfl ⟨rfl, hd_X4_strong⟩ ⟨Nat.le_of_ble_eq_true rfl, Nat.le_of_ble_eq_true rfl⟩) (preV hK hN w (k := 0) (by decide) (eM_0 ad _) (q := (RX4, TX4, 25)) rfl) rfl rfl hl.1 rfl (lv_room (Nat.le_of_ble_eq_true rfl)) dX4_nearBy_4 ⟨Nat.zero_le _, Nat.zero_le _⟩) ?_
  refine lv_aload_n hx hb dX4_nearBy_7 rfl (lv_at hl 0 rfl) ?_
  refine lv_iload_n hx hb dX4_nearBy_8 rfl (lv_at hl 2 rfl) ?_
  refine lv_iload hx hb dX4_nearBy_9 (lv_at hl 4 rfl) ?_
  refine call0i (va_runV (As := [.int p2, .int p4]) (rest := [.int (f_X4_strong σ p1 p4)]) S (c_X4_strong l ad D s.heap.size σ p2 p4 (by omega) (by omega)) (cwV 2 S.2.2.2.2 gX4_nearBy_X4_strong rfl rfl rfl ⟨rfl, hd_X4_strong⟩ ⟨Nat.le_of_ble_eq_true rfl, Nat.le_of_ble_eq_true rfl⟩) (preV hK hN w (k := 0) (by decide) (eM_0 ad _) (q := (RX4, TX4, 25)) rfl) rfl rfl hl.1 rfl (lv_room (Nat.le_of_ble_eq_true rfl)) dX4_nearBy_11 ⟨Nat.zero_le _, Nat.zero_le _⟩) ?_
  refine lv_aload_n hx hb dX4_nearBy_14 rfl (lv_at hl 0 rfl) ?_
  refine lv_iload_n hx hb dX4_nearBy_15 rfl (lv_at hl 1 rfl) ?_
  refine lv_iload hx hb dX4_nearBy_16 (lv_at hl 4 rfl) ?_
  refine call0i (va_runV (As := [.int p1, .int p4]) (rest := [.int (f_X4_strong σ p2 p4), .int (f_X4_strong σ p1 p4)]) S (c_X4_strong l ad D s.heap.size σ p1 p4 (by omega) (by omega)) (cwV 2 S.2.2.2.2 gX4_nearBy_X4_strong rfl rfl rfl ⟨rfl, hd_X4_strong⟩ ⟨Nat.le_of_ble_eq_true rfl, Nat.le_of_ble_eq_true rfl⟩) (preV hK hN w (k := 0) (by decide) (eM_0 ad _) (q := (RX4, TX4, 25)) rfl) rfl rfl hl.1 rfl (lv_room (Nat.le_of_ble_eq_true rfl)) dX4_nearBy_18 ⟨Nat.zero_le _, Nat.zero_le _⟩) ?_
  refine lv_isub hx hb dX4_nearBy_21 ?_
  refine lv_iload_n hx hb dX4_nearBy_22 rfl (lv_at hl 3 rfl) ?_
  refine lv_imul hx hb dX4_nearBy_23 ?_
  refine lv_bipush (v := 10) hx hb dX4_nearBy_24 (by decide) ?_
  refine lv_idiv hx hb dX4_nearBy_26 (by decide) ?_
  refine lv_iadd hx hb dX4_nearBy_27 ?_
  exact end0i S hr hlocks hG dX4_nearBy_28
set_option maxHeartbeats 4000000 in
set_option maxRecDepth 100000 in
theorem c_X4_near (l : Launch) (ad : Nat → Nat) (D : va_G) (sz : Nat) (σ : St) (p1 : Int32) (p2 : Int32) (p3 : Int32) (p4 : Int32) (hok : OkM σ) : Met l yX4_near wsX4_near ({ frames := 2, cells := 0, slots := 0, locals := 46 }) (PreW 18 (eM ad) ad D (tyM ad) σ sz ([.ref (ad 0), .int p1, .int p2, .int p3, .int p4] : List Value)) (Q0i (f_X4_near σ p1 p2 p3 p4)) 0 0 N0 := by
  generalize hG : f_X4_near σ p1 p2 p3 p4 = T
  refine headW (cc := cX4_near) (maxL := 5) (ret := (some .int)) ([.ref (ad 0), .int p1, .int p2, .int p3, .int p4] : List Value) (by decide) rfl (Nat.le_of_ble_eq_true rfl) ?_
  intro p e s m below meth c S hr hlocks hK hN hsz w ls hl
  have S : CallFix p m c cX4_near 5 s ([.ref (ad 0), .int p1, .int p2, .int p3, .int p4] : List Value).toArray wsX4_near RX4 := S
  have hx := S.1
  have hb := S.2.1
  have z0 : (0 : Int32).toInt = 0 := by decide
  have z1 : (1 : Int32).toInt = 1 := by decide
  have hl : lv_has ls 5 [(0, .ref (ad 0)), (1, .int p1), (2, .int p2), (3, .int p3), (4, .int p4)] := hl
  have hinX4 : ∀ w ∈ wsX40, w ∈ wsX4_near := (fun _ h => List.mem_cons_of_mem _ (List.mem_append_right _ h))
  have okf0 := hok.1
  have okf1 := hok.2.1
  have okf2 := hok.2.2.1
  have okf3 := hok.2.2.2.1
  have okf4 := hok.2.2.2.2.1
  have okf6 := hok.2.2.2.2.2.1
  have okf7 := hok.2.2.2.2.2.2.1
  have okf8 := hok.2.2.2.2.2.2.2
  rw [f_X4_near] at hG
  refine lv_aload_n hx hb dX4_near_0 rfl (lv_at hl 0 rfl) ?_
  refine lv_iload_n hx hb dX4_near_1 rfl (lv_at hl 1 rfl) ?_
  refine call0i (va_runV (As := [.int p1]) (rest := []) S (c_X4_noSign l ad D s.heap.size σ p1) (cwV 1 S.2.2.2.2 gX4_near_X4_noSign rfl rfl rfl ⟨rfl, hd_X4_noSign⟩ ⟨Nat.le_of_ble_eq_true rfl, Nat.le_of_ble_eq_true rfl⟩) (preV hK hN w (k := 0) (by decide) (eM_0 ad _) (q := (RX4, TX4, 25)) rfl) rfl rfl hl.1 rfl (lv_room (Nat.le_of_ble_eq_true rfl)) dX4_near_2 ⟨Nat.zero_le _, Nat.zero_le _⟩) ?_
  refine lv_if_ne (tgt := 24) hx hb dX4_near_5 (by decide) (fun c5 => ?_) (fun c5 => ?_)
  · rw [if_neg c5] at hG
    refine lv_iconst (v := (-1)) hx hb dX4_near_24 (by decide) ?_
    exact end0i S hr hlocks hG dX4_near_25
  · have t5 := bf_noSign_z c5
    rw [if_pos c5] at hG
    refine lv_aload_n hx hb dX4_near_8 rfl (lv_at hl 0 rfl) ?_
    refine lv_iload_n hx hb dX4_near_9 rfl (lv_at hl 2 rfl) ?_
    refine call0i (va_runV (As := [.int p2]) (rest := []) S (c_X4_noSign l ad D s.heap.size σ p2) (cwV 1 S.2.2.2.2 gX4_near_X4_noSign rfl rfl rfl ⟨rfl, hd_X4_noSign⟩ ⟨Nat.le_of_ble_eq_true rfl, Nat.le_of_ble_eq_true rfl⟩) (preV hK hN w (k := 0) (by decide) (eM_0 ad _) (q := (RX4, TX4, 25)) rfl) rfl rfl hl.1 rfl (lv_room (Nat.le_of_ble_eq_true rfl)) dX4_near_10 ⟨Nat.zero_le _, Nat.zero_le _⟩) ?_
    refine lv_if_ne (tgt := 24) hx hb dX4_near_13 (by decide) (fun c13 => ?_) (fun c13 => ?_)
    · rw [if_neg c13] at hG
      refine lv_iconst (v := (-1)) hx hb dX4_near_24 (by decide) ?_
      exact end0i S hr hlocks hG dX4_near_25
    · have t13 := bf_noSign_z c13
      rw [if_pos c13] at hG
      refine lv_iload hx hb dX4_near_16 (lv_at hl 4 rfl) ?_
      refine call0i (va_runS (As := [.int p4]) (rest := []) S (c_X4_noSmell l p4) (va_cwS 1 S.2.2.2.2 gX4_near_X4_noSmell rfl rfl rfl hd_X4_noSmell ⟨Nat.le_of_ble_eq_true rfl, Nat.le_of_ble_eq_true rfl⟩) pre0S rfl rfl hl.1 rfl (lv_room (Nat.le_of_ble_eq_true rfl)) dX4_near_18 ⟨Nat.zero_le _, Nat.zero_le _⟩) ?_
      refine lv_if_eq (tgt := 26) hx hb dX4_near_21 (by decide) (fun c21 => ?_) (fun c21 => ?_)
      · have t21 := bf_noSmell_z c21
        rw [if_pos c21] at hG
        refine lv_iload_n hx hb dX4_near_26 rfl (lv_at hl 3 rfl) ?_
        refine lv_i2l hx hb dX4_near_27 rfl ?_
        refine lv_lconst (v := 0) hx hb dX4_near_28 (by decide) ?_
        refine lv_ldc2 hx hb S.2.2.2.1 (S.2.2.2.2 _ (List.mem_of_getElem? (i := 1) rfl)) dX4_near_29 ?_
        refine call0i (va_runS (As := [.long p3.toInt64, .long 0, .long 10]) (rest := []) S (c_X4_in l p3.toInt64 0 10) (va_cwS 3 S.2.2.2.2 gX4_near_X4_in rfl rfl rfl hd_X4_in ⟨Nat.le_of_ble_eq_true rfl, Nat.le_of_ble_eq_true rfl⟩) pre0S rfl rfl hl.1 rfl (lv_room (Nat.le_of_ble_eq_true rfl)) dX4_near_32 ⟨Nat.zero_le _, Nat.zero_le _⟩) ?_
        refine lv_if_eq (tgt := 50) hx hb dX4_near_35 (by decide) (fun c35 => ?_) (fun c35 => ?_)
        · rw [if_pos c35] at hG
          refine lv_bipush (v := (-2)) hx hb dX4_near_50 (by decide) ?_
          exact end0i S hr hlocks hG dX4_near_52
        · have t35 := bf_in_n c35
          rw [if_neg c35] at hG
          refine lv_aload_n hx hb dX4_near_38 rfl (lv_at hl 0 rfl) ?_
          refine lv_iload_n hx hb dX4_near_39 rfl (lv_at hl 1 rfl) ?_
          refine lv_iload_n hx hb dX4_near_40 rfl (lv_at hl 2 rfl) ?_
          refine lv_iload_n hx hb dX4_near_41 rfl (lv_at hl 3 rfl) ?_
          refine lv_iload hx hb dX4_near_42 (lv_at hl 4 rfl) ?_
          refine call0i (va_runV (As := [.int p1, .int p2, .int p3, .int p4]) (rest := []) S (c_X4_nearBy l ad D s.heap.size σ p1 p2 p3 p4 (by omega) (by omega) (by omega)) (cwV 4 S.2.2.2.2 gX4_near_X4_nearBy rfl rfl rfl ⟨rfl, hd_X4_nearBy⟩ ⟨Nat.le_of_ble_eq_true rfl, Nat.le_of_ble_eq_true rfl⟩) (preV hK hN w (k := 0) (by decide) (eM_0 ad _) (q := (RX4, TX4, 25)) rfl) rfl rfl hl.1 rfl (lv_room (Nat.le_of_ble_eq_true rfl)) dX4_near_44 ⟨Nat.zero_le _, Nat.zero_le _⟩) ?_
          refine lv_goto (tgt := 52) hx hb dX4_near_47 (by decide) ?_
          exact end0i S hr hlocks hG dX4_near_52
      · rw [if_neg c21] at hG
        refine lv_iconst (v := (-1)) hx hb dX4_near_24 (by decide) ?_
        exact end0i S hr hlocks hG dX4_near_25
set_option maxHeartbeats 4000000 in
set_option maxRecDepth 100000 in
theorem c_X4_steals (l : Launch) (ad : Nat → Nat) (D : va_G) (sz : Nat) (σ : St) (p1 : Int32) (p2 : Int32) (hok : OkM σ) : Met l yX4_steals wsX4_steals ({ frames := 3, cells := 0, slots := 0, locals := 68 }) (PreW 18 (eM ad) ad D (tyM ad) σ sz ([.ref (ad 0), .int p1, .int p2] : List Value)) (QWi 18 (eM ad) ad D (f_X4_steals σ p1 p2) (CA 18 ad sz)) 0 0 (CA 18 ad sz) := by
  generalize hG : f_X4_steals σ p1 p2 = T
  refine headW (cc := cX4_steals) (maxL := 5) (ret := (some .int)) ([.ref (ad 0), .int p1, .int p2] : List Value) (by decide) rfl (Nat.le_of_ble_eq_true rfl) ?_
  intro p e s m below meth c S hr hlocks hK hN hsz w ls hl
  have S : CallFix p m c cX4_steals 5 s ([.ref (ad 0), .int p1, .int p2] : List Value).toArray wsX4_steals RX4 := S
  have hx := S.1
  have hb := S.2.1
  have z0 : (0 : Int32).toInt = 0 := by decide
  have z1 : (1 : Int32).toInt = 1 := by decide
  have hl : lv_has ls 5 [(0, .ref (ad 0)), (1, .int p1), (2, .int p2)] := hl
  have hinX4 : ∀ w ∈ wsX40, w ∈ wsX4_steals := (fun _ h => List.mem_cons_of_mem _ (List.mem_append_right _ h))
  have okf0 := hok.1
  have okf1 := hok.2.1
  have okf2 := hok.2.2.1
  have okf3 := hok.2.2.2.1
  have okf4 := hok.2.2.2.2.1
  have okf6 := hok.2.2.2.2.2.1
  have okf7 := hok.2.2.2.2.2.2.1
  have okf8 := hok.2.2.2.2.2.2.2
  rw [f_X4_steals] at hG
  refine lv_aload_n hx hb dX4_steals_0 rfl (lv_at hl 0 rfl) ?_
  refine lv_iload_n hx hb dX4_steals_1 rfl (lv_at hl 1 rfl) ?_
  refine lv_iload_n hx hb dX4_steals_2 rfl (lv_at hl 2 rfl) ?_
  refine call0i (va_runV (As := [.int p1, .int p2]) (rest := []) S (c_X4_areTwo l ad D s.heap.size σ p1 p2) (cwV 2 S.2.2.2.2 gX4_steals_X4_areTwo rfl rfl rfl ⟨rfl, hd_X4_areTwo⟩ ⟨Nat.le_of_ble_eq_true rfl, Nat.le_of_ble_eq_true rfl⟩) (preV hK hN w (k := 0) (by decide) (eM_0 ad _) (q := (RX4, TX4, 25)) rfl) rfl rfl hl.1 rfl (lv_room (Nat.le_of_ble_eq_true rfl)) dX4_steals_3 ⟨Nat.zero_le _, Nat.zero_le _⟩) ?_
  refine lv_if_ne (tgt := 11) hx hb dX4_steals_6 (by decide) (fun c6 => ?_) (fun c6 => ?_)
  · have t6 := bf_areTwo_n c6
    rw [if_neg c6] at hG
    refine lv_iconst (v := 0) hx hb dX4_steals_11 (by decide) ?_
    refine lv_istore_n (lv' := [(3, .int 0), (0, .ref (ad 0)), (1, .int p1), (2, .int p2)]) hx hb dX4_steals_12 rfl hl (by decide) rfl (fun ls hl => ?_)
    have L13 : ∀ (n : Nat) (res13 : (Int32 × St) ⊕ (St)), ∀ (v3_13 : Int32), ∀ (S_13 : St), ((OkM S_13) ∧ (0 ≤ v3_13.toInt ∧ v3_13.toInt ≤ 11)) → (11 - v3_13.toInt).toNat < n → (lp_X4_steals_13 p1 p2 n v3_13 S_13) = res13 → (∀ r : Int32 × St, res13 = Sum.inl r → r = T) → (∀ (S_13e : St), (OkM S_13e) → res13 = Sum.inr S_13e → ∀ (H : Heap) (locs : List Loc), CW 18 (eM ad) ad D (CA 18 ad sz) s.heap S_13e H locs → ∀ ls : Array Slot, lv_has ls 5 [(0, .ref (ad 0))] → W p l e (headSpec wsX4_steals ({ frames := 3, cells := 0, slots := 0, locals := 68 })).room s m ([.ref (ad 0), .int p1, .int p2] : List Value).toArray below meth c H locs 0 0 (MQ below (QWi 18 (eM ad) ad D T (CA 18 ad sz)) ([.ref (ad 0), .int p1, .int p2] : List Value).toArray s 0 0 (CA 18 ad sz)) (F0 m 67 ls [])) → ∀ (H : Heap) (locs : List Loc), CW 18 (eM ad) ad D (CA 18 ad sz) s.heap S_13 H locs → ∀ ls : Array Slot, lv_has ls 5 [(0, .ref (ad 0)), (1, .int p1), (2, .int p2), (3, .int v3_13)] → W p l e (headSpec wsX4_steals ({ frames := 3, cells := 0, slots := 0, locals := 68 })).room s m ([.ref (ad 0), .int p1, .int p2] : List Value).toArray below meth c H locs 0 0 (MQ below (QWi 18 (eM ad) ad D T (CA 18 ad sz)) ([.ref (ad 0), .int p1, .int p2] : List Value).toArray s 0 0 (CA 18 ad sz)) (F0 m 13 ls []) := by
      intro n
      induction n with
      | zero => intro _ _ _ _ hm; exact absurd hm (Nat.not_lt_zero _)
      | succ n ih13 =>
        intro res13 v3_13 S_13 hI13 hm13 hG hret13 hex13 H locs w ls hl
        obtain ⟨hok, i13_1⟩ := id hI13
        have okf0 := hok.1
        have okf1 := hok.2.1
        have okf2 := hok.2.2.1
        have okf3 := hok.2.2.2.1
        have okf4 := hok.2.2.2.2.1
        have okf6 := hok.2.2.2.2.2.1
        have okf7 := hok.2.2.2.2.2.2.1
        have okf8 := hok.2.2.2.2.2.2.2
        rw [lp_X4_steals_13] at hG
        refine lv_iload_n hx hb dX4_steals_13 rfl (lv_at hl 3 rfl) ?_
        refine lv_bipush (v := 10) hx hb dX4_steals_14 (by decide) ?_
        refine lv_icmp_gt (tgt := 67) hx hb dX4_steals_16 (by decide) (fun c16 => ?_) (fun c16 => ?_)
        · have t16 : 10 < v3_13.toInt := qt_lt c16
          rw [if_pos c16] at hG
          exact hex13 S_13 hok hG.symm _ _ w ls (lv_sub hl [0] rfl)
        · have t16 : v3_13.toInt ≤ 10 := qt_nlt c16
          rw [if_neg c16] at hG
          refine lv_iconst (v := 0) hx hb dX4_steals_19 (by decide) ?_
          refine lv_istore (lv' := [(4, .int 0), (0, .ref (ad 0)), (1, .int p1), (2, .int p2), (3, .int v3_13)]) hx hb dX4_steals_20 hl (by decide) rfl (fun ls hl => ?_)
          have L22 : ∀ (n : Nat) (res22 : St), ∀ (v4_22 : Int32), ∀ (S_22 : St), ((OkM S_22) ∧ (0 ≤ v4_22.toInt ∧ v4_22.toInt ≤ 9)) → (9 - v4_22.toInt).toNat < n → (lp_X4_steals_22 p1 p2 v3_13 n v4_22 S_22) = res22 → (∀ (S_22e : St), (OkM S_22e) → res22 = S_22e → ∀ (H : Heap) (locs : List Loc), CW 18 (eM ad) ad D (CA 18 ad sz) s.heap S_22e H locs → ∀ ls : Array Slot, lv_has ls 5 [(0, .ref (ad 0)), (1, .int p1), (2, .int p2), (3, .int v3_13)] → W p l e (headSpec wsX4_steals ({ frames := 3, cells := 0, slots := 0, locals := 68 })).room s m ([.ref (ad 0), .int p1, .int p2] : List Value).toArray below meth c H locs 0 0 (MQ below (QWi 18 (eM ad) ad D T (CA 18 ad sz)) ([.ref (ad 0), .int p1, .int p2] : List Value).toArray s 0 0 (CA 18 ad sz)) (F0 m 51 ls [])) → ∀ (H : Heap) (locs : List Loc), CW 18 (eM ad) ad D (CA 18 ad sz) s.heap S_22 H locs → ∀ ls : Array Slot, lv_has ls 5 [(0, .ref (ad 0)), (1, .int p1), (2, .int p2), (3, .int v3_13), (4, .int v4_22)] → W p l e (headSpec wsX4_steals ({ frames := 3, cells := 0, slots := 0, locals := 68 })).room s m ([.ref (ad 0), .int p1, .int p2] : List Value).toArray below meth c H locs 0 0 (MQ below (QWi 18 (eM ad) ad D T (CA 18 ad sz)) ([.ref (ad 0), .int p1, .int p2] : List Value).toArray s 0 0 (CA 18 ad sz)) (F0 m 22 ls []) := by
            intro n
            induction n with
            | zero => intro _ _ _ _ hm; exact absurd hm (Nat.not_lt_zero _)
            | succ n ih22 =>
              intro res22 v4_22 S_22 hI22 hm22 hG hex22 H locs w ls hl
              obtain ⟨hok, i22_1⟩ := id hI22
              have okf0 := hok.1
              have okf1 := hok.2.1
              have okf2 := hok.2.2.1
              have okf3 := hok.2.2.2.1
              have okf4 := hok.2.2.2.2.1
              have okf6 := hok.2.2.2.2.2.1
              have okf7 := hok.2.2.2.2.2.2.1
              have okf8 := hok.2.2.2.2.2.2.2
              rw [lp_X4_steals_22] at hG
              refine lv_iload hx hb dX4_steals_22 (lv_at hl 4 rfl) ?_
              refine lv_bipush (v := 9) hx hb dX4_steals_24 (by decide) ?_
              refine lv_icmp_ge (tgt := 51) hx hb dX4_steals_26 (by decide) (fun c26 => ?_) (fun c26 => ?_)
              · have t26 : 9 ≤ v4_22.toInt := qt_le c26
                rw [if_pos c26] at hG
                exact hex22 S_22 hok hG.symm _ _ w ls (lv_sub hl [0, 1, 2, 3] rfl)
              · have t26 : v4_22.toInt < 9 := qt_nle c26
                rw [if_neg c26] at hG
                refine lv_aload_n hx hb dX4_steals_29 rfl (lv_at hl 0 rfl) ?_
                refine r_get (C := RX4) (T := TX4) (N := 25) S hK w (k := 0) (by decide) (eM_0 ad _) rfl hinX4 18 (by decide) (List.mem_of_getElem? (i := 1) rfl) rfl dX4_steals_30 ?_
                refine lv_iload hx hb dX4_steals_33 (lv_at hl 4 rfl) ?_
                refine lv_aload_n hx hb dX4_steals_35 rfl (lv_at hl 0 rfl) ?_
                refine lv_iload_n hx hb dX4_steals_36 rfl (lv_at hl 1 rfl) ?_
                refine lv_iload_n hx hb dX4_steals_37 rfl (lv_at hl 2 rfl) ?_
                refine lv_iload_n hx hb dX4_steals_38 rfl (lv_at hl 3 rfl) ?_
                refine lv_iload hx hb dX4_steals_39 (lv_at hl 4 rfl) ?_
                refine call0i (va_runV (As := [.int p1, .int p2, .int v3_13, .int v4_22]) (rest := [.int v4_22, .ref (ad 12)]) S (c_X4_nearBy l ad D H.size S_22 p1 p2 v3_13 v4_22 (by omega) (by omega) (by omega)) (cwV 4 S.2.2.2.2 gX4_steals_X4_nearBy rfl rfl rfl ⟨rfl, hd_X4_nearBy⟩ ⟨Nat.le_of_ble_eq_true rfl, Nat.le_of_ble_eq_true rfl⟩) (preV hK hN w (k := 0) (by decide) (eM_0 ad _) (q := (RX4, TX4, 25)) rfl) rfl rfl hl.1 rfl (lv_room (Nat.le_of_ble_eq_true rfl)) dX4_steals_41 ⟨Nat.zero_le _, Nat.zero_le _⟩) ?_
                have g44 : vp_in v4_22 9 := vpi (by omega) (by omega)
                refine r_iast (cA := ad 100) (N := 9) S hK w (k := 12) (by decide) (fun f => rfl) rfl g44 dX4_steals_44 (fun H locs w => ?_)
                have hok : OkM (u2 S_22 12 (ix v4_22) (f_X4_nearBy S_22 p1 p2 v3_13 v4_22)) := okM_scr (show scrM 12 by unfold scrM; omega) hok
                have okf0 := hok.1
                have okf1 := hok.2.1
                have okf2 := hok.2.2.1
                have okf3 := hok.2.2.2.1
                have okf4 := hok.2.2.2.2.1
                have okf6 := hok.2.2.2.2.2.1
                have okf7 := hok.2.2.2.2.2.2.1
                have okf8 := hok.2.2.2.2.2.2.2
                refine lv_iinc (v := (v4_22 + 1)) (lv' := [(4, .int (v4_22 + 1)), (0, .ref (ad 0)), (1, .int p1), (2, .int p2), (3, .int v3_13)]) hx hb dX4_steals_45 hl (k := 4) rfl rfl (by decide) rfl (fun ls hl => ?_)
                refine lv_goto (tgt := 22) hx hb dX4_steals_48 (by decide) ?_
                have b4_22 : (v4_22 + 1).toInt = v4_22.toInt + 1 := inc_toInt (by omega) (by omega)
                exact ih22 _ (v4_22 + 1) (u2 S_22 12 (ix v4_22) (f_X4_nearBy S_22 p1 p2 v3_13 v4_22)) ⟨hok, (by omega)⟩ (by omega) hG hex22 _ _ w ls (lv_sub hl [1, 2, 3, 4, 0] rfl)
          refine L22 200 _ 0 S_13 ⟨hok, (by omega)⟩ (by omega) rfl (fun S_22e hok hr22 H locs w ls hl => ?_) _ _ w ls (lv_sub hl [1, 2, 3, 4, 0] rfl)
          rw [hr22] at hG
          have okf0 := hok.1
          have okf1 := hok.2.1
          have okf2 := hok.2.2.1
          have okf3 := hok.2.2.2.1
          have okf4 := hok.2.2.2.2.1
          have okf6 := hok.2.2.2.2.2.1
          have okf7 := hok.2.2.2.2.2.2.1
          have okf8 := hok.2.2.2.2.2.2.2
          refine lv_aload_n hx hb dX4_steals_51 rfl (lv_at hl 0 rfl) ?_
          refine lv_iload_n hx hb dX4_steals_52 rfl (lv_at hl 2 rfl) ?_
          refine call0i (va_runV (As := [.int p2]) (rest := []) S (c_X4_isTaken l ad D H.size S_22e p2 (by omega)) (cwV 1 S.2.2.2.2 gX4_steals_X4_isTaken rfl rfl rfl ⟨rfl, hd_X4_isTaken⟩ ⟨Nat.le_of_ble_eq_true rfl, Nat.le_of_ble_eq_true rfl⟩) (preV hK hN w (k := 0) (by decide) (eM_0 ad _) (q := (RX4, TX4, 25)) rfl) rfl rfl hl.1 rfl (lv_room (Nat.le_of_ble_eq_true rfl)) dX4_steals_53 ⟨Nat.zero_le _, Nat.zero_le _⟩) ?_
          refine lv_if_eq (tgt := 61) hx hb dX4_steals_56 (by decide) (fun c56 => ?_) (fun c56 => ?_)
          · rw [if_pos c56] at hG
            refine lv_iinc (v := (v3_13 + 1)) (lv' := [(3, .int (v3_13 + 1)), (0, .ref (ad 0)), (1, .int p1), (2, .int p2)]) hx hb dX4_steals_61 hl (k := 3) rfl rfl (by decide) rfl (fun ls hl => ?_)
            refine lv_goto (tgt := 13) hx hb dX4_steals_64 (by decide) ?_
            have b3_13 : (v3_13 + 1).toInt = v3_13.toInt + 1 := inc_toInt (by omega) (by omega)
            exact ih13 _ (v3_13 + 1) S_22e ⟨hok, (by omega)⟩ (by omega) hG hret13 hex13 _ _ w ls (lv_sub hl [1, 2, 3, 0] rfl)
          · rw [if_neg c56] at hG
            refine lv_iload_n hx hb dX4_steals_59 rfl (lv_at hl 3 rfl) ?_
            exact endWi S hr hlocks w (hret13 _ hG.symm) dX4_steals_60
    refine L13 200 _ 0 σ ⟨hok, (by omega)⟩ (by omega) rfl (fun r hr13 => by rw [hr13] at hG; exact hG) (fun S_13e hok hr13 H locs w ls hl => ?_) _ _ w ls (lv_sub hl [1, 2, 3, 0] rfl)
    rw [hr13] at hG
    dsimp only at hG
    have okf0 := hok.1
    have okf1 := hok.2.1
    have okf2 := hok.2.2.1
    have okf3 := hok.2.2.2.1
    have okf4 := hok.2.2.2.2.1
    have okf6 := hok.2.2.2.2.2.1
    have okf7 := hok.2.2.2.2.2.2.1
    have okf8 := hok.2.2.2.2.2.2.2
    refine lv_bipush (v := (-9)) hx hb dX4_steals_67 (by decide) ?_
    exact endWi S hr hlocks w hG dX4_steals_69
  · rw [if_pos c6] at hG
    refine lv_iconst (v := (-1)) hx hb dX4_steals_9 (by decide) ?_
    exact endWi S hr hlocks w hG dX4_steals_10
set_option maxHeartbeats 4000000 in
set_option maxRecDepth 100000 in
theorem c_X4_leastFar (l : Launch) (ad : Nat → Nat) (D : va_G) (sz : Nat) (σ : St) (p1 : Int32) (p2 : Int32) (p3 : Int32) (p4 : Int32) (hok : OkM σ) : Met l yX4_leastFar wsX4_leastFar ({ frames := 1, cells := 0, slots := 0, locals := 22 }) (PreW 18 (eM ad) ad D (tyM ad) σ sz ([.ref (ad 0), .int p1, .int p2, .int p3, .int p4] : List Value)) (Q0i (f_X4_leastFar σ p1 p2 p3 p4)) 0 0 N0 := by
  generalize hG : f_X4_leastFar σ p1 p2 p3 p4 = T
  refine headW (cc := cX4_leastFar) (maxL := 9) (ret := (some .int)) ([.ref (ad 0), .int p1, .int p2, .int p3, .int p4] : List Value) (by decide) rfl (Nat.le_of_ble_eq_true rfl) ?_
  intro p e s m below meth c S hr hlocks hK hN hsz w ls hl
  have S : CallFix p m c cX4_leastFar 9 s ([.ref (ad 0), .int p1, .int p2, .int p3, .int p4] : List Value).toArray wsX4_leastFar RX4 := S
  have hx := S.1
  have hb := S.2.1
  have z0 : (0 : Int32).toInt = 0 := by decide
  have z1 : (1 : Int32).toInt = 1 := by decide
  have hl : lv_has ls 9 [(0, .ref (ad 0)), (1, .int p1), (2, .int p2), (3, .int p3), (4, .int p4)] := hl
  have hinX4 : ∀ w ∈ wsX40, w ∈ wsX4_leastFar := (fun _ h => List.mem_cons_of_mem _ (List.mem_append_right _ h))
  have okf0 := hok.1
  have okf1 := hok.2.1
  have okf2 := hok.2.2.1
  have okf3 := hok.2.2.2.1
  have okf4 := hok.2.2.2.2.1
  have okf6 := hok.2.2.2.2.2.1
  have okf7 := hok.2.2.2.2.2.2.1
  have okf8 := hok.2.2.2.2.2.2.2
  rw [f_X4_leastFar] at hG
  refine lv_bipush (v := (-9)) hx hb dX4_leastFar_0 (by decide) ?_
  refine lv_istore (lv' := [(5, .int (-9)), (0, .ref (ad 0)), (1, .int p1), (2, .int p2), (3, .int p3), (4, .int p4)]) hx hb dX4_leastFar_2 hl (by decide) rfl (fun ls hl => ?_)
  refine lv_iconst (v := 0) hx hb dX4_leastFar_4 (by decide) ?_
  refine lv_istore (lv' := [(6, .int 0), (5, .int (-9)), (0, .ref (ad 0)), (1, .int p1), (2, .int p2), (3, .int p3), (4, .int p4)]) hx hb dX4_leastFar_5 hl (by decide) rfl (fun ls hl => ?_)
  have L7 : ∀ (n : Nat) (res7 : Int32), ∀ (v5_7 : Int32), ∀ (v6_7 : Int32), ((0 ≤ v6_7.toInt ∧ v6_7.toInt ≤ 8)) → (8 - v6_7.toInt).toNat < n → (lp_X4_leastFar_7 σ p1 p2 p3 p4 n v5_7 v6_7) = res7 → (∀ (v5_7e : Int32), res7 = v5_7e → ∀ ls : Array Slot, lv_has ls 9 [(0, .ref (ad 0)), (5, .int v5_7e)] → W p l e (headSpec wsX4_leastFar ({ frames := 1, cells := 0, slots := 0, locals := 22 })).room s m ([.ref (ad 0), .int p1, .int p2, .int p3, .int p4] : List Value).toArray below meth c s.heap [] 0 0 (MQ below (Q0i T) ([.ref (ad 0), .int p1, .int p2, .int p3, .int p4] : List Value).toArray s 0 0 N0) (F0 m 100 ls [])) → ∀ ls : Array Slot, lv_has ls 9 [(0, .ref (ad 0)), (1, .int p1), (2, .int p2), (3, .int p3), (4, .int p4), (5, .int v5_7), (6, .int v6_7)] → W p l e (headSpec wsX4_leastFar ({ frames := 1, cells := 0, slots := 0, locals := 22 })).room s m ([.ref (ad 0), .int p1, .int p2, .int p3, .int p4] : List Value).toArray below meth c s.heap [] 0 0 (MQ below (Q0i T) ([.ref (ad 0), .int p1, .int p2, .int p3, .int p4] : List Value).toArray s 0 0 N0) (F0 m 7 ls []) := by
    intro n
    induction n with
    | zero => intro _ _ _ _ hm; exact absurd hm (Nat.not_lt_zero _)
    | succ n ih7 =>
      intro res7 v5_7 v6_7 hI7 hm7 hG hex7 ls hl
      have i7_0 := hI7
      rw [lp_X4_leastFar_7] at hG
      refine lv_iload hx hb dX4_leastFar_7 (lv_at hl 6 rfl) ?_
      refine lv_aload_n hx hb dX4_leastFar_9 rfl (lv_at hl 0 rfl) ?_
      refine r_get (C := RX4) (T := TX4) (N := 25) S hK w (k := 0) (by decide) (eM_0 ad _) rfl hinX4 1 (by decide) (List.mem_of_getElem? (i := 1) rfl) rfl dX4_leastFar_10 ?_
      refine lv_icmp_ge (tgt := 100) hx hb dX4_leastFar_13 (by decide) (fun c13 => ?_) (fun c13 => ?_)
      · have t13 : (σ 0 1).toInt ≤ v6_7.toInt := qt_le c13
        rw [if_pos c13] at hG
        exact hex7 v5_7 hG.symm ls (lv_sub hl [0, 5] rfl)
      · have t13 : v6_7.toInt < (σ 0 1).toInt := qt_nle c13
        rw [if_neg c13] at hG
        refine lv_iconst (v := 0) hx hb dX4_leastFar_16 (by decide) ?_
        refine lv_istore (lv' := [(7, .int 0), (0, .ref (ad 0)), (1, .int p1), (2, .int p2), (3, .int p3), (4, .int p4), (5, .int v5_7), (6, .int v6_7)]) hx hb dX4_leastFar_17 hl (by decide) rfl (fun ls hl => ?_)
        refine lv_iconst (v := 0) hx hb dX4_leastFar_19 (by decide) ?_
        refine lv_istore (lv' := [(8, .int 0), (7, .int 0), (0, .ref (ad 0)), (1, .int p1), (2, .int p2), (3, .int p3), (4, .int p4), (5, .int v5_7), (6, .int v6_7)]) hx hb dX4_leastFar_20 hl (by decide) rfl (fun ls hl => ?_)
        have L22 : ∀ (n : Nat) (res22 : Int32), ∀ (v7_22 : Int32), ∀ (v8_22 : Int32), ((0 ≤ v8_22.toInt ∧ v8_22.toInt ≤ 9)) → (9 - v8_22.toInt).toNat < n → (lp_X4_leastFar_22 σ p1 p2 p3 p4 v5_7 v6_7 n v7_22 v8_22) = res22 → (∀ (v7_22e : Int32), res22 = v7_22e → ∀ ls : Array Slot, lv_has ls 9 [(0, .ref (ad 0)), (1, .int p1), (2, .int p2), (3, .int p3), (4, .int p4), (5, .int v5_7), (6, .int v6_7), (7, .int v7_22e)] → W p l e (headSpec wsX4_leastFar ({ frames := 1, cells := 0, slots := 0, locals := 22 })).room s m ([.ref (ad 0), .int p1, .int p2, .int p3, .int p4] : List Value).toArray below meth c s.heap [] 0 0 (MQ below (Q0i T) ([.ref (ad 0), .int p1, .int p2, .int p3, .int p4] : List Value).toArray s 0 0 N0) (F0 m 73 ls [])) → ∀ ls : Array Slot, lv_has ls 9 [(0, .ref (ad 0)), (1, .int p1), (2, .int p2), (3, .int p3), (4, .int p4), (5, .int v5_7), (6, .int v6_7), (7, .int v7_22), (8, .int v8_22)] → W p l e (headSpec wsX4_leastFar ({ frames := 1, cells := 0, slots := 0, locals := 22 })).room s m ([.ref (ad 0), .int p1, .int p2, .int p3, .int p4] : List Value).toArray below meth c s.heap [] 0 0 (MQ below (Q0i T) ([.ref (ad 0), .int p1, .int p2, .int p3, .int p4] : List Value).toArray s 0 0 N0) (F0 m 22 ls []) := by
          intro n
          induction n with
          | zero => intro _ _ _ _ hm; exact absurd hm (Nat.not_lt_zero _)
          | succ n ih22 =>
            intro res22 v7_22 v8_22 hI22 hm22 hG hex22 ls hl
            have i22_0 := hI22
            rw [lp_X4_leastFar_22] at hG
            refine lv_iload hx hb dX4_leastFar_22 (lv_at hl 8 rfl) ?_
            refine lv_bipush (v := 9) hx hb dX4_leastFar_24 (by decide) ?_
            refine lv_icmp_ge (tgt := 73) hx hb dX4_leastFar_26 (by decide) (fun c26 => ?_) (fun c26 => ?_)
            · have t26 : 9 ≤ v8_22.toInt := qt_le c26
              rw [if_pos c26] at hG
              exact hex22 v7_22 hG.symm ls (lv_sub hl [0, 1, 2, 3, 4, 5, 6, 7] rfl)
            · have t26 : v8_22.toInt < 9 := qt_nle c26
              rw [if_neg c26] at hG
              refine lv_iload hx hb dX4_leastFar_29 (lv_at hl 7 rfl) ?_
              refine lv_aload_n hx hb dX4_leastFar_31 rfl (lv_at hl 0 rfl) ?_
              refine lv_iload hx hb dX4_leastFar_32 (lv_at hl 6 rfl) ?_
              refine lv_iload hx hb dX4_leastFar_34 (lv_at hl 8 rfl) ?_
              refine call0i (va_runV (As := [.int v6_7, .int v8_22]) (rest := [.int v7_22]) S (c_X4_strong l ad D s.heap.size σ v6_7 v8_22 (by omega) (by omega)) (cwV 2 S.2.2.2.2 gX4_leastFar_X4_strong rfl rfl rfl ⟨rfl, hd_X4_strong⟩ ⟨Nat.le_of_ble_eq_true rfl, Nat.le_of_ble_eq_true rfl⟩) (preV hK hN w (k := 0) (by decide) (eM_0 ad _) (q := (RX4, TX4, 25)) rfl) rfl rfl hl.1 rfl (lv_room (Nat.le_of_ble_eq_true rfl)) dX4_leastFar_36 ⟨Nat.zero_le _, Nat.zero_le _⟩) ?_
              refine lv_iload hx hb dX4_leastFar_39 (lv_at hl 8 rfl) ?_
              refine lv_iload_n hx hb dX4_leastFar_41 rfl (lv_at hl 1 rfl) ?_
              have J42_61 : ∀ (k2_42_61 : Int32), (lp_X4_leastFar_22 σ p1 p2 p3 p4 v5_7 v6_7 n (v7_22 + (f_X4_off (f_X4_strong σ v6_7 v8_22) k2_42_61)) (v8_22 + 1)) = res22 → ∀ ls : Array Slot, lv_has ls 9 [(0, .ref (ad 0)), (1, .int p1), (2, .int p2), (3, .int p3), (4, .int p4), (5, .int v5_7), (6, .int v6_7), (8, .int v8_22)] → W p l e (headSpec wsX4_leastFar ({ frames := 1, cells := 0, slots := 0, locals := 22 })).room s m ([.ref (ad 0), .int p1, .int p2, .int p3, .int p4] : List Value).toArray below meth c s.heap [] 0 0 (MQ below (Q0i T) ([.ref (ad 0), .int p1, .int p2, .int p3, .int p4] : List Value).toArray s 0 0 N0) (F0 m 61 ls [.int k2_42_61, .int (f_X4_strong σ v6_7 v8_22), .int v7_22]) := by
                intro k2_42_61 hG ls hl
                refine call0i (va_runS (As := [.int (f_X4_strong σ v6_7 v8_22), .int k2_42_61]) (rest := [.int v7_22]) S (c_X4_off l (f_X4_strong σ v6_7 v8_22) k2_42_61) (va_cwS 2 S.2.2.2.2 gX4_leastFar_X4_off rfl rfl rfl hd_X4_off ⟨Nat.le_of_ble_eq_true rfl, Nat.le_of_ble_eq_true rfl⟩) pre0S rfl rfl hl.1 rfl (lv_room (Nat.le_of_ble_eq_true rfl)) dX4_leastFar_61 ⟨Nat.zero_le _, Nat.zero_le _⟩) ?_
                refine lv_iadd hx hb dX4_leastFar_64 ?_
                refine lv_istore (lv' := [(7, .int (v7_22 + (f_X4_off (f_X4_strong σ v6_7 v8_22) k2_42_61))), (0, .ref (ad 0)), (1, .int p1), (2, .int p2), (3, .int p3), (4, .int p4), (5, .int v5_7), (6, .int v6_7), (8, .int v8_22)]) hx hb dX4_leastFar_65 hl (by decide) rfl (fun ls hl => ?_)
                refine lv_iinc (v := (v8_22 + 1)) (lv' := [(8, .int (v8_22 + 1)), (7, .int (v7_22 + (f_X4_off (f_X4_strong σ v6_7 v8_22) k2_42_61))), (0, .ref (ad 0)), (1, .int p1), (2, .int p2), (3, .int p3), (4, .int p4), (5, .int v5_7), (6, .int v6_7)]) hx hb dX4_leastFar_67 hl (k := 8) rfl rfl (by decide) rfl (fun ls hl => ?_)
                refine lv_goto (tgt := 22) hx hb dX4_leastFar_70 (by decide) ?_
                have b8_22 : (v8_22 + 1).toInt = v8_22.toInt + 1 := inc_toInt (by omega) (by omega)
                exact ih22 _ (v7_22 + (f_X4_off (f_X4_strong σ v6_7 v8_22) k2_42_61)) (v8_22 + 1) (by omega) (by omega) hG hex22 ls (lv_sub hl [2, 3, 4, 5, 6, 7, 8, 1, 0] rfl)
              refine lv_icmp_ne (tgt := 49) hx hb dX4_leastFar_42 (by decide) (fun c42 => ?_) (fun c42 => ?_)
              · have t42 : v8_22.toInt ≠ p1.toInt := qt_ne c42
                simp only [if_neg c42] at hG
                refine lv_iload hx hb dX4_leastFar_49 (lv_at hl 8 rfl) ?_
                refine lv_iload_n hx hb dX4_leastFar_51 rfl (lv_at hl 2 rfl) ?_
                refine lv_icmp_ne (tgt := 60) hx hb dX4_leastFar_52 (by decide) (fun c52 => ?_) (fun c52 => ?_)
                · have t52 : v8_22.toInt ≠ p2.toInt := qt_ne c52
                  simp only [if_neg c52] at hG
                  refine lv_iconst (v := 0) hx hb dX4_leastFar_60 (by decide) ?_
                  exact J42_61 0 hG ls (lv_sub hl [0, 1, 2, 3, 4, 5, 6, 8] rfl)
                · have t52 : v8_22.toInt = p2.toInt := qt_eq c52
                  simp only [if_pos c52] at hG
                  refine lv_iload hx hb dX4_leastFar_55 (lv_at hl 4 rfl) ?_
                  refine lv_goto (tgt := 61) hx hb dX4_leastFar_57 (by decide) ?_
                  exact J42_61 p4 hG ls (lv_sub hl [0, 1, 2, 3, 4, 5, 6, 8] rfl)
              · have t42 : v8_22.toInt = p1.toInt := qt_eq c42
                simp only [if_pos c42] at hG
                refine lv_iload_n hx hb dX4_leastFar_45 rfl (lv_at hl 3 rfl) ?_
                refine lv_goto (tgt := 61) hx hb dX4_leastFar_46 (by decide) ?_
                exact J42_61 p3 hG ls (lv_sub hl [0, 1, 2, 3, 4, 5, 6, 8] rfl)
        refine L22 200 _ 0 0 (by omega) (by omega) rfl (fun v7_22e hr22 ls hl => ?_) ls (lv_sub hl [2, 3, 4, 5, 6, 7, 8, 1, 0] rfl)
        rw [hr22] at hG
        refine lv_iload hx hb dX4_leastFar_73 (lv_at hl 5 rfl) ?_
        refine lv_if_lt (tgt := 85) hx hb dX4_leastFar_75 (by decide) (fun c75 => ?_) (fun c75 => ?_)
        · have t75 : v5_7.toInt < 0 := qt_lt c75
          rw [if_pos c75] at hG
          refine lv_iload hx hb dX4_leastFar_85 (lv_at hl 7 rfl) ?_
          refine lv_goto (tgt := 92) hx hb dX4_leastFar_87 (by decide) ?_
          refine lv_istore (lv' := [(5, .int v7_22e), (0, .ref (ad 0)), (1, .int p1), (2, .int p2), (3, .int p3), (4, .int p4), (6, .int v6_7), (7, .int v7_22e)]) hx hb dX4_leastFar_92 hl (by decide) rfl (fun ls hl => ?_)
          refine lv_iinc (v := (v6_7 + 1)) (lv' := [(6, .int (v6_7 + 1)), (5, .int v7_22e), (0, .ref (ad 0)), (1, .int p1), (2, .int p2), (3, .int p3), (4, .int p4), (7, .int v7_22e)]) hx hb dX4_leastFar_94 hl (k := 6) rfl rfl (by decide) rfl (fun ls hl => ?_)
          refine lv_goto (tgt := 7) hx hb dX4_leastFar_97 (by decide) ?_
          have b6_7 : (v6_7 + 1).toInt = v6_7.toInt + 1 := inc_toInt (by omega) (by omega)
          exact ih7 _ v7_22e (v6_7 + 1) (by omega) (by omega) hG hex7 ls (lv_sub hl [2, 3, 4, 5, 6, 1, 0] rfl)
        · have t75 : 0 ≤ v5_7.toInt := qt_nlt c75
          rw [if_neg c75] at hG
          refine lv_iload hx hb dX4_leastFar_78 (lv_at hl 7 rfl) ?_
          refine lv_iload hx hb dX4_leastFar_80 (lv_at hl 5 rfl) ?_
          refine lv_icmp_ge (tgt := 90) hx hb dX4_leastFar_82 (by decide) (fun c82 => ?_) (fun c82 => ?_)
          · have t82 : v5_7.toInt ≤ v7_22e.toInt := qt_le c82
            rw [if_pos c82] at hG
            refine lv_iload hx hb dX4_leastFar_90 (lv_at hl 5 rfl) ?_
            refine lv_istore (lv' := [(5, .int v5_7), (0, .ref (ad 0)), (1, .int p1), (2, .int p2), (3, .int p3), (4, .int p4), (6, .int v6_7), (7, .int v7_22e)]) hx hb dX4_leastFar_92 hl (by decide) rfl (fun ls hl => ?_)
            refine lv_iinc (v := (v6_7 + 1)) (lv' := [(6, .int (v6_7 + 1)), (5, .int v5_7), (0, .ref (ad 0)), (1, .int p1), (2, .int p2), (3, .int p3), (4, .int p4), (7, .int v7_22e)]) hx hb dX4_leastFar_94 hl (k := 6) rfl rfl (by decide) rfl (fun ls hl => ?_)
            refine lv_goto (tgt := 7) hx hb dX4_leastFar_97 (by decide) ?_
            have b6_7 : (v6_7 + 1).toInt = v6_7.toInt + 1 := inc_toInt (by omega) (by omega)
            exact ih7 _ v5_7 (v6_7 + 1) (by omega) (by omega) hG hex7 ls (lv_sub hl [2, 3, 4, 5, 6, 1, 0] rfl)
          · have t82 : v7_22e.toInt < v5_7.toInt := qt_nle c82
            rw [if_neg c82] at hG
            refine lv_iload hx hb dX4_leastFar_85 (lv_at hl 7 rfl) ?_
            refine lv_goto (tgt := 92) hx hb dX4_leastFar_87 (by decide) ?_
            refine lv_istore (lv' := [(5, .int v7_22e), (0, .ref (ad 0)), (1, .int p1), (2, .int p2), (3, .int p3), (4, .int p4), (6, .int v6_7), (7, .int v7_22e)]) hx hb dX4_leastFar_92 hl (by decide) rfl (fun ls hl => ?_)
            refine lv_iinc (v := (v6_7 + 1)) (lv' := [(6, .int (v6_7 + 1)), (5, .int v7_22e), (0, .ref (ad 0)), (1, .int p1), (2, .int p2), (3, .int p3), (4, .int p4), (7, .int v7_22e)]) hx hb dX4_leastFar_94 hl (k := 6) rfl rfl (by decide) rfl (fun ls hl => ?_)
            refine lv_goto (tgt := 7) hx hb dX4_leastFar_97 (by decide) ?_
            have b6_7 : (v6_7 + 1).toInt = v6_7.toInt + 1 := inc_toInt (by omega) (by omega)
            exact ih7 _ v7_22e (v6_7 + 1) (by omega) (by omega) hG hex7 ls (lv_sub hl [2, 3, 4, 5, 6, 1, 0] rfl)
  refine L7 200 _ (-9) 0 (by omega) (by omega) rfl (fun v5_7e hr7 ls hl => ?_) ls (lv_sub hl [2, 3, 4, 5, 6, 1, 0] rfl)
  rw [hr7] at hG
  refine lv_iload hx hb dX4_leastFar_100 (lv_at hl 1 rfl) ?_
  exact end0i S hr hlocks hG dX4_leastFar_102
set_option maxHeartbeats 4000000 in
set_option maxRecDepth 100000 in
theorem c_X4_fresh (l : Launch) (ad : Nat → Nat) (D : va_G) (sz : Nat) (σ : St) (p1 : Int32) (hok : OkM σ) : Met l yX4_fresh wsX4_fresh ({ frames := 2, cells := 0, slots := 0, locals := 50 }) (PreW 18 (eM ad) ad D (tyM ad) σ sz ([.ref (ad 0), .int p1] : List Value)) (Q0i (f_X4_fresh σ p1)) 0 0 N0 := by
  generalize hG : f_X4_fresh σ p1 = T
  refine headW (cc := cX4_fresh) (maxL := 8) (ret := (some .int)) ([.ref (ad 0), .int p1] : List Value) (by decide) rfl (Nat.le_of_ble_eq_true rfl) ?_
  intro p e s m below meth c S hr hlocks hK hN hsz w ls hl
  have S : CallFix p m c cX4_fresh 8 s ([.ref (ad 0), .int p1] : List Value).toArray wsX4_fresh RX4 := S
  have hx := S.1
  have hb := S.2.1
  have z0 : (0 : Int32).toInt = 0 := by decide
  have z1 : (1 : Int32).toInt = 1 := by decide
  have hl : lv_has ls 8 [(0, .ref (ad 0)), (1, .int p1)] := hl
  have hinX4 : ∀ w ∈ wsX40, w ∈ wsX4_fresh := (fun _ h => List.mem_cons_of_mem _ (List.mem_append_right _ h))
  have okf0 := hok.1
  have okf1 := hok.2.1
  have okf2 := hok.2.2.1
  have okf3 := hok.2.2.2.1
  have okf4 := hok.2.2.2.2.1
  have okf6 := hok.2.2.2.2.2.1
  have okf7 := hok.2.2.2.2.2.2.1
  have okf8 := hok.2.2.2.2.2.2.2
  rw [f_X4_fresh] at hG
  refine lv_iload_n hx hb dX4_fresh_0 rfl (lv_at hl 1 rfl) ?_
  refine lv_i2l hx hb dX4_fresh_1 rfl ?_
  refine lv_lconst (v := 0) hx hb dX4_fresh_2 (by decide) ?_
  refine lv_ldc2 hx hb S.2.2.2.1 (S.2.2.2.2 _ (List.mem_of_getElem? (i := 1) rfl)) dX4_fresh_3 ?_
  refine call0i (va_runS (As := [.long p1.toInt64, .long 0, .long 4]) (rest := []) S (c_X4_in l p1.toInt64 0 4) (va_cwS 3 S.2.2.2.2 gX4_fresh_X4_in rfl rfl rfl hd_X4_in ⟨Nat.le_of_ble_eq_true rfl, Nat.le_of_ble_eq_true rfl⟩) pre0S rfl rfl hl.1 rfl (lv_room (Nat.le_of_ble_eq_true rfl)) dX4_fresh_6 ⟨Nat.zero_le _, Nat.zero_le _⟩) ?_
  refine lv_if_ne (tgt := 15) hx hb dX4_fresh_9 (by decide) (fun c9 => ?_) (fun c9 => ?_)
  · have t9 := bf_in_n c9
    rw [if_neg c9] at hG
    refine lv_aload_n hx hb dX4_fresh_15 rfl (lv_at hl 0 rfl) ?_
    refine r_get (C := RX4) (T := TX4) (N := 25) S hK w (k := 0) (by decide) (eM_0 ad _) rfl hinX4 1 (by decide) (List.mem_of_getElem? (i := 2) rfl) rfl dX4_fresh_16 ?_
    refine lv_if_ne (tgt := 25) hx hb dX4_fresh_19 (by decide) (fun c19 => ?_) (fun c19 => ?_)
    · have t19 : (σ 0 1).toInt ≠ 0 := qt_ne c19
      rw [if_neg c19] at hG
      refine lv_bipush (v := (-9)) hx hb dX4_fresh_25 (by decide) ?_
      refine lv_istore_n (lv' := [(2, .int (-9)), (0, .ref (ad 0)), (1, .int p1)]) hx hb dX4_fresh_27 rfl hl (by decide) rfl (fun ls hl => ?_)
      refine lv_iconst (v := 0) hx hb dX4_fresh_28 (by decide) ?_
      refine lv_istore_n (lv' := [(3, .int 0), (2, .int (-9)), (0, .ref (ad 0)), (1, .int p1)]) hx hb dX4_fresh_29 rfl hl (by decide) rfl (fun ls hl => ?_)
      refine lv_iconst (v := 0) hx hb dX4_fresh_30 (by decide) ?_
      refine lv_istore (lv' := [(4, .int 0), (3, .int 0), (2, .int (-9)), (0, .ref (ad 0)), (1, .int p1)]) hx hb dX4_fresh_31 hl (by decide) rfl (fun ls hl => ?_)
      have L33 : ∀ (n : Nat) (res33 : Int32 × Int32), ∀ (v2_33 : Int32), ∀ (v3_33 : Int32), ∀ (v4_33 : Int32), ((0 ≤ v4_33.toInt ∧ v4_33.toInt ≤ 9)) → (9 - v4_33.toInt).toNat < n → (lp_X4_fresh_33 σ p1 n v2_33 v3_33 v4_33) = res33 → (∀ (v2_33e : Int32), ∀ (v3_33e : Int32), res33 = (v2_33e, v3_33e) → ∀ ls : Array Slot, lv_has ls 8 [(0, .ref (ad 0)), (1, .int p1), (2, .int v2_33e), (3, .int v3_33e)] → W p l e (headSpec wsX4_fresh ({ frames := 2, cells := 0, slots := 0, locals := 50 })).room s m ([.ref (ad 0), .int p1] : List Value).toArray below meth c s.heap [] 0 0 (MQ below (Q0i T) ([.ref (ad 0), .int p1] : List Value).toArray s 0 0 N0) (F0 m 126 ls [])) → ∀ ls : Array Slot, lv_has ls 8 [(0, .ref (ad 0)), (1, .int p1), (2, .int v2_33), (3, .int v3_33), (4, .int v4_33)] → W p l e (headSpec wsX4_fresh ({ frames := 2, cells := 0, slots := 0, locals := 50 })).room s m ([.ref (ad 0), .int p1] : List Value).toArray below meth c s.heap [] 0 0 (MQ below (Q0i T) ([.ref (ad 0), .int p1] : List Value).toArray s 0 0 N0) (F0 m 33 ls []) := by
        intro n
        induction n with
        | zero => intro _ _ _ _ _ hm; exact absurd hm (Nat.not_lt_zero _)
        | succ n ih33 =>
          intro res33 v2_33 v3_33 v4_33 hI33 hm33 hG hex33 ls hl
          have i33_0 := hI33
          rw [lp_X4_fresh_33] at hG
          refine lv_iload hx hb dX4_fresh_33 (lv_at hl 4 rfl) ?_
          refine lv_bipush (v := 9) hx hb dX4_fresh_35 (by decide) ?_
          refine lv_icmp_ge (tgt := 126) hx hb dX4_fresh_37 (by decide) (fun c37 => ?_) (fun c37 => ?_)
          · have t37 : 9 ≤ v4_33.toInt := qt_le c37
            rw [if_pos c37] at hG
            exact hex33 v2_33 v3_33 hG.symm ls (lv_sub hl [0, 1, 2, 3] rfl)
          · have t37 : v4_33.toInt < 9 := qt_nle c37
            rw [if_neg c37] at hG
            refine lv_iload hx hb dX4_fresh_40 (lv_at hl 4 rfl) ?_
            refine lv_iconst (v := 1) hx hb dX4_fresh_42 (by decide) ?_
            refine lv_iadd hx hb dX4_fresh_43 ?_
            refine lv_istore (lv' := [(5, .int (v4_33 + 1)), (0, .ref (ad 0)), (1, .int p1), (2, .int v2_33), (3, .int v3_33), (4, .int v4_33)]) hx hb dX4_fresh_44 hl (by decide) rfl (fun ls hl => ?_)
            have L46 : ∀ (n : Nat) (res46 : Int32 × Int32), ∀ (v2_46 : Int32), ∀ (v3_46 : Int32), ∀ (v5_46 : Int32), ((0 ≤ v5_46.toInt ∧ v5_46.toInt ≤ 9)) → (9 - v5_46.toInt).toNat < n → (lp_X4_fresh_46 σ p1 v4_33 n v2_46 v3_46 v5_46) = res46 → (∀ (v2_46e : Int32), ∀ (v3_46e : Int32), res46 = (v2_46e, v3_46e) → ∀ ls : Array Slot, lv_has ls 8 [(0, .ref (ad 0)), (1, .int p1), (2, .int v2_46e), (3, .int v3_46e), (4, .int v4_33)] → W p l e (headSpec wsX4_fresh ({ frames := 2, cells := 0, slots := 0, locals := 50 })).room s m ([.ref (ad 0), .int p1] : List Value).toArray below meth c s.heap [] 0 0 (MQ below (Q0i T) ([.ref (ad 0), .int p1] : List Value).toArray s 0 0 N0) (F0 m 120 ls [])) → ∀ ls : Array Slot, lv_has ls 8 [(0, .ref (ad 0)), (1, .int p1), (2, .int v2_46), (3, .int v3_46), (4, .int v4_33), (5, .int v5_46)] → W p l e (headSpec wsX4_fresh ({ frames := 2, cells := 0, slots := 0, locals := 50 })).room s m ([.ref (ad 0), .int p1] : List Value).toArray below meth c s.heap [] 0 0 (MQ below (Q0i T) ([.ref (ad 0), .int p1] : List Value).toArray s 0 0 N0) (F0 m 46 ls []) := by
              intro n
              induction n with
              | zero => intro _ _ _ _ _ hm; exact absurd hm (Nat.not_lt_zero _)
              | succ n ih46 =>
                intro res46 v2_46 v3_46 v5_46 hI46 hm46 hG hex46 ls hl
                have i46_0 := hI46
                rw [lp_X4_fresh_46] at hG
                refine lv_iload hx hb dX4_fresh_46 (lv_at hl 5 rfl) ?_
                refine lv_bipush (v := 9) hx hb dX4_fresh_48 (by decide) ?_
                refine lv_icmp_ge (tgt := 120) hx hb dX4_fresh_50 (by decide) (fun c50 => ?_) (fun c50 => ?_)
                · have t50 : 9 ≤ v5_46.toInt := qt_le c50
                  rw [if_pos c50] at hG
                  exact hex46 v2_46 v3_46 hG.symm ls (lv_sub hl [0, 1, 2, 3, 4] rfl)
                · have t50 : v5_46.toInt < 9 := qt_nle c50
                  rw [if_neg c50] at hG
                  refine lv_iconst (v := 0) hx hb dX4_fresh_53 (by decide) ?_
                  refine lv_istore (lv' := [(6, .int 0), (0, .ref (ad 0)), (1, .int p1), (2, .int v2_46), (3, .int v3_46), (4, .int v4_33), (5, .int v5_46)]) hx hb dX4_fresh_54 hl (by decide) rfl (fun ls hl => ?_)
                  have L56 : ∀ (n : Nat) (res56 : Int32 × Int32), ∀ (v2_56 : Int32), ∀ (v3_56 : Int32), ∀ (v6_56 : Int32), ((0 ≤ v6_56.toInt ∧ v6_56.toInt ≤ 100)) → (100 - v6_56.toInt).toNat < n → (lp_X4_fresh_56 σ p1 v4_33 v5_46 n v2_56 v3_56 v6_56) = res56 → (∀ (v2_56e : Int32), ∀ (v3_56e : Int32), res56 = (v2_56e, v3_56e) → ∀ ls : Array Slot, lv_has ls 8 [(0, .ref (ad 0)), (1, .int p1), (2, .int v2_56e), (3, .int v3_56e), (4, .int v4_33), (5, .int v5_46)] → W p l e (headSpec wsX4_fresh ({ frames := 2, cells := 0, slots := 0, locals := 50 })).room s m ([.ref (ad 0), .int p1] : List Value).toArray below meth c s.heap [] 0 0 (MQ below (Q0i T) ([.ref (ad 0), .int p1] : List Value).toArray s 0 0 N0) (F0 m 114 ls [])) → ∀ ls : Array Slot, lv_has ls 8 [(0, .ref (ad 0)), (1, .int p1), (2, .int v2_56), (3, .int v3_56), (4, .int v4_33), (5, .int v5_46), (6, .int v6_56)] → W p l e (headSpec wsX4_fresh ({ frames := 2, cells := 0, slots := 0, locals := 50 })).room s m ([.ref (ad 0), .int p1] : List Value).toArray below meth c s.heap [] 0 0 (MQ below (Q0i T) ([.ref (ad 0), .int p1] : List Value).toArray s 0 0 N0) (F0 m 56 ls []) := by
                    intro n
                    induction n with
                    | zero => intro _ _ _ _ _ hm; exact absurd hm (Nat.not_lt_zero _)
                    | succ n ih56 =>
                      intro res56 v2_56 v3_56 v6_56 hI56 hm56 hG hex56 ls hl
                      have i56_0 := hI56
                      rw [lp_X4_fresh_56] at hG
                      refine lv_iload hx hb dX4_fresh_56 (lv_at hl 6 rfl) ?_
                      refine lv_bipush (v := 100) hx hb dX4_fresh_58 (by decide) ?_
                      refine lv_icmp_ge (tgt := 114) hx hb dX4_fresh_60 (by decide) (fun c60 => ?_) (fun c60 => ?_)
                      · have t60 : 100 ≤ v6_56.toInt := qt_le c60
                        rw [if_pos c60] at hG
                        exact hex56 v2_56 v3_56 hG.symm ls (lv_sub hl [0, 1, 2, 3, 4, 5] rfl)
                      · have t60 : v6_56.toInt < 100 := qt_nle c60
                        rw [if_neg c60] at hG
                        refine lv_aload_n hx hb dX4_fresh_63 rfl (lv_at hl 0 rfl) ?_
                        refine lv_iload hx hb dX4_fresh_64 (lv_at hl 4 rfl) ?_
                        refine lv_iload hx hb dX4_fresh_66 (lv_at hl 5 rfl) ?_
                        refine lv_iload hx hb dX4_fresh_68 (lv_at hl 6 rfl) ?_
                        refine lv_bipush (v := 10) hx hb dX4_fresh_70 (by decide) ?_
                        refine lv_idiv hx hb dX4_fresh_72 (by decide) ?_
                        refine lv_iload hx hb dX4_fresh_73 (lv_at hl 6 rfl) ?_
                        refine lv_bipush (v := 10) hx hb dX4_fresh_75 (by decide) ?_
                        refine lv_irem hx hb dX4_fresh_77 (by decide) ?_
                        refine call0i (va_runV (As := [.int v4_33, .int v5_46, .int (v6_56 / 10), .int (v6_56 - (v6_56 / 10) * 10)]) (rest := []) S (c_X4_leastFar l ad D s.heap.size σ v4_33 v5_46 (v6_56 / 10) (v6_56 - (v6_56 / 10) * 10) hok) (cwV 4 S.2.2.2.2 gX4_fresh_X4_leastFar rfl rfl rfl ⟨rfl, hd_X4_leastFar⟩ ⟨Nat.le_of_ble_eq_true rfl, Nat.le_of_ble_eq_true rfl⟩) (preV hK hN w (k := 0) (by decide) (eM_0 ad _) (q := (RX4, TX4, 25)) rfl) rfl rfl hl.1 rfl (lv_room (Nat.le_of_ble_eq_true rfl)) dX4_fresh_78 ⟨Nat.zero_le _, Nat.zero_le _⟩) ?_
                        refine lv_istore (lv' := [(7, .int (f_X4_leastFar σ v4_33 v5_46 (v6_56 / 10) (v6_56 - (v6_56 / 10) * 10))), (0, .ref (ad 0)), (1, .int p1), (2, .int v2_56), (3, .int v3_56), (4, .int v4_33), (5, .int v5_46), (6, .int v6_56)]) hx hb dX4_fresh_81 hl (by decide) rfl (fun ls hl => ?_)
                        refine lv_iload hx hb dX4_fresh_83 (lv_at hl 0 rfl) ?_
                        refine lv_iload_n hx hb dX4_fresh_85 rfl (lv_at hl 3 rfl) ?_
                        refine lv_icmp_le (tgt := 108) hx hb dX4_fresh_86 (by decide) (fun c86 => ?_) (fun c86 => ?_)
                        · have t86 : (f_X4_leastFar σ v4_33 v5_46 (v6_56 / 10) (v6_56 - (v6_56 / 10) * 10)).toInt ≤ v2_56.toInt := qt_le c86
                          rw [if_pos c86] at hG
                          refine lv_iinc (v := (v6_56 + 1)) (lv' := [(6, .int (v6_56 + 1)), (7, .int (f_X4_leastFar σ v4_33 v5_46 (v6_56 / 10) (v6_56 - (v6_56 / 10) * 10))), (0, .ref (ad 0)), (1, .int p1), (2, .int v2_56), (3, .int v3_56), (4, .int v4_33), (5, .int v5_46)]) hx hb dX4_fresh_108 hl (k := 7) rfl rfl (by decide) rfl (fun ls hl => ?_)
                          refine lv_goto (tgt := 56) hx hb dX4_fresh_111 (by decide) ?_
                          have b6_56 : (v6_56 + 1).toInt = v6_56.toInt + 1 := inc_toInt (by omega) (by omega)
                          exact ih56 _ v2_56 v3_56 (v6_56 + 1) (by omega) (by omega) hG hex56 ls (lv_sub hl [2, 3, 4, 5, 6, 7, 0] rfl)
                        · have t86 : v2_56.toInt < (f_X4_leastFar σ v4_33 v5_46 (v6_56 / 10) (v6_56 - (v6_56 / 10) * 10)).toInt := qt_nle c86
                          rw [if_neg c86] at hG
                          refine lv_iload hx hb dX4_fresh_89 (lv_at hl 0 rfl) ?_
                          refine lv_istore_n (lv' := [(2, .int (f_X4_leastFar σ v4_33 v5_46 (v6_56 / 10) (v6_56 - (v6_56 / 10) * 10))), (7, .int (f_X4_leastFar σ v4_33 v5_46 (v6_56 / 10) (v6_56 - (v6_56 / 10) * 10))), (0, .ref (ad 0)), (1, .int p1), (3, .int v3_56), (4, .int v4_33), (5, .int v5_46), (6, .int v6_56)]) hx hb dX4_fresh_91 rfl hl (by decide) rfl (fun ls hl => ?_)
                          refine lv_sipush (v := 1000) hx hb dX4_fresh_92 (by decide) ?_
                          refine lv_iload hx hb dX4_fresh_95 (lv_at hl 5 rfl) ?_
                          refine lv_imul hx hb dX4_fresh_97 ?_
                          refine lv_bipush (v := 100) hx hb dX4_fresh_98 (by decide) ?_
                          refine lv_iload hx hb dX4_fresh_100 (lv_at hl 6 rfl) ?_
                          refine lv_imul hx hb dX4_fresh_102 ?_
                          refine lv_iadd hx hb dX4_fresh_103 ?_
                          refine lv_iload hx hb dX4_fresh_104 (lv_at hl 7 rfl) ?_
                          refine lv_iadd hx hb dX4_fresh_106 ?_
                          refine lv_istore_n (lv' := [(3, .int (((1000 * v4_33) + (100 * v5_46)) + v6_56)), (2, .int (f_X4_leastFar σ v4_33 v5_46 (v6_56 / 10) (v6_56 - (v6_56 / 10) * 10))), (7, .int (f_X4_leastFar σ v4_33 v5_46 (v6_56 / 10) (v6_56 - (v6_56 / 10) * 10))), (0, .ref (ad 0)), (1, .int p1), (4, .int v4_33), (5, .int v5_46), (6, .int v6_56)]) hx hb dX4_fresh_107 rfl hl (by decide) rfl (fun ls hl => ?_)
                          refine lv_iinc (v := (v6_56 + 1)) (lv' := [(6, .int (v6_56 + 1)), (3, .int (((1000 * v4_33) + (100 * v5_46)) + v6_56)), (2, .int (f_X4_leastFar σ v4_33 v5_46 (v6_56 / 10) (v6_56 - (v6_56 / 10) * 10))), (7, .int (f_X4_leastFar σ v4_33 v5_46 (v6_56 / 10) (v6_56 - (v6_56 / 10) * 10))), (0, .ref (ad 0)), (1, .int p1), (4, .int v4_33), (5, .int v5_46)]) hx hb dX4_fresh_108 hl (k := 7) rfl rfl (by decide) rfl (fun ls hl => ?_)
                          refine lv_goto (tgt := 56) hx hb dX4_fresh_111 (by decide) ?_
                          have b6_56 : (v6_56 + 1).toInt = v6_56.toInt + 1 := inc_toInt (by omega) (by omega)
                          exact ih56 _ (f_X4_leastFar σ v4_33 v5_46 (v6_56 / 10) (v6_56 - (v6_56 / 10) * 10)) (((1000 * v4_33) + (100 * v5_46)) + v6_56) (v6_56 + 1) (by omega) (by omega) hG hex56 ls (lv_sub hl [4, 5, 2, 1, 6, 7, 0] rfl)
                  refine L56 200 _ v2_46 v3_46 0 (by omega) (by omega) rfl (fun v2_56e v3_56e hr56 ls hl => ?_) ls (lv_sub hl [1, 2, 3, 4, 5, 6, 0] rfl)
                  rw [hr56] at hG
                  dsimp only at hG
                  refine lv_iinc (v := (v5_46 + 1)) (lv' := [(5, .int (v5_46 + 1)), (0, .ref (ad 0)), (1, .int p1), (2, .int v2_56e), (3, .int v3_56e), (4, .int v4_33)]) hx hb dX4_fresh_114 hl (k := 5) rfl rfl (by decide) rfl (fun ls hl => ?_)
                  refine lv_goto (tgt := 46) hx hb dX4_fresh_117 (by decide) ?_
                  have b5_46 : (v5_46 + 1).toInt = v5_46.toInt + 1 := inc_toInt (by omega) (by omega)
                  exact ih46 _ v2_56e v3_56e (v5_46 + 1) (by omega) (by omega) hG hex46 ls (lv_sub hl [1, 2, 3, 4, 5, 0] rfl)
            have e46 := inc_toInt (a := v4_33) (by omega) (by omega)
            refine L46 200 _ v2_33 v3_33 (v4_33 + 1) (by omega) (by omega) rfl (fun v2_46e v3_46e hr46 ls hl => ?_) ls (lv_sub hl [1, 2, 3, 4, 5, 0] rfl)
            rw [hr46] at hG
            dsimp only at hG
            refine lv_iinc (v := (v4_33 + 1)) (lv' := [(4, .int (v4_33 + 1)), (0, .ref (ad 0)), (1, .int p1), (2, .int v2_46e), (3, .int v3_46e)]) hx hb dX4_fresh_120 hl (k := 4) rfl rfl (by decide) rfl (fun ls hl => ?_)
            refine lv_goto (tgt := 33) hx hb dX4_fresh_123 (by decide) ?_
            have b4_33 : (v4_33 + 1).toInt = v4_33.toInt + 1 := inc_toInt (by omega) (by omega)
            exact ih33 _ v2_46e v3_46e (v4_33 + 1) (by omega) (by omega) hG hex33 ls (lv_sub hl [1, 2, 3, 4, 0] rfl)
      refine L33 200 _ (-9) 0 0 (by omega) (by omega) rfl (fun v2_33e v3_33e hr33 ls hl => ?_) ls (lv_sub hl [3, 4, 2, 1, 0] rfl)
      rw [hr33] at hG
      dsimp only at hG
      refine lv_iload_n hx hb dX4_fresh_126 rfl (lv_at hl 1 rfl) ?_
      refine lv_if_ne (tgt := 134) hx hb dX4_fresh_127 (by decide) (fun c127 => ?_) (fun c127 => ?_)
      · have t127 : p1.toInt ≠ 0 := qt_ne c127
        rw [if_neg c127] at hG
        refine lv_iload_n hx hb dX4_fresh_134 rfl (lv_at hl 1 rfl) ?_
        refine lv_iconst (v := 1) hx hb dX4_fresh_135 (by decide) ?_
        refine lv_icmp_ne (tgt := 147) hx hb dX4_fresh_136 (by decide) (fun c136 => ?_) (fun c136 => ?_)
        · have t136 : p1.toInt ≠ 1 := qt_ne c136
          rw [if_neg c136] at hG
          refine lv_iload_n hx hb dX4_fresh_147 rfl (lv_at hl 1 rfl) ?_
          refine lv_iconst (v := 2) hx hb dX4_fresh_148 (by decide) ?_
          refine lv_icmp_ne (tgt := 162) hx hb dX4_fresh_149 (by decide) (fun c149 => ?_) (fun c149 => ?_)
          · have t149 : p1.toInt ≠ 2 := qt_ne c149
            rw [if_neg c149] at hG
            refine lv_iload_n hx hb dX4_fresh_162 rfl (lv_at hl 1 rfl) ?_
            refine lv_iconst (v := 3) hx hb dX4_fresh_163 (by decide) ?_
            refine lv_icmp_ne (tgt := 177) hx hb dX4_fresh_164 (by decide) (fun c164 => ?_) (fun c164 => ?_)
            · have t164 : p1.toInt ≠ 3 := qt_ne c164
              rw [if_neg c164] at hG
              refine lv_iload_n hx hb dX4_fresh_177 rfl (lv_at hl 3 rfl) ?_
              refine lv_bipush (v := 10) hx hb dX4_fresh_178 (by decide) ?_
              refine lv_irem hx hb dX4_fresh_180 (by decide) ?_
              exact end0i S hr hlocks hG dX4_fresh_181
            · have t164 : p1.toInt = 3 := qt_eq c164
              rw [if_pos c164] at hG
              refine lv_iload_n hx hb dX4_fresh_167 rfl (lv_at hl 3 rfl) ?_
              refine lv_bipush (v := 10) hx hb dX4_fresh_168 (by decide) ?_
              refine lv_idiv hx hb dX4_fresh_170 (by decide) ?_
              refine lv_bipush (v := 10) hx hb dX4_fresh_171 (by decide) ?_
              refine lv_irem hx hb dX4_fresh_173 (by decide) ?_
              refine lv_goto (tgt := 181) hx hb dX4_fresh_174 (by decide) ?_
              exact end0i S hr hlocks hG dX4_fresh_181
          · have t149 : p1.toInt = 2 := qt_eq c149
            rw [if_pos c149] at hG
            refine lv_iload_n hx hb dX4_fresh_152 rfl (lv_at hl 3 rfl) ?_
            refine lv_bipush (v := 100) hx hb dX4_fresh_153 (by decide) ?_
            refine lv_idiv hx hb dX4_fresh_155 (by decide) ?_
            refine lv_bipush (v := 10) hx hb dX4_fresh_156 (by decide) ?_
            refine lv_irem hx hb dX4_fresh_158 (by decide) ?_
            refine lv_goto (tgt := 181) hx hb dX4_fresh_159 (by decide) ?_
            exact end0i S hr hlocks hG dX4_fresh_181
        · have t136 : p1.toInt = 1 := qt_eq c136
          rw [if_pos c136] at hG
          refine lv_iload_n hx hb dX4_fresh_139 rfl (lv_at hl 3 rfl) ?_
          refine lv_sipush (v := 1000) hx hb dX4_fresh_140 (by decide) ?_
          refine lv_idiv hx hb dX4_fresh_143 (by decide) ?_
          refine lv_goto (tgt := 181) hx hb dX4_fresh_144 (by decide) ?_
          exact end0i S hr hlocks hG dX4_fresh_181
      · have t127 : p1.toInt = 0 := qt_eq c127
        rw [if_pos c127] at hG
        refine lv_iload_n hx hb dX4_fresh_130 rfl (lv_at hl 2 rfl) ?_
        refine lv_goto (tgt := 181) hx hb dX4_fresh_131 (by decide) ?_
        exact end0i S hr hlocks hG dX4_fresh_181
    · have t19 : (σ 0 1).toInt = 0 := qt_eq c19
      rw [if_pos c19] at hG
      refine lv_bipush (v := (-3)) hx hb dX4_fresh_22 (by decide) ?_
      exact end0i S hr hlocks hG dX4_fresh_24
  · rw [if_pos c9] at hG
    refine lv_bipush (v := (-2)) hx hb dX4_fresh_12 (by decide) ?_
    exact end0i S hr hlocks hG dX4_fresh_14
set_option maxHeartbeats 4000000 in
set_option maxRecDepth 100000 in
theorem c_X4_mayBe (l : Launch) (ad : Nat → Nat) (D : va_G) (sz : Nat) (σ : St) (p1 : Int32) (p2 : Int32) (p3 : Int32) (p4 : Int32) (hok : OkM σ) (hx1 : 0 ≤ p1.toInt ∧ p1.toInt < 8) (hsg : (σ 0 1).toInt ≠ 0) (hyr : 0 ≤ (p2 + p2 * p3).toInt ∧ (p2 + p2 * p3).toInt ≤ 99) (hfb : 0 ≤ p4.toInt ∧ p4.toInt + 9 ≤ 360) : Met l yX4_mayBe wsX4_mayBe ({ frames := 1, cells := 0, slots := 0, locals := 27 }) (PreW 18 (eM ad) ad D (tyM ad) σ sz ([.ref (ad 0), .int p1, .int p2, .int p3, .int p4] : List Value)) (Q0i (f_X4_mayBe σ p1 p2 p3 p4)) 0 0 N0 := by
  generalize hG : f_X4_mayBe σ p1 p2 p3 p4 = T
  refine headW (cc := cX4_mayBe) (maxL := 7) (ret := (some .boolean)) ([.ref (ad 0), .int p1, .int p2, .int p3, .int p4] : List Value) (by decide) rfl (Nat.le_of_ble_eq_true rfl) ?_
  intro p e s m below meth c S hr hlocks hK hN hsz w ls hl
  have S : CallFix p m c cX4_mayBe 7 s ([.ref (ad 0), .int p1, .int p2, .int p3, .int p4] : List Value).toArray wsX4_mayBe RX4 := S
  have hx := S.1
  have hb := S.2.1
  have z0 : (0 : Int32).toInt = 0 := by decide
  have z1 : (1 : Int32).toInt = 1 := by decide
  have hl : lv_has ls 7 [(0, .ref (ad 0)), (1, .int p1), (2, .int p2), (3, .int p3), (4, .int p4)] := hl
  have hinX4 : ∀ w ∈ wsX40, w ∈ wsX4_mayBe := (fun _ h => List.mem_cons_of_mem _ (List.mem_append_right _ h))
  have okf0 := hok.1
  have okf1 := hok.2.1
  have okf2 := hok.2.2.1
  have okf3 := hok.2.2.2.1
  have okf4 := hok.2.2.2.2.1
  have okf6 := hok.2.2.2.2.2.1
  have okf7 := hok.2.2.2.2.2.2.1
  have okf8 := hok.2.2.2.2.2.2.2
  rw [f_X4_mayBe] at hG
  refine lv_iconst (v := 0) hx hb dX4_mayBe_0 (by decide) ?_
  refine lv_istore (lv' := [(5, .int 0), (0, .ref (ad 0)), (1, .int p1), (2, .int p2), (3, .int p3), (4, .int p4)]) hx hb dX4_mayBe_1 hl (by decide) rfl (fun ls hl => ?_)
  refine lv_iconst (v := 0) hx hb dX4_mayBe_3 (by decide) ?_
  refine lv_istore (lv' := [(6, .int 0), (5, .int 0), (0, .ref (ad 0)), (1, .int p1), (2, .int p2), (3, .int p3), (4, .int p4)]) hx hb dX4_mayBe_4 hl (by decide) rfl (fun ls hl => ?_)
  have L6 : ∀ (n : Nat) (res6 : Int32), ∀ (v5_6 : Int32), ∀ (v6_6 : Int32), ((0 ≤ v6_6.toInt ∧ v6_6.toInt ≤ 9)) → (9 - v6_6.toInt).toNat < n → (lp_X4_mayBe_6 σ p1 p2 p3 p4 n v5_6 v6_6) = res6 → (∀ (v5_6e : Int32), res6 = v5_6e → ∀ ls : Array Slot, lv_has ls 7 [(0, .ref (ad 0)), (5, .int v5_6e)] → W p l e (headSpec wsX4_mayBe ({ frames := 1, cells := 0, slots := 0, locals := 27 })).room s m ([.ref (ad 0), .int p1, .int p2, .int p3, .int p4] : List Value).toArray below meth c s.heap [] 0 0 (MQ below (Q0i T) ([.ref (ad 0), .int p1, .int p2, .int p3, .int p4] : List Value).toArray s 0 0 N0) (F0 m 59 ls [])) → ∀ ls : Array Slot, lv_has ls 7 [(0, .ref (ad 0)), (1, .int p1), (2, .int p2), (3, .int p3), (4, .int p4), (5, .int v5_6), (6, .int v6_6)] → W p l e (headSpec wsX4_mayBe ({ frames := 1, cells := 0, slots := 0, locals := 27 })).room s m ([.ref (ad 0), .int p1, .int p2, .int p3, .int p4] : List Value).toArray below meth c s.heap [] 0 0 (MQ below (Q0i T) ([.ref (ad 0), .int p1, .int p2, .int p3, .int p4] : List Value).toArray s 0 0 N0) (F0 m 6 ls []) := by
    intro n
    induction n with
    | zero => intro _ _ _ _ hm; exact absurd hm (Nat.not_lt_zero _)
    | succ n ih6 =>
      intro res6 v5_6 v6_6 hI6 hm6 hG hex6 ls hl
      have i6_0 := hI6
      rw [lp_X4_mayBe_6] at hG
      refine lv_iload hx hb dX4_mayBe_6 (lv_at hl 6 rfl) ?_
      refine lv_bipush (v := 9) hx hb dX4_mayBe_8 (by decide) ?_
      refine lv_icmp_ge (tgt := 59) hx hb dX4_mayBe_10 (by decide) (fun c10 => ?_) (fun c10 => ?_)
      · have t10 : 9 ≤ v6_6.toInt := qt_le c10
        rw [if_pos c10] at hG
        exact hex6 v5_6 hG.symm ls (lv_sub hl [0, 5] rfl)
      · have t10 : v6_6.toInt < 9 := qt_nle c10
        rw [if_neg c10] at hG
        refine lv_iload hx hb dX4_mayBe_13 (lv_at hl 5 rfl) ?_
        refine lv_aload_n hx hb dX4_mayBe_15 rfl (lv_at hl 0 rfl) ?_
        refine lv_iload_n hx hb dX4_mayBe_16 rfl (lv_at hl 1 rfl) ?_
        refine lv_iload hx hb dX4_mayBe_17 (lv_at hl 6 rfl) ?_
        refine lv_bipush (v := 8) hx hb dX4_mayBe_19 (by decide) ?_
        refine lv_aload_n hx hb dX4_mayBe_21 rfl (lv_at hl 0 rfl) ?_
        refine lv_iload_n hx hb dX4_mayBe_22 rfl (lv_at hl 1 rfl) ?_
        refine lv_iload hx hb dX4_mayBe_23 (lv_at hl 6 rfl) ?_
        refine call0i (va_runV (As := [.int p1, .int v6_6]) (rest := [.int 8, .int v6_6, .int p1, .ref (ad 0), .int v5_6]) S (c_X4_strong l ad D s.heap.size σ p1 v6_6 (by omega) (by omega)) (cwV 2 S.2.2.2.2 gX4_mayBe_X4_strong rfl rfl rfl ⟨rfl, hd_X4_strong⟩ ⟨Nat.le_of_ble_eq_true rfl, Nat.le_of_ble_eq_true rfl⟩) (preV hK hN w (k := 0) (by decide) (eM_0 ad _) (q := (RX4, TX4, 25)) rfl) rfl rfl hl.1 rfl (lv_room (Nat.le_of_ble_eq_true rfl)) dX4_mayBe_25 ⟨Nat.zero_le _, Nat.zero_le _⟩) ?_
        refine lv_imul hx hb dX4_mayBe_28 ?_
        refine lv_iload_n hx hb dX4_mayBe_29 rfl (lv_at hl 2 rfl) ?_
        refine lv_iload_n hx hb dX4_mayBe_30 rfl (lv_at hl 2 rfl) ?_
        refine lv_iload_n hx hb dX4_mayBe_31 rfl (lv_at hl 3 rfl) ?_
        refine lv_imul hx hb dX4_mayBe_32 ?_
        refine lv_iadd hx hb dX4_mayBe_33 ?_
        refine call0i (va_runV (As := [.int p1, .int v6_6, .int (8 * (f_X4_strong σ p1 v6_6)), .int (p2 + (p2 * p3))]) (rest := [.int v5_6]) S (c_X4_fades l ad D s.heap.size σ p1 v6_6 (8 * (f_X4_strong σ p1 v6_6)) (p2 + (p2 * p3)) hok (by omega) (by omega) (by omega) (by omega)) (cwV 4 S.2.2.2.2 gX4_mayBe_X4_fades rfl rfl rfl ⟨rfl, hd_X4_fades⟩ ⟨Nat.le_of_ble_eq_true rfl, Nat.le_of_ble_eq_true rfl⟩) (preV hK hN w (k := 0) (by decide) (eM_0 ad _) (q := (RX4, TX4, 25)) rfl) rfl rfl hl.1 rfl (lv_room (Nat.le_of_ble_eq_true rfl)) dX4_mayBe_34 ⟨Nat.zero_le _, Nat.zero_le _⟩) ?_
        refine lv_aload_n hx hb dX4_mayBe_37 rfl (lv_at hl 0 rfl) ?_
        refine r_get (C := RX4) (T := TX4) (N := 25) S hK w (k := 0) (by decide) (eM_0 ad _) rfl hinX4 22 (by decide) (List.mem_of_getElem? (i := 1) rfl) rfl dX4_mayBe_38 ?_
        refine lv_iload hx hb dX4_mayBe_41 (lv_at hl 4 rfl) ?_
        refine lv_iload hx hb dX4_mayBe_43 (lv_at hl 6 rfl) ?_
        refine lv_iadd hx hb dX4_mayBe_45 ?_
        have e45 := a_toInt (a := p4) (b := v6_6) (by omega) (by omega)
        have g46 : vp_in (p4 + v6_6) 360 := vpi (by omega) (by omega)
        refine r_iald (cA := ad 100) (N := 360) S hK w (k := 16) (by decide) (fun f => rfl) rfl g46 dX4_mayBe_46 ?_
        refine call0i (va_runS (As := [.int (f_X4_fades σ p1 v6_6 (8 * (f_X4_strong σ p1 v6_6)) (p2 + (p2 * p3))), .int (σ 16 (ix (p4 + v6_6)))]) (rest := [.int v5_6]) S (c_X4_off l (f_X4_fades σ p1 v6_6 (8 * (f_X4_strong σ p1 v6_6)) (p2 + (p2 * p3))) (σ 16 (ix (p4 + v6_6)))) (va_cwS 2 S.2.2.2.2 gX4_mayBe_X4_off rfl rfl rfl hd_X4_off ⟨Nat.le_of_ble_eq_true rfl, Nat.le_of_ble_eq_true rfl⟩) pre0S rfl rfl hl.1 rfl (lv_room (Nat.le_of_ble_eq_true rfl)) dX4_mayBe_47 ⟨Nat.zero_le _, Nat.zero_le _⟩) ?_
        refine lv_iadd hx hb dX4_mayBe_50 ?_
        refine lv_istore (lv' := [(5, .int (v5_6 + (f_X4_off (f_X4_fades σ p1 v6_6 (8 * (f_X4_strong σ p1 v6_6)) (p2 + (p2 * p3))) (σ 16 (ix (p4 + v6_6)))))), (0, .ref (ad 0)), (1, .int p1), (2, .int p2), (3, .int p3), (4, .int p4), (6, .int v6_6)]) hx hb dX4_mayBe_51 hl (by decide) rfl (fun ls hl => ?_)
        refine lv_iinc (v := (v6_6 + 1)) (lv' := [(6, .int (v6_6 + 1)), (5, .int (v5_6 + (f_X4_off (f_X4_fades σ p1 v6_6 (8 * (f_X4_strong σ p1 v6_6)) (p2 + (p2 * p3))) (σ 16 (ix (p4 + v6_6)))))), (0, .ref (ad 0)), (1, .int p1), (2, .int p2), (3, .int p3), (4, .int p4)]) hx hb dX4_mayBe_53 hl (k := 6) rfl rfl (by decide) rfl (fun ls hl => ?_)
        refine lv_goto (tgt := 6) hx hb dX4_mayBe_56 (by decide) ?_
        have b6_6 : (v6_6 + 1).toInt = v6_6.toInt + 1 := inc_toInt (by omega) (by omega)
        exact ih6 _ (v5_6 + (f_X4_off (f_X4_fades σ p1 v6_6 (8 * (f_X4_strong σ p1 v6_6)) (p2 + (p2 * p3))) (σ 16 (ix (p4 + v6_6))))) (v6_6 + 1) (by omega) (by omega) hG hex6 ls (lv_sub hl [2, 3, 4, 5, 6, 1, 0] rfl)
  refine L6 200 _ 0 0 (by omega) (by omega) rfl (fun v5_6e hr6 ls hl => ?_) ls (lv_sub hl [2, 3, 4, 5, 6, 1, 0] rfl)
  rw [hr6] at hG
  refine lv_iload hx hb dX4_mayBe_59 (lv_at hl 1 rfl) ?_
  refine lv_aload_n hx hb dX4_mayBe_61 rfl (lv_at hl 0 rfl) ?_
  refine r_get (C := RX4) (T := TX4) (N := 25) S hK w (k := 0) (by decide) (eM_0 ad _) rfl hinX4 3 (by decide) (List.mem_of_getElem? (i := 2) rfl) rfl dX4_mayBe_62 ?_
  refine lv_icmp_gt (tgt := 72) hx hb dX4_mayBe_65 (by decide) (fun c65 => ?_) (fun c65 => ?_)
  · have t65 : (σ 0 3).toInt < v5_6e.toInt := qt_lt c65
    rw [if_pos c65] at hG
    refine lv_iconst (v := 0) hx hb dX4_mayBe_72 (by decide) ?_
    exact end0z S hr hlocks (Or.inl rfl) hG dX4_mayBe_73
  · have t65 : v5_6e.toInt ≤ (σ 0 3).toInt := qt_nlt c65
    rw [if_neg c65] at hG
    refine lv_iconst (v := 1) hx hb dX4_mayBe_68 (by decide) ?_
    refine lv_goto (tgt := 73) hx hb dX4_mayBe_69 (by decide) ?_
    exact end0z S hr hlocks (Or.inr rfl) hG dX4_mayBe_73
set_option maxHeartbeats 4000000 in
set_option maxRecDepth 100000 in
theorem c_X4_laysHours (l : Launch) (ad : Nat → Nat) (D : va_G) (sz : Nat) (σ : St) (p1 : Int32) (p2 : Int32) (hok : OkM σ) (hfb : 0 ≤ p2.toInt ∧ p2.toInt + 9 ≤ 360) : Met l yX4_laysHours wsX4_laysHours ({ frames := 2, cells := 0, slots := 0, locals := 53 }) (PreW 18 (eM ad) ad D (tyM ad) σ sz ([.ref (ad 0), .int p1, .int p2] : List Value)) (QWi 18 (eM ad) ad D (f_X4_laysHours σ p1 p2) (CA 18 ad sz)) 0 0 (CA 18 ad sz) := by
  generalize hG : f_X4_laysHours σ p1 p2 = T
  refine headW (cc := cX4_laysHours) (maxL := 6) (ret := (some .boolean)) ([.ref (ad 0), .int p1, .int p2] : List Value) (by decide) rfl (Nat.le_of_ble_eq_true rfl) ?_
  intro p e s m below meth c S hr hlocks hK hN hsz w ls hl
  have S : CallFix p m c cX4_laysHours 6 s ([.ref (ad 0), .int p1, .int p2] : List Value).toArray wsX4_laysHours RX4 := S
  have hx := S.1
  have hb := S.2.1
  have z0 : (0 : Int32).toInt = 0 := by decide
  have z1 : (1 : Int32).toInt = 1 := by decide
  have hl : lv_has ls 6 [(0, .ref (ad 0)), (1, .int p1), (2, .int p2)] := hl
  have hinX4 : ∀ w ∈ wsX40, w ∈ wsX4_laysHours := (fun _ h => List.mem_cons_of_mem _ (List.mem_append_right _ h))
  have okf0 := hok.1
  have okf1 := hok.2.1
  have okf2 := hok.2.2.1
  have okf3 := hok.2.2.2.1
  have okf4 := hok.2.2.2.2.1
  have okf6 := hok.2.2.2.2.2.1
  have okf7 := hok.2.2.2.2.2.2.1
  have okf8 := hok.2.2.2.2.2.2.2
  rw [f_X4_laysHours] at hG
  refine lv_iload_n hx hb dX4_laysHours_0 rfl (lv_at hl 1 rfl) ?_
  refine lv_i2l hx hb dX4_laysHours_1 rfl ?_
  refine lv_lconst (v := 0) hx hb dX4_laysHours_2 (by decide) ?_
  refine lv_ldc2 hx hb S.2.2.2.1 (S.2.2.2.2 _ (List.mem_of_getElem? (i := 1) rfl)) dX4_laysHours_3 ?_
  refine call0i (va_runS (As := [.long p1.toInt64, .long 0, .long 3]) (rest := []) S (c_X4_in l p1.toInt64 0 3) (va_cwS 3 S.2.2.2.2 gX4_laysHours_X4_in rfl rfl rfl hd_X4_in ⟨Nat.le_of_ble_eq_true rfl, Nat.le_of_ble_eq_true rfl⟩) pre0S rfl rfl hl.1 rfl (lv_room (Nat.le_of_ble_eq_true rfl)) dX4_laysHours_6 ⟨Nat.zero_le _, Nat.zero_le _⟩) ?_
  refine lv_istore_n (lv' := [(3, .int (f_X4_in p1.toInt64 0 3)), (0, .ref (ad 0)), (1, .int p1), (2, .int p2)]) hx hb dX4_laysHours_9 rfl hl (by decide) rfl (fun ls hl => ?_)
  refine lv_iconst (v := 0) hx hb dX4_laysHours_10 (by decide) ?_
  refine lv_istore (lv' := [(4, .int 0), (3, .int (f_X4_in p1.toInt64 0 3)), (0, .ref (ad 0)), (1, .int p1), (2, .int p2)]) hx hb dX4_laysHours_11 hl (by decide) rfl (fun ls hl => ?_)
  have L13 : ∀ (n : Nat) (res13 : Int32), ∀ (v3_13 : Int32), ∀ (v4_13 : Int32), ((0 ≤ v4_13.toInt ∧ v4_13.toInt ≤ 9) ∧ (v3_13 = 0 ∨ v3_13 = 1) ∧ (v3_13 = 0 ∨ (0 ≤ p1.toInt ∧ p1.toInt ≤ 3))) → (9 - v4_13.toInt).toNat < n → (lp_X4_laysHours_13 σ p1 p2 n v3_13 v4_13) = res13 → (∀ (v3_13e : Int32), (v3_13e = 0 ∨ v3_13e = 1) → (v3_13e = 0 ∨ (0 ≤ p1.toInt ∧ p1.toInt ≤ 3)) → res13 = v3_13e → ∀ (H : Heap) (locs : List Loc), CW 18 (eM ad) ad D (CA 18 ad sz) s.heap σ H locs → ∀ ls : Array Slot, lv_has ls 6 [(0, .ref (ad 0)), (1, .int p1), (2, .int p2), (3, .int v3_13e)] → W p l e (headSpec wsX4_laysHours ({ frames := 2, cells := 0, slots := 0, locals := 53 })).room s m ([.ref (ad 0), .int p1, .int p2] : List Value).toArray below meth c H locs 0 0 (MQ below (QWi 18 (eM ad) ad D T (CA 18 ad sz)) ([.ref (ad 0), .int p1, .int p2] : List Value).toArray s 0 0 (CA 18 ad sz)) (F0 m 56 ls [])) → ∀ (H : Heap) (locs : List Loc), CW 18 (eM ad) ad D (CA 18 ad sz) s.heap σ H locs → ∀ ls : Array Slot, lv_has ls 6 [(0, .ref (ad 0)), (1, .int p1), (2, .int p2), (3, .int v3_13), (4, .int v4_13)] → W p l e (headSpec wsX4_laysHours ({ frames := 2, cells := 0, slots := 0, locals := 53 })).room s m ([.ref (ad 0), .int p1, .int p2] : List Value).toArray below meth c H locs 0 0 (MQ below (QWi 18 (eM ad) ad D T (CA 18 ad sz)) ([.ref (ad 0), .int p1, .int p2] : List Value).toArray s 0 0 (CA 18 ad sz)) (F0 m 13 ls []) := by
    intro n
    induction n with
    | zero => intro _ _ _ _ hm; exact absurd hm (Nat.not_lt_zero _)
    | succ n ih13 =>
      intro res13 v3_13 v4_13 hI13 hm13 hG hex13 H locs w ls hl
      obtain ⟨i13_0, i13_1, i13_2⟩ := id hI13
      rw [lp_X4_laysHours_13] at hG
      refine lv_iload hx hb dX4_laysHours_13 (lv_at hl 4 rfl) ?_
      refine lv_bipush (v := 9) hx hb dX4_laysHours_15 (by decide) ?_
      refine lv_icmp_ge (tgt := 56) hx hb dX4_laysHours_17 (by decide) (fun c17 => ?_) (fun c17 => ?_)
      · have t17 : 9 ≤ v4_13.toInt := qt_le c17
        rw [if_pos c17] at hG
        exact hex13 v3_13 i13_1 i13_2 hG.symm _ _ w ls (lv_sub hl [0, 1, 2, 3] rfl)
      · have t17 : v4_13.toInt < 9 := qt_nle c17
        rw [if_neg c17] at hG
        refine lv_iload_n hx hb dX4_laysHours_20 rfl (lv_at hl 3 rfl) ?_
        refine lv_if_eq (tgt := 48) hx hb dX4_laysHours_21 (by decide) (fun c21 => ?_) (fun c21 => ?_)
        · have t21 : v3_13.toInt = 0 := qt_eq c21
          rw [if_pos c21] at hG
          refine lv_iconst (v := 0) hx hb dX4_laysHours_48 (by decide) ?_
          refine lv_istore_n (lv' := [(3, .int 0), (0, .ref (ad 0)), (1, .int p1), (2, .int p2), (4, .int v4_13)]) hx hb dX4_laysHours_49 rfl hl (by decide) rfl (fun ls hl => ?_)
          refine lv_iinc (v := (v4_13 + 1)) (lv' := [(4, .int (v4_13 + 1)), (3, .int 0), (0, .ref (ad 0)), (1, .int p1), (2, .int p2)]) hx hb dX4_laysHours_50 hl (k := 4) rfl rfl (by decide) rfl (fun ls hl => ?_)
          refine lv_goto (tgt := 13) hx hb dX4_laysHours_53 (by decide) ?_
          have b4_13 : (v4_13 + 1).toInt = v4_13.toInt + 1 := inc_toInt (by omega) (by omega)
          exact ih13 _ 0 (v4_13 + 1) ⟨(by omega), (by first | exact Or.inl rfl | exact Or.inr rfl), (by first | exact Or.inl rfl | exact Or.inr (i13_2.resolve_left c21))⟩ (by omega) hG hex13 _ _ w ls (lv_sub hl [2, 3, 4, 1, 0] rfl)
        · have t21 : v3_13.toInt ≠ 0 := qt_ne c21
          rw [if_neg c21] at hG
          refine lv_aload_n hx hb dX4_laysHours_24 rfl (lv_at hl 0 rfl) ?_
          refine r_get (C := RX4) (T := TX4) (N := 25) S hK w (k := 0) (by decide) (eM_0 ad _) rfl hinX4 22 (by decide) (List.mem_of_getElem? (i := 2) rfl) rfl dX4_laysHours_25 ?_
          refine lv_iload_n hx hb dX4_laysHours_28 rfl (lv_at hl 2 rfl) ?_
          refine lv_iload hx hb dX4_laysHours_29 (lv_at hl 4 rfl) ?_
          refine lv_iadd hx hb dX4_laysHours_31 ?_
          have e31 := a_toInt (a := p2) (b := v4_13) (by omega) (by omega)
          have g32 : vp_in (p2 + v4_13) 360 := vpi (by omega) (by omega)
          refine r_iald (cA := ad 100) (N := 360) S hK w (k := 16) (by decide) (fun f => rfl) rfl g32 dX4_laysHours_32 ?_
          refine lv_i2l hx hb dX4_laysHours_33 rfl ?_
          refine lv_lconst (v := 0) hx hb dX4_laysHours_34 (by decide) ?_
          refine lv_ldc2 hx hb S.2.2.2.1 (S.2.2.2.2 _ (List.mem_of_getElem? (i := 3) rfl)) dX4_laysHours_35 ?_
          refine call0i (va_runS (As := [.long ((σ 16 (ix (p2 + v4_13))).toInt64), .long 0, .long 99]) (rest := []) S (c_X4_in l ((σ 16 (ix (p2 + v4_13))).toInt64) 0 99) (va_cwS 3 S.2.2.2.2 gX4_laysHours_X4_in rfl rfl rfl hd_X4_in ⟨Nat.le_of_ble_eq_true rfl, Nat.le_of_ble_eq_true rfl⟩) pre0S rfl rfl hl.1 rfl (lv_room (Nat.le_of_ble_eq_true rfl)) dX4_laysHours_38 ⟨Nat.zero_le _, Nat.zero_le _⟩) ?_
          refine lv_if_eq (tgt := 48) hx hb dX4_laysHours_41 (by decide) (fun c41 => ?_) (fun c41 => ?_)
          · rw [if_pos c41] at hG
            refine lv_iconst (v := 0) hx hb dX4_laysHours_48 (by decide) ?_
            refine lv_istore_n (lv' := [(3, .int 0), (0, .ref (ad 0)), (1, .int p1), (2, .int p2), (4, .int v4_13)]) hx hb dX4_laysHours_49 rfl hl (by decide) rfl (fun ls hl => ?_)
            refine lv_iinc (v := (v4_13 + 1)) (lv' := [(4, .int (v4_13 + 1)), (3, .int 0), (0, .ref (ad 0)), (1, .int p1), (2, .int p2)]) hx hb dX4_laysHours_50 hl (k := 4) rfl rfl (by decide) rfl (fun ls hl => ?_)
            refine lv_goto (tgt := 13) hx hb dX4_laysHours_53 (by decide) ?_
            have b4_13 : (v4_13 + 1).toInt = v4_13.toInt + 1 := inc_toInt (by omega) (by omega)
            exact ih13 _ 0 (v4_13 + 1) ⟨(by omega), (by first | exact Or.inl rfl | exact Or.inr rfl), (by first | exact Or.inl rfl | exact Or.inr (i13_2.resolve_left c21))⟩ (by omega) hG hex13 _ _ w ls (lv_sub hl [2, 3, 4, 1, 0] rfl)
          · have t41 := bf_in_n c41
            rw [if_neg c41] at hG
            refine lv_iconst (v := 1) hx hb dX4_laysHours_44 (by decide) ?_
            refine lv_goto (tgt := 49) hx hb dX4_laysHours_45 (by decide) ?_
            refine lv_istore_n (lv' := [(3, .int 1), (0, .ref (ad 0)), (1, .int p1), (2, .int p2), (4, .int v4_13)]) hx hb dX4_laysHours_49 rfl hl (by decide) rfl (fun ls hl => ?_)
            refine lv_iinc (v := (v4_13 + 1)) (lv' := [(4, .int (v4_13 + 1)), (3, .int 1), (0, .ref (ad 0)), (1, .int p1), (2, .int p2)]) hx hb dX4_laysHours_50 hl (k := 4) rfl rfl (by decide) rfl (fun ls hl => ?_)
            refine lv_goto (tgt := 13) hx hb dX4_laysHours_53 (by decide) ?_
            have b4_13 : (v4_13 + 1).toInt = v4_13.toInt + 1 := inc_toInt (by omega) (by omega)
            exact ih13 _ 1 (v4_13 + 1) ⟨(by omega), (by first | exact Or.inl rfl | exact Or.inr rfl), (by first | exact Or.inl rfl | exact Or.inr (i13_2.resolve_left c21))⟩ (by omega) hG hex13 _ _ w ls (lv_sub hl [2, 3, 4, 1, 0] rfl)
  refine L13 200 _ (f_X4_in p1.toInt64 0 3) 0 ⟨(by omega), bo_X4_in, in3_or⟩ (by omega) rfl (fun v3_13e x13_0 x13_1 hr13 H locs w ls hl => ?_) _ _ w ls (lv_sub hl [2, 3, 4, 1, 0] rfl)
  rw [hr13] at hG
  refine lv_iconst (v := 0) hx hb dX4_laysHours_56 (by decide) ?_
  refine lv_istore (lv' := [(4, .int 0), (0, .ref (ad 0)), (1, .int p1), (2, .int p2), (3, .int v3_13e)]) hx hb dX4_laysHours_57 hl (by decide) rfl (fun ls hl => ?_)
  have L59 : ∀ (n : Nat) (res59 : St), ∀ (v4_59 : Int32), ∀ (S_59 : St), ((OkM S_59) ∧ (0 ≤ v4_59.toInt ∧ v4_59.toInt ≤ 8)) → (8 - v4_59.toInt).toNat < n → (lp_X4_laysHours_59 p1 p2 v3_13e n v4_59 S_59) = res59 → (∀ (S_59e : St), (OkM S_59e) → res59 = S_59e → ∀ (H : Heap) (locs : List Loc), CW 18 (eM ad) ad D (CA 18 ad sz) s.heap S_59e H locs → ∀ ls : Array Slot, lv_has ls 6 [(0, .ref (ad 0)), (3, .int v3_13e)] → W p l e (headSpec wsX4_laysHours ({ frames := 2, cells := 0, slots := 0, locals := 53 })).room s m ([.ref (ad 0), .int p1, .int p2] : List Value).toArray below meth c H locs 0 0 (MQ below (QWi 18 (eM ad) ad D T (CA 18 ad sz)) ([.ref (ad 0), .int p1, .int p2] : List Value).toArray s 0 0 (CA 18 ad sz)) (F0 m 130 ls [])) → ∀ (H : Heap) (locs : List Loc), CW 18 (eM ad) ad D (CA 18 ad sz) s.heap S_59 H locs → ∀ ls : Array Slot, lv_has ls 6 [(0, .ref (ad 0)), (1, .int p1), (2, .int p2), (3, .int v3_13e), (4, .int v4_59)] → W p l e (headSpec wsX4_laysHours ({ frames := 2, cells := 0, slots := 0, locals := 53 })).room s m ([.ref (ad 0), .int p1, .int p2] : List Value).toArray below meth c H locs 0 0 (MQ below (QWi 18 (eM ad) ad D T (CA 18 ad sz)) ([.ref (ad 0), .int p1, .int p2] : List Value).toArray s 0 0 (CA 18 ad sz)) (F0 m 59 ls []) := by
    intro n
    induction n with
    | zero => intro _ _ _ _ hm; exact absurd hm (Nat.not_lt_zero _)
    | succ n ih59 =>
      intro res59 v4_59 S_59 hI59 hm59 hG hex59 H locs w ls hl
      obtain ⟨hok, i59_1⟩ := id hI59
      have okf0 := hok.1
      have okf1 := hok.2.1
      have okf2 := hok.2.2.1
      have okf3 := hok.2.2.2.1
      have okf4 := hok.2.2.2.2.1
      have okf6 := hok.2.2.2.2.2.1
      have okf7 := hok.2.2.2.2.2.2.1
      have okf8 := hok.2.2.2.2.2.2.2
      rw [lp_X4_laysHours_59] at hG
      refine lv_iload hx hb dX4_laysHours_59 (lv_at hl 4 rfl) ?_
      refine lv_aload_n hx hb dX4_laysHours_61 rfl (lv_at hl 0 rfl) ?_
      refine r_get (C := RX4) (T := TX4) (N := 25) S hK w (k := 0) (by decide) (eM_0 ad _) rfl hinX4 1 (by decide) (List.mem_of_getElem? (i := 4) rfl) rfl dX4_laysHours_62 ?_
      refine lv_icmp_ge (tgt := 130) hx hb dX4_laysHours_65 (by decide) (fun c65 => ?_) (fun c65 => ?_)
      · have t65 : (S_59 0 1).toInt ≤ v4_59.toInt := qt_le c65
        rw [if_pos c65] at hG
        exact hex59 S_59 hok hG.symm _ _ w ls (lv_sub hl [0, 3] rfl)
      · have t65 : v4_59.toInt < (S_59 0 1).toInt := qt_nle c65
        rw [if_neg c65] at hG
        refine lv_iload_n hx hb dX4_laysHours_68 rfl (lv_at hl 3 rfl) ?_
        refine lv_if_eq (tgt := 130) hx hb dX4_laysHours_69 (by decide) (fun c69 => ?_) (fun c69 => ?_)
        · have t69 : v3_13e.toInt = 0 := qt_eq c69
          rw [if_pos c69] at hG
          exact hex59 S_59 hok hG.symm _ _ w ls (lv_sub hl [0, 3] rfl)
        · have t69 : v3_13e.toInt ≠ 0 := qt_ne c69
          rw [if_neg c69] at hG
          have hw := x13_1.resolve_left c69
          refine lv_aload_n hx hb dX4_laysHours_72 rfl (lv_at hl 0 rfl) ?_
          refine r_get (C := RX4) (T := TX4) (N := 25) S hK w (k := 0) (by decide) (eM_0 ad _) rfl hinX4 19 (by decide) (List.mem_of_getElem? (i := 5) rfl) rfl dX4_laysHours_73 ?_
          refine lv_iload hx hb dX4_laysHours_76 (lv_at hl 4 rfl) ?_
          refine lv_iconst (v := 0) hx hb dX4_laysHours_78 (by decide) ?_
          have g79 : vp_in v4_59 8 := vpi (by omega) (by omega)
          refine r_iast (cA := ad 100) (N := 8) S hK w (k := 13) (by decide) (fun f => rfl) rfl g79 dX4_laysHours_79 (fun H locs w => ?_)
          have hok : OkM (u2 S_59 13 (ix v4_59) 0) := okM_scr (show scrM 13 by unfold scrM; omega) hok
          have okf0 := hok.1
          have okf1 := hok.2.1
          have okf2 := hok.2.2.1
          have okf3 := hok.2.2.2.1
          have okf4 := hok.2.2.2.2.1
          have okf6 := hok.2.2.2.2.2.1
          have okf7 := hok.2.2.2.2.2.2.1
          have okf8 := hok.2.2.2.2.2.2.2
          refine lv_iconst (v := 0) hx hb dX4_laysHours_80 (by decide) ?_
          refine lv_istore (lv' := [(5, .int 0), (0, .ref (ad 0)), (1, .int p1), (2, .int p2), (3, .int v3_13e), (4, .int v4_59)]) hx hb dX4_laysHours_81 hl (by decide) rfl (fun ls hl => ?_)
          have L83 : ∀ (n : Nat) (res83 : St), ∀ (v5_83 : Int32), ∀ (S_83 : St), ((OkM S_83) ∧ (0 ≤ v5_83.toInt ∧ v5_83.toInt ≤ 10) ∧ (0 < (S_83 0 1).toInt)) → (10 - v5_83.toInt).toNat < n → (lp_X4_laysHours_83 p1 p2 v3_13e v4_59 n v5_83 S_83) = res83 → (∀ (S_83e : St), (OkM S_83e) → res83 = S_83e → ∀ (H : Heap) (locs : List Loc), CW 18 (eM ad) ad D (CA 18 ad sz) s.heap S_83e H locs → ∀ ls : Array Slot, lv_has ls 6 [(0, .ref (ad 0)), (1, .int p1), (2, .int p2), (3, .int v3_13e), (4, .int v4_59)] → W p l e (headSpec wsX4_laysHours ({ frames := 2, cells := 0, slots := 0, locals := 53 })).room s m ([.ref (ad 0), .int p1, .int p2] : List Value).toArray below meth c H locs 0 0 (MQ below (QWi 18 (eM ad) ad D T (CA 18 ad sz)) ([.ref (ad 0), .int p1, .int p2] : List Value).toArray s 0 0 (CA 18 ad sz)) (F0 m 124 ls [])) → ∀ (H : Heap) (locs : List Loc), CW 18 (eM ad) ad D (CA 18 ad sz) s.heap S_83 H locs → ∀ ls : Array Slot, lv_has ls 6 [(0, .ref (ad 0)), (1, .int p1), (2, .int p2), (3, .int v3_13e), (4, .int v4_59), (5, .int v5_83)] → W p l e (headSpec wsX4_laysHours ({ frames := 2, cells := 0, slots := 0, locals := 53 })).room s m ([.ref (ad 0), .int p1, .int p2] : List Value).toArray below meth c H locs 0 0 (MQ below (QWi 18 (eM ad) ad D T (CA 18 ad sz)) ([.ref (ad 0), .int p1, .int p2] : List Value).toArray s 0 0 (CA 18 ad sz)) (F0 m 83 ls []) := by
            intro n
            induction n with
            | zero => intro _ _ _ _ hm; exact absurd hm (Nat.not_lt_zero _)
            | succ n ih83 =>
              intro res83 v5_83 S_83 hI83 hm83 hG hex83 H locs w ls hl
              obtain ⟨hok, i83_1, i83_2⟩ := id hI83
              have okf0 := hok.1
              have okf1 := hok.2.1
              have okf2 := hok.2.2.1
              have okf3 := hok.2.2.2.1
              have okf4 := hok.2.2.2.2.1
              have okf6 := hok.2.2.2.2.2.1
              have okf7 := hok.2.2.2.2.2.2.1
              have okf8 := hok.2.2.2.2.2.2.2
              rw [lp_X4_laysHours_83] at hG
              refine lv_iload hx hb dX4_laysHours_83 (lv_at hl 5 rfl) ?_
              refine lv_bipush (v := 10) hx hb dX4_laysHours_85 (by decide) ?_
              refine lv_icmp_ge (tgt := 124) hx hb dX4_laysHours_87 (by decide) (fun c87 => ?_) (fun c87 => ?_)
              · have t87 : 10 ≤ v5_83.toInt := qt_le c87
                rw [if_pos c87] at hG
                exact hex83 S_83 hok hG.symm _ _ w ls (lv_sub hl [0, 1, 2, 3, 4] rfl)
              · have t87 : v5_83.toInt < 10 := qt_nle c87
                rw [if_neg c87] at hG
                refine lv_aload_n hx hb dX4_laysHours_90 rfl (lv_at hl 0 rfl) ?_
                refine r_get (C := RX4) (T := TX4) (N := 25) S hK w (k := 0) (by decide) (eM_0 ad _) rfl hinX4 19 (by decide) (List.mem_of_getElem? (i := 5) rfl) rfl dX4_laysHours_91 ?_
                refine lv_iload hx hb dX4_laysHours_94 (lv_at hl 4 rfl) ?_
                refine lv_dup2_11 hx hb dX4_laysHours_96 rfl rfl ?_
                have g97 : vp_in v4_59 8 := vpi (by omega) (by omega)
                refine r_iald (cA := ad 100) (N := 8) S hK w (k := 13) (by decide) (fun f => rfl) rfl g97 dX4_laysHours_97 ?_
                refine lv_aload_n hx hb dX4_laysHours_98 rfl (lv_at hl 0 rfl) ?_
                refine lv_iload hx hb dX4_laysHours_99 (lv_at hl 4 rfl) ?_
                refine lv_iload hx hb dX4_laysHours_101 (lv_at hl 5 rfl) ?_
                refine lv_iload_n hx hb dX4_laysHours_103 rfl (lv_at hl 1 rfl) ?_
                refine lv_iload_n hx hb dX4_laysHours_104 rfl (lv_at hl 2 rfl) ?_
                refine call0i (va_runV (As := [.int v4_59, .int v5_83, .int p1, .int p2]) (rest := [.int (S_83 13 (ix v4_59)), .int v4_59, .ref (ad 13)]) S (c_X4_mayBe l ad D H.size S_83 v4_59 v5_83 p1 p2 hok (by omega) (by omega) (hw_le (by omega) (by omega)) (by omega)) (cwV 4 S.2.2.2.2 gX4_laysHours_X4_mayBe rfl rfl rfl ⟨rfl, hd_X4_mayBe⟩ ⟨Nat.le_of_ble_eq_true rfl, Nat.le_of_ble_eq_true rfl⟩) (preV hK hN w (k := 0) (by decide) (eM_0 ad _) (q := (RX4, TX4, 25)) rfl) rfl rfl hl.1 rfl (lv_room (Nat.le_of_ble_eq_true rfl)) dX4_laysHours_105 ⟨Nat.zero_le _, Nat.zero_le _⟩) ?_
                have J108_116 : ∀ (k3_108_116 : Int32), (lp_X4_laysHours_83 p1 p2 v3_13e v4_59 n (v5_83 + 1) (u2 S_83 13 (ix v4_59) ((S_83 13 (ix v4_59)) + k3_108_116))) = res83 → ∀ (H : Heap) (locs : List Loc), CW 18 (eM ad) ad D (CA 18 ad sz) s.heap S_83 H locs → ∀ ls : Array Slot, lv_has ls 6 [(0, .ref (ad 0)), (1, .int p1), (2, .int p2), (3, .int v3_13e), (4, .int v4_59), (5, .int v5_83)] → W p l e (headSpec wsX4_laysHours ({ frames := 2, cells := 0, slots := 0, locals := 53 })).room s m ([.ref (ad 0), .int p1, .int p2] : List Value).toArray below meth c H locs 0 0 (MQ below (QWi 18 (eM ad) ad D T (CA 18 ad sz)) ([.ref (ad 0), .int p1, .int p2] : List Value).toArray s 0 0 (CA 18 ad sz)) (F0 m 116 ls [.int k3_108_116, .int (S_83 13 (ix v4_59)), .int v4_59, .ref (ad 13)]) := by
                  intro k3_108_116 hG H locs w ls hl
                  refine lv_iadd hx hb dX4_laysHours_116 ?_
                  have g117 : vp_in v4_59 8 := vpi (by omega) (by omega)
                  refine r_iast (cA := ad 100) (N := 8) S hK w (k := 13) (by decide) (fun f => rfl) rfl g117 dX4_laysHours_117 (fun H locs w => ?_)
                  have hok : OkM (u2 S_83 13 (ix v4_59) ((S_83 13 (ix v4_59)) + k3_108_116)) := okM_scr (show scrM 13 by unfold scrM; omega) hok
                  have okf0 := hok.1
                  have okf1 := hok.2.1
                  have okf2 := hok.2.2.1
                  have okf3 := hok.2.2.2.1
                  have okf4 := hok.2.2.2.2.1
                  have okf6 := hok.2.2.2.2.2.1
                  have okf7 := hok.2.2.2.2.2.2.1
                  have okf8 := hok.2.2.2.2.2.2.2
                  refine lv_iinc (v := (v5_83 + 1)) (lv' := [(5, .int (v5_83 + 1)), (0, .ref (ad 0)), (1, .int p1), (2, .int p2), (3, .int v3_13e), (4, .int v4_59)]) hx hb dX4_laysHours_118 hl (k := 5) rfl rfl (by decide) rfl (fun ls hl => ?_)
                  refine lv_goto (tgt := 83) hx hb dX4_laysHours_121 (by decide) ?_
                  have b5_83 : (v5_83 + 1).toInt = v5_83.toInt + 1 := inc_toInt (by omega) (by omega)
                  exact ih83 _ (v5_83 + 1) (u2 S_83 13 (ix v4_59) ((S_83 13 (ix v4_59)) + k3_108_116)) ⟨hok, (by omega), (by rw [u2_o (by omega)]; exact i83_2)⟩ (by omega) hG hex83 _ _ w ls (lv_sub hl [1, 2, 3, 4, 5, 0] rfl)
                refine lv_if_eq (tgt := 115) hx hb dX4_laysHours_108 (by decide) (fun c108 => ?_) (fun c108 => ?_)
                · simp only [if_pos c108] at hG
                  refine lv_iconst (v := 0) hx hb dX4_laysHours_115 (by decide) ?_
                  exact J108_116 0 hG _ _ w ls (lv_sub hl [0, 1, 2, 3, 4, 5] rfl)
                · simp only [if_neg c108] at hG
                  refine lv_iconst (v := 1) hx hb dX4_laysHours_111 (by decide) ?_
                  refine lv_goto (tgt := 116) hx hb dX4_laysHours_112 (by decide) ?_
                  exact J108_116 1 hG _ _ w ls (lv_sub hl [0, 1, 2, 3, 4, 5] rfl)
          refine L83 200 _ 0 (u2 S_59 13 (ix v4_59) 0) ⟨hok, (by omega), (by rw [u2_o (by omega)]; omega)⟩ (by omega) rfl (fun S_83e hok hr83 H locs w ls hl => ?_) _ _ w ls (lv_sub hl [1, 2, 3, 4, 5, 0] rfl)
          rw [hr83] at hG
          have okf0 := hok.1
          have okf1 := hok.2.1
          have okf2 := hok.2.2.1
          have okf3 := hok.2.2.2.1
          have okf4 := hok.2.2.2.2.1
          have okf6 := hok.2.2.2.2.2.1
          have okf7 := hok.2.2.2.2.2.2.1
          have okf8 := hok.2.2.2.2.2.2.2
          refine lv_iinc (v := (v4_59 + 1)) (lv' := [(4, .int (v4_59 + 1)), (0, .ref (ad 0)), (1, .int p1), (2, .int p2), (3, .int v3_13e)]) hx hb dX4_laysHours_124 hl (k := 4) rfl rfl (by decide) rfl (fun ls hl => ?_)
          refine lv_goto (tgt := 59) hx hb dX4_laysHours_127 (by decide) ?_
          have b4_59 : (v4_59 + 1).toInt = v4_59.toInt + 1 := inc_toInt (by omega) (by omega)
          exact ih59 _ (v4_59 + 1) S_83e ⟨hok, (by omega)⟩ (by omega) hG hex59 _ _ w ls (lv_sub hl [1, 2, 3, 4, 0] rfl)
  refine L59 200 _ 0 σ ⟨hok, (by omega)⟩ (by omega) rfl (fun S_59e hok hr59 H locs w ls hl => ?_) _ _ w ls (lv_sub hl [1, 2, 3, 4, 0] rfl)
  rw [hr59] at hG
  have okf0 := hok.1
  have okf1 := hok.2.1
  have okf2 := hok.2.2.1
  have okf3 := hok.2.2.2.1
  have okf4 := hok.2.2.2.2.1
  have okf6 := hok.2.2.2.2.2.1
  have okf7 := hok.2.2.2.2.2.2.1
  have okf8 := hok.2.2.2.2.2.2.2
  refine lv_iload_n hx hb dX4_laysHours_130 rfl (lv_at hl 1 rfl) ?_
  exact endWz S hr hlocks w x13_0 hG dX4_laysHours_131
set_option maxHeartbeats 4000000 in
set_option maxRecDepth 100000 in
theorem c_X4_odds (l : Launch) (ad : Nat → Nat) (D : va_G) (sz : Nat) (σ : St) (p1 : Int32) (p2 : Int32) (p3 : Int32) (p4 : Int32) (p5 : Int32) (p6 : Int32) (hok : OkM σ) : Met l yX4_odds wsX4_odds ({ frames := 3, cells := 0, slots := 0, locals := 78 }) (PreW 18 (eM ad) ad D (tyM ad) σ sz ([.ref (ad 0), .int p1, .int p2, .int p3, .int p4, .int p5, .int p6] : List Value)) (QWl 18 (eM ad) ad D (f_X4_odds σ p1 p2 p3 p4 p5 p6) (CA 18 ad sz)) 0 0 (CA 18 ad sz) := by
  generalize hG : f_X4_odds σ p1 p2 p3 p4 p5 p6 = T
  refine headW (cc := cX4_odds) (maxL := 10) (ret := (some .long)) ([.ref (ad 0), .int p1, .int p2, .int p3, .int p4, .int p5, .int p6] : List Value) (by decide) rfl (Nat.le_of_ble_eq_true rfl) ?_
  intro p e s m below meth c S hr hlocks hK hN hsz w ls hl
  have S : CallFix p m c cX4_odds 10 s ([.ref (ad 0), .int p1, .int p2, .int p3, .int p4, .int p5, .int p6] : List Value).toArray wsX4_odds RX4 := S
  have hx := S.1
  have hb := S.2.1
  have z0 : (0 : Int32).toInt = 0 := by decide
  have z1 : (1 : Int32).toInt = 1 := by decide
  have hl : lv_has ls 10 [(0, .ref (ad 0)), (1, .int p1), (2, .int p2), (3, .int p3), (4, .int p4), (5, .int p5), (6, .int p6)] := hl
  have hinX4 : ∀ w ∈ wsX40, w ∈ wsX4_odds := (fun _ h => List.mem_cons_of_mem _ (List.mem_append_right _ h))
  have okf0 := hok.1
  have okf1 := hok.2.1
  have okf2 := hok.2.2.1
  have okf3 := hok.2.2.2.1
  have okf4 := hok.2.2.2.2.1
  have okf6 := hok.2.2.2.2.2.1
  have okf7 := hok.2.2.2.2.2.2.1
  have okf8 := hok.2.2.2.2.2.2.2
  rw [f_X4_odds] at hG
  refine lv_aload_n hx hb dX4_odds_0 rfl (lv_at hl 0 rfl) ?_
  refine lv_iload_n hx hb dX4_odds_1 rfl (lv_at hl 1 rfl) ?_
  refine call0i (va_runV (As := [.int p1]) (rest := []) S (c_X4_noSign l ad D s.heap.size σ p1) (cwV 1 S.2.2.2.2 gX4_odds_X4_noSign rfl rfl rfl ⟨rfl, hd_X4_noSign⟩ ⟨Nat.le_of_ble_eq_true rfl, Nat.le_of_ble_eq_true rfl⟩) (preV hK hN w (k := 0) (by decide) (eM_0 ad _) (q := (RX4, TX4, 25)) rfl) rfl rfl hl.1 rfl (lv_room (Nat.le_of_ble_eq_true rfl)) dX4_odds_2 ⟨Nat.zero_le _, Nat.zero_le _⟩) ?_
  refine lv_if_eq (tgt := 18) hx hb dX4_odds_5 (by decide) (fun c5 => ?_) (fun c5 => ?_)
  · have t5 := bf_noSign_z c5
    rw [if_pos c5] at hG
    refine lv_aload_n hx hb dX4_odds_18 rfl (lv_at hl 0 rfl) ?_
    refine lv_iload_n hx hb dX4_odds_19 rfl (lv_at hl 3 rfl) ?_
    refine lv_iload hx hb dX4_odds_20 (lv_at hl 4 rfl) ?_
    refine lv_iload hx hb dX4_odds_22 (lv_at hl 5 rfl) ?_
    refine lv_ldc2 hx hb S.2.2.2.1 (S.2.2.2.2 _ (List.mem_of_getElem? (i := 1) rfl)) dX4_odds_24 ?_
    have ok3 := okf3
    refine callWi w (va_runV (As := [.int p3, .int p4, .int p5, .long 9]) (rest := []) S (c_X4_barred l ad D s.heap.size σ p3 p4 p5 9) (cwV 4 S.2.2.2.2 gX4_odds_X4_barred rfl rfl rfl ⟨rfl, hd_X4_barred⟩ ⟨Nat.le_of_ble_eq_true rfl, Nat.le_of_ble_eq_true rfl⟩) (preV hK hN w (k := 0) (by decide) (eM_0 ad _) (q := (RX4, TX4, 25)) rfl) rfl rfl hl.1 rfl (lv_room (Nat.le_of_ble_eq_true rfl)) dX4_odds_27 ⟨Nat.zero_le _, Nat.zero_le _⟩) (fun H locs w => ?_)
    have hok : OkM ((f_X4_barred σ p3 p4 p5 9).2) := ok_X4_barred hok
    have okf0 := hok.1
    have okf1 := hok.2.1
    have okf2 := hok.2.2.1
    have okf3 := hok.2.2.2.1
    have okf4 := hok.2.2.2.2.1
    have okf6 := hok.2.2.2.2.2.1
    have okf7 := hok.2.2.2.2.2.2.1
    have okf8 := hok.2.2.2.2.2.2.2
    refine lv_istore (lv' := [(7, .int ((f_X4_barred σ p3 p4 p5 9).1)), (0, .ref (ad 0)), (1, .int p1), (2, .int p2), (3, .int p3), (4, .int p4), (5, .int p5), (6, .int p6)]) hx hb dX4_odds_30 hl (by decide) rfl (fun ls hl => ?_)
    refine lv_iload hx hb dX4_odds_32 (lv_at hl 0 rfl) ?_
    refine lv_if_ge (tgt := 41) hx hb dX4_odds_34 (by decide) (fun c34 => ?_) (fun c34 => ?_)
    · have t34 : 0 ≤ ((f_X4_barred σ p3 p4 p5 9).1).toInt := qt_le c34
      rw [if_pos c34] at hG
      have z := br_z c34
      have z9 : (9 : Int64).toInt = 9 := by decide
      have z3 := ok3 (ix p3) (vpl (vpi (by omega) (by omega)))
      have e51 := km_toInt (a := p3) (k := 90) (z := 90) (by decide) (by omega) (by omega)
      have e54 := a_toInt (a := 90 * p3) (b := p5) (by omega) (by omega)
      refine lv_aload_n hx hb dX4_odds_41 rfl (lv_at hl 1 rfl) ?_
      refine lv_iconst (v := 0) hx hb dX4_odds_42 (by decide) ?_
      refine r_put (C := RX4) (T := TX4) (N := 25) S hK w (k := 0) (by decide) (eM_0 ad _) rfl hinX4 tyX4 tyX4_ok nmX4 0 (by decide) (List.mem_of_getElem? (i := 2) rfl) rfl (x := 0) (ty := .int) (by decide +kernel) rfl rfl (by show _ < List.length _; exact Nat.le_of_ble_eq_true rfl) (sM ad _ _ 0 (by decide)) dX4_odds_43 (fun H locs w => ?_)
      have hok : OkM (u2 ((f_X4_barred σ p3 p4 p5 9).2) 0 0 0) := okM_obj (by decide) hok
      have okf0 := hok.1
      have okf1 := hok.2.1
      have okf2 := hok.2.2.1
      have okf3 := hok.2.2.2.1
      have okf4 := hok.2.2.2.2.1
      have okf6 := hok.2.2.2.2.2.1
      have okf7 := hok.2.2.2.2.2.2.1
      have okf8 := hok.2.2.2.2.2.2.2
      refine lv_aload_n hx hb dX4_odds_46 rfl (lv_at hl 1 rfl) ?_
      refine lv_iload_n hx hb dX4_odds_47 rfl (lv_at hl 3 rfl) ?_
      refine lv_bipush (v := 90) hx hb dX4_odds_48 (by decide) ?_
      refine lv_iload_n hx hb dX4_odds_50 rfl (lv_at hl 4 rfl) ?_
      refine lv_imul hx hb dX4_odds_51 ?_
      refine lv_iload hx hb dX4_odds_52 (lv_at hl 6 rfl) ?_
      refine lv_iadd hx hb dX4_odds_54 ?_
      refine callWi w (va_runV (As := [.int p2, .int ((90 * p3) + p5)]) (rest := []) S (c_X4_laysHours l ad D H.size (u2 ((f_X4_barred σ p3 p4 p5 9).2) 0 0 0) p2 ((90 * p3) + p5) hok (by omega)) (cwV 2 S.2.2.2.2 gX4_odds_X4_laysHours rfl rfl rfl ⟨rfl, hd_X4_laysHours⟩ ⟨Nat.le_of_ble_eq_true rfl, Nat.le_of_ble_eq_true rfl⟩) (preV hK hN w (k := 0) (by decide) (eM_0 ad _) (q := (RX4, TX4, 25)) rfl) rfl rfl hl.1 rfl (lv_room (Nat.le_of_ble_eq_true rfl)) dX4_odds_55 ⟨Nat.zero_le _, Nat.zero_le _⟩) (fun H locs w => ?_)
      have hok : OkM ((f_X4_laysHours (u2 ((f_X4_barred σ p3 p4 p5 9).2) 0 0 0) p2 ((90 * p3) + p5)).2) := ok_X4_laysHours hok
      have okf0 := hok.1
      have okf1 := hok.2.1
      have okf2 := hok.2.2.1
      have okf3 := hok.2.2.2.1
      have okf4 := hok.2.2.2.2.1
      have okf6 := hok.2.2.2.2.2.1
      have okf7 := hok.2.2.2.2.2.2.1
      have okf8 := hok.2.2.2.2.2.2.2
      refine lv_if_eq (tgt := 72) hx hb dX4_odds_58 (by decide) (fun c58 => ?_) (fun c58 => ?_)
      · have t58 : ((f_X4_laysHours (u2 ((f_X4_barred σ p3 p4 p5 9).2) 0 0 0) p2 ((90 * p3) + p5)).1).toInt = 0 := qt_eq c58
        rw [if_pos c58] at hG
        refine call0l (va_runS (As := []) (rest := []) S (c_X4_lost l) (va_cwS 0 S.2.2.2.2 gX4_odds_X4_lost rfl rfl rfl hd_X4_lost ⟨Nat.le_of_ble_eq_true rfl, Nat.le_of_ble_eq_true rfl⟩) pre0S rfl rfl hl.1 rfl (lv_room (Nat.le_of_ble_eq_true rfl)) dX4_odds_72 ⟨Nat.zero_le _, Nat.zero_le _⟩) ?_
        exact endWl S hr hlocks w hG dX4_odds_75
      · have t58 : ((f_X4_laysHours (u2 ((f_X4_barred σ p3 p4 p5 9).2) 0 0 0) p2 ((90 * p3) + p5)).1).toInt ≠ 0 := qt_ne c58
        rw [if_neg c58] at hG
        refine lv_iload hx hb dX4_odds_61 (lv_at hl 7 rfl) ?_
        refine lv_i2l hx hb dX4_odds_63 rfl ?_
        refine lv_lconst (v := 0) hx hb dX4_odds_64 (by decide) ?_
        refine lv_lconst (v := 1) hx hb dX4_odds_65 (by decide) ?_
        refine call0i (va_runS (As := [.long p6.toInt64, .long 0, .long 1]) (rest := []) S (c_X4_in l p6.toInt64 0 1) (va_cwS 3 S.2.2.2.2 gX4_odds_X4_in rfl rfl rfl hd_X4_in ⟨Nat.le_of_ble_eq_true rfl, Nat.le_of_ble_eq_true rfl⟩) pre0S rfl rfl hl.1 rfl (lv_room (Nat.le_of_ble_eq_true rfl)) dX4_odds_66 ⟨Nat.zero_le _, Nat.zero_le _⟩) ?_
        refine lv_if_ne (tgt := 76) hx hb dX4_odds_69 (by decide) (fun c69 => ?_) (fun c69 => ?_)
        · have t69 := bf_in_n c69
          rw [if_neg c69] at hG
          have lh := lh_le hok c58
          have q1 : (((f_X4_laysHours (u2 ((f_X4_barred σ p3 p4 p5 9).2) 0 0 0) p2 ((90 * p3) + p5)).2) 0 1).toInt = (σ 0 1).toInt := by rw [fr_X4_laysHours (by omega), u2_nk (by omega), fo_X4_barred (by omega)]
          refine lv_iconst (v := 0) hx hb dX4_odds_76 (by decide) ?_
          refine lv_istore (lv' := [(8, .int 0), (7, .int ((f_X4_barred σ p3 p4 p5 9).1)), (0, .ref (ad 0)), (1, .int p1), (2, .int p2), (3, .int p3), (4, .int p4), (5, .int p5), (6, .int p6)]) hx hb dX4_odds_77 hl (by decide) rfl (fun ls hl => ?_)
          refine lv_iconst (v := 0) hx hb dX4_odds_79 (by decide) ?_
          refine lv_istore (lv' := [(9, .int 0), (8, .int 0), (7, .int ((f_X4_barred σ p3 p4 p5 9).1)), (0, .ref (ad 0)), (1, .int p1), (2, .int p2), (3, .int p3), (4, .int p4), (5, .int p5), (6, .int p6)]) hx hb dX4_odds_80 hl (by decide) rfl (fun ls hl => ?_)
          have L82 : ∀ (n : Nat) (res82 : Int32), ∀ (v8_82 : Int32), ∀ (v9_82 : Int32), ((0 ≤ v9_82.toInt ∧ v9_82.toInt ≤ 8) ∧ (0 ≤ v8_82.toInt ∧ v8_82.toInt ≤ 10 * v9_82.toInt)) → (8 - v9_82.toInt).toNat < n → (lp_X4_odds_82 ((f_X4_laysHours (u2 ((f_X4_barred σ p3 p4 p5 9).2) 0 0 0) p2 ((90 * p3) + p5)).2) p1 p6 n v8_82 v9_82) = res82 → (∀ (v8_82e : Int32), (0 ≤ v8_82e.toInt ∧ v8_82e.toInt ≤ 80) → res82 = v8_82e → ∀ (H : Heap) (locs : List Loc), CW 18 (eM ad) ad D (CA 18 ad sz) s.heap ((f_X4_laysHours (u2 ((f_X4_barred σ p3 p4 p5 9).2) 0 0 0) p2 ((90 * p3) + p5)).2) H locs → ∀ ls : Array Slot, lv_has ls 10 [(0, .ref (ad 0)), (1, .int p1), (6, .int p6), (8, .int v8_82e)] → W p l e (headSpec wsX4_odds ({ frames := 3, cells := 0, slots := 0, locals := 78 })).room s m ([.ref (ad 0), .int p1, .int p2, .int p3, .int p4, .int p5, .int p6] : List Value).toArray below meth c H locs 0 0 (MQ below (QWl 18 (eM ad) ad D T (CA 18 ad sz)) ([.ref (ad 0), .int p1, .int p2, .int p3, .int p4, .int p5, .int p6] : List Value).toArray s 0 0 (CA 18 ad sz)) (F0 m 109 ls [])) → ∀ (H : Heap) (locs : List Loc), CW 18 (eM ad) ad D (CA 18 ad sz) s.heap ((f_X4_laysHours (u2 ((f_X4_barred σ p3 p4 p5 9).2) 0 0 0) p2 ((90 * p3) + p5)).2) H locs → ∀ ls : Array Slot, lv_has ls 10 [(0, .ref (ad 0)), (1, .int p1), (6, .int p6), (8, .int v8_82), (9, .int v9_82)] → W p l e (headSpec wsX4_odds ({ frames := 3, cells := 0, slots := 0, locals := 78 })).room s m ([.ref (ad 0), .int p1, .int p2, .int p3, .int p4, .int p5, .int p6] : List Value).toArray below meth c H locs 0 0 (MQ below (QWl 18 (eM ad) ad D T (CA 18 ad sz)) ([.ref (ad 0), .int p1, .int p2, .int p3, .int p4, .int p5, .int p6] : List Value).toArray s 0 0 (CA 18 ad sz)) (F0 m 82 ls []) := by
            intro n
            induction n with
            | zero => intro _ _ _ _ hm; exact absurd hm (Nat.not_lt_zero _)
            | succ n ih82 =>
              intro res82 v8_82 v9_82 hI82 hm82 hG hex82 H locs w ls hl
              obtain ⟨i82_0, i82_1⟩ := id hI82
              rw [lp_X4_odds_82] at hG
              refine lv_iload hx hb dX4_odds_82 (lv_at hl 4 rfl) ?_
              refine lv_aload_n hx hb dX4_odds_84 rfl (lv_at hl 0 rfl) ?_
              refine r_get (C := RX4) (T := TX4) (N := 25) S hK w (k := 0) (by decide) (eM_0 ad _) rfl hinX4 1 (by decide) (List.mem_of_getElem? (i := 3) rfl) rfl dX4_odds_85 ?_
              refine lv_icmp_ge (tgt := 109) hx hb dX4_odds_88 (by decide) (fun c88 => ?_) (fun c88 => ?_)
              · have t88 : (((f_X4_laysHours (u2 ((f_X4_barred σ p3 p4 p5 9).2) 0 0 0) p2 ((90 * p3) + p5)).2) 0 1).toInt ≤ v9_82.toInt := qt_le c88
                rw [if_pos c88] at hG
                exact hex82 v8_82 (by omega) hG.symm _ _ w ls (lv_sub hl [0, 1, 2, 3] rfl)
              · have t88 : v9_82.toInt < (((f_X4_laysHours (u2 ((f_X4_barred σ p3 p4 p5 9).2) 0 0 0) p2 ((90 * p3) + p5)).2) 0 1).toInt := qt_nle c88
                rw [if_neg c88] at hG
                refine lv_iload hx hb dX4_odds_91 (lv_at hl 3 rfl) ?_
                refine lv_aload_n hx hb dX4_odds_93 rfl (lv_at hl 0 rfl) ?_
                refine r_get (C := RX4) (T := TX4) (N := 25) S hK w (k := 0) (by decide) (eM_0 ad _) rfl hinX4 19 (by decide) (List.mem_of_getElem? (i := 4) rfl) rfl dX4_odds_94 ?_
                refine lv_iload hx hb dX4_odds_97 (lv_at hl 4 rfl) ?_
                have g99 : vp_in v9_82 8 := vpi (by omega) (by omega)
                refine r_iald (cA := ad 100) (N := 8) S hK w (k := 13) (by decide) (fun f => rfl) rfl g99 dX4_odds_99 ?_
                refine lv_iadd hx hb dX4_odds_100 ?_
                refine lv_istore (lv' := [(8, .int (v8_82 + (((f_X4_laysHours (u2 ((f_X4_barred σ p3 p4 p5 9).2) 0 0 0) p2 ((90 * p3) + p5)).2) 13 (ix v9_82)))), (0, .ref (ad 0)), (1, .int p1), (6, .int p6), (9, .int v9_82)]) hx hb dX4_odds_101 hl (by decide) rfl (fun ls hl => ?_)
                refine lv_iinc (v := (v9_82 + 1)) (lv' := [(9, .int (v9_82 + 1)), (8, .int (v8_82 + (((f_X4_laysHours (u2 ((f_X4_barred σ p3 p4 p5 9).2) 0 0 0) p2 ((90 * p3) + p5)).2) 13 (ix v9_82)))), (0, .ref (ad 0)), (1, .int p1), (6, .int p6)]) hx hb dX4_odds_103 hl (k := 4) rfl rfl (by decide) rfl (fun ls hl => ?_)
                refine lv_goto (tgt := 82) hx hb dX4_odds_106 (by decide) ?_
                have b9_82 : (v9_82 + 1).toInt = v9_82.toInt + 1 := inc_toInt (by omega) (by omega)
                have lq := lh (ix v9_82) (by have := ix_toInt (x := v9_82) (by omega); omega)
                have b8 := a_toInt (a := v8_82) (b := ((f_X4_laysHours (u2 ((f_X4_barred σ p3 p4 p5 9).2) 0 0 0) p2 ((90 * p3) + p5)).2) 13 (ix v9_82)) (by omega) (by omega)
                exact ih82 _ (v8_82 + (((f_X4_laysHours (u2 ((f_X4_barred σ p3 p4 p5 9).2) 0 0 0) p2 ((90 * p3) + p5)).2) 13 (ix v9_82))) (v9_82 + 1) ⟨(by omega), (by omega)⟩ (by omega) hG hex82 _ _ w ls (lv_sub hl [2, 3, 4, 1, 0] rfl)
          refine L82 200 _ 0 0 ⟨(by omega), (by omega)⟩ (by omega) rfl (fun v8_82e x82_0 hr82 H locs w ls hl => ?_) _ _ w ls (lv_sub hl [3, 4, 9, 1, 0] rfl)
          rw [hr82] at hG
          refine lv_iload hx hb dX4_odds_109 (lv_at hl 3 rfl) ?_
          refine lv_if_ne (tgt := 120) hx hb dX4_odds_111 (by decide) (fun c111 => ?_) (fun c111 => ?_)
          · have t111 : v8_82e.toInt ≠ 0 := qt_ne c111
            rw [if_neg c111] at hG
            have lp := lh (ix p1) (by have := ix_toInt (x := p1) (by omega); omega)
            have y1 : (((f_X4_laysHours (u2 ((f_X4_barred σ p3 p4 p5 9).2) 0 0 0) p2 ((90 * p3) + p5)).2) 13 (ix p1)).toInt64.toInt = (((f_X4_laysHours (u2 ((f_X4_barred σ p3 p4 p5 9).2) 0 0 0) p2 ((90 * p3) + p5)).2) 13 (ix p1)).toInt := Int32.toInt_toInt64 _
            have y2 : v8_82e.toInt64.toInt = v8_82e.toInt := Int32.toInt_toInt64 _
            refine lv_aload_n hx hb dX4_odds_120 rfl (lv_at hl 0 rfl) ?_
            refine r_get (C := RX4) (T := TX4) (N := 25) S hK w (k := 0) (by decide) (eM_0 ad _) rfl hinX4 19 (by decide) (List.mem_of_getElem? (i := 4) rfl) rfl dX4_odds_121 ?_
            refine lv_iload_n hx hb dX4_odds_124 rfl (lv_at hl 1 rfl) ?_
            have g125 : vp_in p1 8 := vpi (by omega) (by omega)
            refine r_iald (cA := ad 100) (N := 8) S hK w (k := 13) (by decide) (fun f => rfl) rfl g125 dX4_odds_125 ?_
            refine lv_i2l hx hb dX4_odds_126 rfl ?_
            refine lv_iload hx hb dX4_odds_127 (lv_at hl 3 rfl) ?_
            refine lv_i2l hx hb dX4_odds_129 rfl ?_
            refine lv_iload hx hb dX4_odds_130 (lv_at hl 2 rfl) ?_
            refine call0l (va_runS (As := [.long ((((f_X4_laysHours (u2 ((f_X4_barred σ p3 p4 p5 9).2) 0 0 0) p2 ((90 * p3) + p5)).2) 13 (ix p1)).toInt64), .long v8_82e.toInt64, .int p6]) (rest := []) S (c_X4_told l ((((f_X4_laysHours (u2 ((f_X4_barred σ p3 p4 p5 9).2) 0 0 0) p2 ((90 * p3) + p5)).2) 13 (ix p1)).toInt64) v8_82e.toInt64 p6 (by omega) (by omega)) (va_cwS 3 S.2.2.2.2 gX4_odds_X4_told rfl rfl rfl hd_X4_told ⟨Nat.le_of_ble_eq_true rfl, Nat.le_of_ble_eq_true rfl⟩) pre0S rfl rfl hl.1 rfl (lv_room (Nat.le_of_ble_eq_true rfl)) dX4_odds_132 ⟨Nat.zero_le _, Nat.zero_le _⟩) ?_
            exact endWl S hr hlocks w hG dX4_odds_135
          · have t111 : v8_82e.toInt = 0 := qt_eq c111
            rw [if_pos c111] at hG
            refine call0l (va_runS (As := []) (rest := []) S (c_X4_lost l) (va_cwS 0 S.2.2.2.2 gX4_odds_X4_lost rfl rfl rfl hd_X4_lost ⟨Nat.le_of_ble_eq_true rfl, Nat.le_of_ble_eq_true rfl⟩) pre0S rfl rfl hl.1 rfl (lv_room (Nat.le_of_ble_eq_true rfl)) dX4_odds_114 ⟨Nat.zero_le _, Nat.zero_le _⟩) ?_
            refine lv_goto (tgt := 135) hx hb dX4_odds_117 (by decide) ?_
            exact endWl S hr hlocks w hG dX4_odds_135
        · rw [if_pos c69] at hG
          refine call0l (va_runS (As := []) (rest := []) S (c_X4_lost l) (va_cwS 0 S.2.2.2.2 gX4_odds_X4_lost rfl rfl rfl hd_X4_lost ⟨Nat.le_of_ble_eq_true rfl, Nat.le_of_ble_eq_true rfl⟩) pre0S rfl rfl hl.1 rfl (lv_room (Nat.le_of_ble_eq_true rfl)) dX4_odds_72 ⟨Nat.zero_le _, Nat.zero_le _⟩) ?_
          exact endWl S hr hlocks w hG dX4_odds_75
    · have t34 : ((f_X4_barred σ p3 p4 p5 9).1).toInt < 0 := qt_nle c34
      rw [if_neg c34] at hG
      refine call0l (va_runS (As := []) (rest := []) S (c_X4_lost l) (va_cwS 0 S.2.2.2.2 gX4_odds_X4_lost rfl rfl rfl hd_X4_lost ⟨Nat.le_of_ble_eq_true rfl, Nat.le_of_ble_eq_true rfl⟩) pre0S rfl rfl hl.1 rfl (lv_room (Nat.le_of_ble_eq_true rfl)) dX4_odds_37 ⟨Nat.zero_le _, Nat.zero_le _⟩) ?_
      exact endWl S hr hlocks w hG dX4_odds_40
  · rw [if_neg c5] at hG
    refine lv_aload_n hx hb dX4_odds_8 rfl (lv_at hl 0 rfl) ?_
    refine lv_iconst (v := (-1)) hx hb dX4_odds_9 (by decide) ?_
    refine callWi w (va_runV (As := [.int (-1)]) (rest := []) S (c_X4_refused l ad D s.heap.size σ (-1)) (cwV 1 S.2.2.2.2 gX4_odds_X4_refused rfl rfl rfl ⟨rfl, hd_X4_refused⟩ ⟨Nat.le_of_ble_eq_true rfl, Nat.le_of_ble_eq_true rfl⟩) (preV hK hN w (k := 0) (by decide) (eM_0 ad _) (q := (RX4, TX4, 25)) rfl) rfl rfl hl.1 rfl (lv_room (Nat.le_of_ble_eq_true rfl)) dX4_odds_10 ⟨Nat.zero_le _, Nat.zero_le _⟩) (fun H locs w => ?_)
    refine lv_pop hx hb dX4_odds_13 rfl ?_
    refine call0l (va_runS (As := []) (rest := []) S (c_X4_lost l) (va_cwS 0 S.2.2.2.2 gX4_odds_X4_lost rfl rfl rfl hd_X4_lost ⟨Nat.le_of_ble_eq_true rfl, Nat.le_of_ble_eq_true rfl⟩) pre0S rfl rfl hl.1 rfl (lv_room (Nat.le_of_ble_eq_true rfl)) dX4_odds_14 ⟨Nat.zero_le _, Nat.zero_le _⟩) ?_
    exact endWl S hr hlocks w hG dX4_odds_17
