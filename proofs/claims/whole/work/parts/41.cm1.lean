set_option maxHeartbeats 4000000 in
set_option maxRecDepth 100000 in
theorem c_X4_readsRegister (l : Launch) (ad : Nat → Nat) (D : va_G) (sz : Nat) (σ : St) (p1 : Int32) (p2 : Int32) (hb1 : 0 ≤ p1.toInt) (hb2 : 0 ≤ p2.toInt ∧ p2.toInt ≤ 90) (hb3 : p1.toInt + p2.toInt ≤ 360) : Met l yX4_readsRegister wsX4_readsRegister ({ frames := 2, cells := 0, slots := 0, locals := 50 }) (PreW 18 (eM ad) ad D (tyM ad) σ sz ([.ref (ad 0), .int p1, .int p2] : List Value)) (QWi 18 (eM ad) ad D (f_X4_readsRegister σ p1 p2) (CA 18 ad sz)) 0 0 (CA 18 ad sz) := by
  generalize hG : f_X4_readsRegister σ p1 p2 = T
  refine headW (cc := cX4_readsRegister) (maxL := 4) (ret := (some .boolean)) ([.ref (ad 0), .int p1, .int p2] : List Value) (by decide) rfl (Nat.le_of_ble_eq_true rfl) ?_
  intro p e s m below meth c S hr hlocks hK hN hsz w ls hl
  have S : CallFix p m c cX4_readsRegister 4 s ([.ref (ad 0), .int p1, .int p2] : List Value).toArray wsX4_readsRegister RX4 := S
  have hx := S.1
  have hb := S.2.1
  have z0 : (0 : Int32).toInt = 0 := by decide
  have z1 : (1 : Int32).toInt = 1 := by decide
  have hl : lv_has ls 4 [(0, .ref (ad 0)), (1, .int p1), (2, .int p2)] := hl
  have hinX4 : ∀ w ∈ wsX40, w ∈ wsX4_readsRegister := (fun _ h => List.mem_cons_of_mem _ (List.mem_append_right _ h))
  rw [f_X4_readsRegister] at hG
  refine lv_aload_n hx hb dX4_readsRegister_0 rfl (lv_at hl 0 rfl) ?_
  refine lv_iconst (v := 0) hx hb dX4_readsRegister_1 (by decide) ?_
  refine r_put (C := RX4) (T := TX4) (N := 25) S hK w (k := 0) (by decide) (eM_0 ad _) rfl hinX4 tyX4 tyX4_ok nmX4 7 (by decide) (List.mem_of_getElem? (i := 1) rfl) rfl (x := 0) (ty := .int) (by decide +kernel) rfl rfl (by show _ < List.length _; exact Nat.le_of_ble_eq_true rfl) (sM ad _ _ 7 (by decide)) dX4_readsRegister_2 (fun H locs w => ?_)
  refine lv_aload_n hx hb dX4_readsRegister_5 rfl (lv_at hl 0 rfl) ?_
  refine lv_iconst (v := 0) hx hb dX4_readsRegister_6 (by decide) ?_
  refine r_put (C := RX4) (T := TX4) (N := 25) S hK w (k := 0) (by decide) (eM_0 ad _) rfl hinX4 tyX4 tyX4_ok nmX4 8 (by decide) (List.mem_of_getElem? (i := 2) rfl) rfl (x := 0) (ty := .int) (by decide +kernel) rfl rfl (by show _ < List.length _; exact Nat.le_of_ble_eq_true rfl) (sM ad _ _ 8 (by decide)) dX4_readsRegister_7 (fun H locs w => ?_)
  refine lv_iconst (v := 1) hx hb dX4_readsRegister_10 (by decide) ?_
  refine lv_istore_n (lv' := [(3, .int 1), (0, .ref (ad 0)), (1, .int p1), (2, .int p2)]) hx hb dX4_readsRegister_11 rfl hl (by decide) rfl (fun ls hl => ?_)
  have L12 : ∀ (n : Nat) (res12 : Int32 × St), ∀ (v3_12 : Int32), ∀ (S_12 : St), ((v3_12 = 0 ∨ ((0 ≤ (S_12 0 8).toInt ∧ (S_12 0 8).toInt ≤ 8) ∧ (0 ≤ (S_12 0 7).toInt ∧ (S_12 0 7).toInt ≤ 11 * (S_12 0 8).toInt))) ∧ (v3_12 = 0 ∨ v3_12 = 1)) → (if v3_12 = 0 then 0 else (20 - (S_12 0 8).toInt).toNat) < n → (lp_X4_readsRegister_12 p1 p2 n v3_12 S_12) = res12 → (∀ (v3_12e : Int32), ∀ (S_12e : St), (v3_12e = 0 ∨ v3_12e = 1) → res12 = (v3_12e, S_12e) → ∀ (H : Heap) (locs : List Loc), CW 18 (eM ad) ad D (CA 18 ad sz) s.heap S_12e H locs → ∀ ls : Array Slot, lv_has ls 4 [(0, .ref (ad 0)), (3, .int v3_12e)] → W p l e (headSpec wsX4_readsRegister ({ frames := 2, cells := 0, slots := 0, locals := 50 })).room s m ([.ref (ad 0), .int p1, .int p2] : List Value).toArray below meth c H locs 0 0 (MQ below (QWi 18 (eM ad) ad D T (CA 18 ad sz)) ([.ref (ad 0), .int p1, .int p2] : List Value).toArray s 0 0 (CA 18 ad sz)) (F0 m 42 ls [])) → ∀ (H : Heap) (locs : List Loc), CW 18 (eM ad) ad D (CA 18 ad sz) s.heap S_12 H locs → ∀ ls : Array Slot, lv_has ls 4 [(0, .ref (ad 0)), (1, .int p1), (2, .int p2), (3, .int v3_12)] → W p l e (headSpec wsX4_readsRegister ({ frames := 2, cells := 0, slots := 0, locals := 50 })).room s m ([.ref (ad 0), .int p1, .int p2] : List Value).toArray below meth c H locs 0 0 (MQ below (QWi 18 (eM ad) ad D T (CA 18 ad sz)) ([.ref (ad 0), .int p1, .int p2] : List Value).toArray s 0 0 (CA 18 ad sz)) (F0 m 12 ls []) := by
    intro n
    induction n with
    | zero => intro _ _ _ _ hm; exact absurd hm (Nat.not_lt_zero _)
    | succ n ih12 =>
      intro res12 v3_12 S_12 hI12 hm12 hG hex12 H locs w ls hl
      obtain ⟨i12_0, i12_1⟩ := id hI12
      rw [lp_X4_readsRegister_12] at hG
      refine lv_iload_n hx hb dX4_readsRegister_12 rfl (lv_at hl 3 rfl) ?_
      refine lv_if_eq (tgt := 42) hx hb dX4_readsRegister_13 (by decide) (fun c13 => ?_) (fun c13 => ?_)
      · have t13 : v3_12.toInt = 0 := qt_eq c13
        rw [if_pos c13] at hG
        exact hex12 v3_12 S_12 i12_1 hG.symm _ _ w ls (lv_sub hl [0, 3] rfl)
      · have t13 : v3_12.toInt ≠ 0 := qt_ne c13
        rw [if_neg c13] at hG
        have hq := i12_0.resolve_left c13
        refine lv_aload_n hx hb dX4_readsRegister_16 rfl (lv_at hl 0 rfl) ?_
        refine r_get (C := RX4) (T := TX4) (N := 25) S hK w (k := 0) (by decide) (eM_0 ad _) rfl hinX4 8 (by decide) (List.mem_of_getElem? (i := 2) rfl) rfl dX4_readsRegister_17 ?_
        refine lv_iconst (v := 2) hx hb dX4_readsRegister_20 (by decide) ?_
        refine lv_icmp_lt (tgt := 32) hx hb dX4_readsRegister_21 (by decide) (fun c21 => ?_) (fun c21 => ?_)
        · have t21 : (S_12 0 8).toInt < 2 := qt_lt c21
          rw [if_pos c21] at hG
          refine lv_aload_n hx hb dX4_readsRegister_32 rfl (lv_at hl 0 rfl) ?_
          refine lv_iload_n hx hb dX4_readsRegister_33 rfl (lv_at hl 1 rfl) ?_
          refine lv_iload_n hx hb dX4_readsRegister_34 rfl (lv_at hl 2 rfl) ?_
          refine callWi w (va_runV (As := [.int p1, .int p2]) (rest := []) S (c_X4_readsSign l ad D H.size S_12 p1 p2 (by omega) (by omega) (by omega) (by omega) (by omega)) (cwV 2 S.2.2.2.2 gX4_readsRegister_X4_readsSign rfl rfl rfl ⟨rfl, hd_X4_readsSign⟩ ⟨Nat.le_of_ble_eq_true rfl, Nat.le_of_ble_eq_true rfl⟩) (preV hK hN w (k := 0) (by decide) (eM_0 ad _) (q := (RX4, TX4, 25)) rfl) rfl rfl hl.1 rfl (lv_room (Nat.le_of_ble_eq_true rfl)) dX4_readsRegister_35 ⟨Nat.zero_le _, Nat.zero_le _⟩) (fun H locs w => ?_)
          refine lv_istore_n (lv' := [(3, .int ((f_X4_readsSign S_12 p1 p2).1)), (0, .ref (ad 0)), (1, .int p1), (2, .int p2)]) hx hb dX4_readsRegister_38 rfl hl (by decide) rfl (fun ls hl => ?_)
          refine lv_goto (tgt := 12) hx hb dX4_readsRegister_39 (by decide) ?_
          have ro := rs_or (f := p1) (n := p2) hq
          exact ih12 _ ((f_X4_readsSign S_12 p1 p2).1) ((f_X4_readsSign S_12 p1 p2).2) ⟨ro.1, ro.2.2⟩ (by rw [if_neg c13] at hm12; split; omega; next hz => have := ro.2.1 hz; omega) hG hex12 _ _ w ls (lv_sub hl [1, 2, 3, 0] rfl)
        · have t21 : 2 ≤ (S_12 0 8).toInt := qt_nlt c21
          rw [if_neg c21] at hG
          refine lv_aload_n hx hb dX4_readsRegister_24 rfl (lv_at hl 0 rfl) ?_
          refine r_get (C := RX4) (T := TX4) (N := 25) S hK w (k := 0) (by decide) (eM_0 ad _) rfl hinX4 7 (by decide) (List.mem_of_getElem? (i := 1) rfl) rfl dX4_readsRegister_25 ?_
          refine lv_iload_n hx hb dX4_readsRegister_28 rfl (lv_at hl 2 rfl) ?_
          refine lv_icmp_ge (tgt := 42) hx hb dX4_readsRegister_29 (by decide) (fun c29 => ?_) (fun c29 => ?_)
          · have t29 : p2.toInt ≤ (S_12 0 7).toInt := qt_le c29
            rw [if_pos c29] at hG
            exact hex12 v3_12 S_12 i12_1 hG.symm _ _ w ls (lv_sub hl [0, 3] rfl)
          · have t29 : (S_12 0 7).toInt < p2.toInt := qt_nle c29
            rw [if_neg c29] at hG
            refine lv_aload_n hx hb dX4_readsRegister_32 rfl (lv_at hl 0 rfl) ?_
            refine lv_iload_n hx hb dX4_readsRegister_33 rfl (lv_at hl 1 rfl) ?_
            refine lv_iload_n hx hb dX4_readsRegister_34 rfl (lv_at hl 2 rfl) ?_
            refine callWi w (va_runV (As := [.int p1, .int p2]) (rest := []) S (c_X4_readsSign l ad D H.size S_12 p1 p2 (by omega) (by omega) (by omega) (by omega) (by omega)) (cwV 2 S.2.2.2.2 gX4_readsRegister_X4_readsSign rfl rfl rfl ⟨rfl, hd_X4_readsSign⟩ ⟨Nat.le_of_ble_eq_true rfl, Nat.le_of_ble_eq_true rfl⟩) (preV hK hN w (k := 0) (by decide) (eM_0 ad _) (q := (RX4, TX4, 25)) rfl) rfl rfl hl.1 rfl (lv_room (Nat.le_of_ble_eq_true rfl)) dX4_readsRegister_35 ⟨Nat.zero_le _, Nat.zero_le _⟩) (fun H locs w => ?_)
            refine lv_istore_n (lv' := [(3, .int ((f_X4_readsSign S_12 p1 p2).1)), (0, .ref (ad 0)), (1, .int p1), (2, .int p2)]) hx hb dX4_readsRegister_38 rfl hl (by decide) rfl (fun ls hl => ?_)
            refine lv_goto (tgt := 12) hx hb dX4_readsRegister_39 (by decide) ?_
            have ro := rs_or (f := p1) (n := p2) hq
            exact ih12 _ ((f_X4_readsSign S_12 p1 p2).1) ((f_X4_readsSign S_12 p1 p2).2) ⟨ro.1, ro.2.2⟩ (by rw [if_neg c13] at hm12; split; omega; next hz => have := ro.2.1 hz; omega) hG hex12 _ _ w ls (lv_sub hl [1, 2, 3, 0] rfl)
  refine L12 200 _ 1 (u2 (u2 σ 0 7 0) 0 8 0) ⟨(Or.inr (by show (0 ≤ (0 : Int32).toInt ∧ (0 : Int32).toInt ≤ 8) ∧ (0 ≤ (0 : Int32).toInt ∧ (0 : Int32).toInt ≤ 11 * (0 : Int32).toInt); decide)), (Or.inr rfl)⟩ (by show (if (1 : Int32) = 0 then 0 else (20 - (0 : Int32).toInt).toNat) < 200; decide) rfl (fun v3_12e S_12e x12_0 hr12 H locs w ls hl => ?_) _ _ w ls (lv_sub hl [1, 2, 3, 0] rfl)
  rw [hr12] at hG
  dsimp only at hG
  refine lv_iload_n hx hb dX4_readsRegister_42 rfl (lv_at hl 1 rfl) ?_
  exact endWz S hr hlocks w x12_0 hG dX4_readsRegister_43
set_option maxHeartbeats 4000000 in
set_option maxRecDepth 100000 in
theorem c_X4_register (l : Launch) (ad : Nat → Nat) (D : va_G) (sz : Nat) (σ : St) (p1 : Int32) (p2 : Int32) (p3 : Int32) (p4 : Int32) (hok : OkM σ) : Met l yX4_register wsX4_register ({ frames := 3, cells := 0, slots := 0, locals := 73 }) (PreW 18 (eM ad) ad D (tyM ad) σ sz ([.ref (ad 0), .int p1, .int p2, .int p3, .int p4] : List Value)) (QWi 18 (eM ad) ad D (f_X4_register σ p1 p2 p3 p4) (CA 18 ad sz)) 0 0 (CA 18 ad sz) := by
  generalize hG : f_X4_register σ p1 p2 p3 p4 = T
  refine headW (cc := cX4_register) (maxL := 7) (ret := (some .int)) ([.ref (ad 0), .int p1, .int p2, .int p3, .int p4] : List Value) (by decide) rfl (Nat.le_of_ble_eq_true rfl) ?_
  intro p e s m below meth c S hr hlocks hK hN hsz w ls hl
  have S : CallFix p m c cX4_register 7 s ([.ref (ad 0), .int p1, .int p2, .int p3, .int p4] : List Value).toArray wsX4_register RX4 := S
  have hx := S.1
  have hb := S.2.1
  have z0 : (0 : Int32).toInt = 0 := by decide
  have z1 : (1 : Int32).toInt = 1 := by decide
  have hl : lv_has ls 7 [(0, .ref (ad 0)), (1, .int p1), (2, .int p2), (3, .int p3), (4, .int p4)] := hl
  have hinX4 : ∀ w ∈ wsX40, w ∈ wsX4_register := (fun _ h => List.mem_cons_of_mem _ (List.mem_append_right _ h))
  have okf0 := hok.1
  have okf1 := hok.2.1
  have okf2 := hok.2.2.1
  have okf3 := hok.2.2.2.1
  have okf4 := hok.2.2.2.2.1
  have okf6 := hok.2.2.2.2.2.1
  have okf7 := hok.2.2.2.2.2.2.1
  have okf8 := hok.2.2.2.2.2.2.2
  rw [f_X4_register] at hG
  refine lv_aload_n hx hb dX4_register_0 rfl (lv_at hl 0 rfl) ?_
  refine lv_iload_n hx hb dX4_register_1 rfl (lv_at hl 1 rfl) ?_
  refine lv_iload_n hx hb dX4_register_2 rfl (lv_at hl 2 rfl) ?_
  refine lv_iload_n hx hb dX4_register_3 rfl (lv_at hl 3 rfl) ?_
  refine lv_iload hx hb dX4_register_4 (lv_at hl 4 rfl) ?_
  refine lv_i2l hx hb dX4_register_6 rfl ?_
  have ok3 := okf3
  refine callWi w (va_runV (As := [.int p1, .int p2, .int p3, .long p4.toInt64]) (rest := []) S (c_X4_barred l ad D s.heap.size σ p1 p2 p3 p4.toInt64) (cwV 4 S.2.2.2.2 gX4_register_X4_barred rfl rfl rfl ⟨rfl, hd_X4_barred⟩ ⟨Nat.le_of_ble_eq_true rfl, Nat.le_of_ble_eq_true rfl⟩) (preV hK hN w (k := 0) (by decide) (eM_0 ad _) (q := (RX4, TX4, 25)) rfl) rfl rfl hl.1 rfl (lv_room (Nat.le_of_ble_eq_true rfl)) dX4_register_7 ⟨Nat.zero_le _, Nat.zero_le _⟩) (fun H locs w => ?_)
  have hok : OkM ((f_X4_barred σ p1 p2 p3 p4.toInt64).2) := ok_X4_barred hok
  have okf0 := hok.1
  have okf1 := hok.2.1
  have okf2 := hok.2.2.1
  have okf3 := hok.2.2.2.1
  have okf4 := hok.2.2.2.2.1
  have okf6 := hok.2.2.2.2.2.1
  have okf7 := hok.2.2.2.2.2.2.1
  have okf8 := hok.2.2.2.2.2.2.2
  refine lv_istore (lv' := [(5, .int ((f_X4_barred σ p1 p2 p3 p4.toInt64).1)), (0, .ref (ad 0)), (1, .int p1), (2, .int p2), (3, .int p3), (4, .int p4)]) hx hb dX4_register_10 hl (by decide) rfl (fun ls hl => ?_)
  refine lv_iload hx hb dX4_register_12 (lv_at hl 0 rfl) ?_
  refine lv_if_ge (tgt := 20) hx hb dX4_register_14 (by decide) (fun c14 => ?_) (fun c14 => ?_)
  · have t14 : 0 ≤ ((f_X4_barred σ p1 p2 p3 p4.toInt64).1).toInt := qt_le c14
    rw [if_pos c14] at hG
    have z := br_z c14
    have zl : p4.toInt64.toInt = p4.toInt := Int32.toInt_toInt64 p4
    have zb : p4.toInt < 2147483648 := Int32.toInt_lt p4
    have z3 := ok3 (ix p1) (vpl (vpi (by omega) (by omega)))
    have e24 := km_toInt (a := p1) (k := 90) (z := 90) (by decide) (by omega) (by omega)
    have e26 := a_toInt (a := 90 * p1) (b := p3) (by omega) (by omega)
    refine lv_aload_n hx hb dX4_register_20 rfl (lv_at hl 1 rfl) ?_
    refine lv_bipush (v := 90) hx hb dX4_register_21 (by decide) ?_
    refine lv_iload_n hx hb dX4_register_23 rfl (lv_at hl 2 rfl) ?_
    refine lv_imul hx hb dX4_register_24 ?_
    refine lv_iload_n hx hb dX4_register_25 rfl (lv_at hl 4 rfl) ?_
    refine lv_iadd hx hb dX4_register_26 ?_
    refine lv_iload hx hb dX4_register_27 (lv_at hl 5 rfl) ?_
    refine callWi w (va_runV (As := [.int ((90 * p1) + p3), .int p4]) (rest := []) S (c_X4_readsRegister l ad D H.size ((f_X4_barred σ p1 p2 p3 p4.toInt64).2) ((90 * p1) + p3) p4 (by omega) (by omega) (by omega)) (cwV 2 S.2.2.2.2 gX4_register_X4_readsRegister rfl rfl rfl ⟨rfl, hd_X4_readsRegister⟩ ⟨Nat.le_of_ble_eq_true rfl, Nat.le_of_ble_eq_true rfl⟩) (preV hK hN w (k := 0) (by decide) (eM_0 ad _) (q := (RX4, TX4, 25)) rfl) rfl rfl hl.1 rfl (lv_room (Nat.le_of_ble_eq_true rfl)) dX4_register_29 ⟨Nat.zero_le _, Nat.zero_le _⟩) (fun H locs w => ?_)
    have hok : OkM ((f_X4_readsRegister ((f_X4_barred σ p1 p2 p3 p4.toInt64).2) ((90 * p1) + p3) p4).2) := ok_X4_readsRegister hok
    have okf0 := hok.1
    have okf1 := hok.2.1
    have okf2 := hok.2.2.1
    have okf3 := hok.2.2.2.1
    have okf4 := hok.2.2.2.2.1
    have okf6 := hok.2.2.2.2.2.1
    have okf7 := hok.2.2.2.2.2.2.1
    have okf8 := hok.2.2.2.2.2.2.2
    refine lv_if_ne (tgt := 47) hx hb dX4_register_32 (by decide) (fun c32 => ?_) (fun c32 => ?_)
    · have t32 : ((f_X4_readsRegister ((f_X4_barred σ p1 p2 p3 p4.toInt64).2) ((90 * p1) + p3) p4).1).toInt ≠ 0 := qt_ne c32
      rw [if_neg c32] at hG
      refine lv_aload_n hx hb dX4_register_47 rfl (lv_at hl 1 rfl) ?_
      refine lv_aload_n hx hb dX4_register_48 rfl (lv_at hl 1 rfl) ?_
      refine r_get (C := RX4) (T := TX4) (N := 25) S hK w (k := 0) (by decide) (eM_0 ad _) rfl hinX4 8 (by decide) (List.mem_of_getElem? (i := 2) rfl) rfl dX4_register_49 ?_
      refine r_put (C := RX4) (T := TX4) (N := 25) S hK w (k := 0) (by decide) (eM_0 ad _) rfl hinX4 tyX4 tyX4_ok nmX4 1 (by decide) (List.mem_of_getElem? (i := 3) rfl) rfl (x := (((f_X4_readsRegister ((f_X4_barred σ p1 p2 p3 p4.toInt64).2) ((90 * p1) + p3) p4).2) 0 8)) (ty := .int) (by decide +kernel) rfl rfl (by show _ < List.length _; exact Nat.le_of_ble_eq_true rfl) (sM ad _ _ 1 (by decide)) dX4_register_52 (fun H locs w => ?_)
      refine lv_iconst (v := 0) hx hb dX4_register_55 (by decide) ?_
      refine lv_istore (lv' := [(6, .int 0), (5, .int ((f_X4_barred σ p1 p2 p3 p4.toInt64).1)), (0, .ref (ad 0)), (1, .int p1), (2, .int p2), (3, .int p3), (4, .int p4)]) hx hb dX4_register_56 hl (by decide) rfl (fun ls hl => ?_)
      have L58 : ∀ (n : Nat) (res58 : St), ∀ (v6_58 : Int32), ∀ (S_58 : St), ((0 ≤ v6_58.toInt ∧ v6_58.toInt ≤ 8) ∧ ((S_58 0 1).toInt ≤ 8)) → (8 - v6_58.toInt).toNat < n → (lp_X4_register_58 n v6_58 S_58) = res58 → (∀ (S_58e : St), res58 = S_58e → ∀ (H : Heap) (locs : List Loc), CW 18 (eM ad) ad D (CA 18 ad sz) s.heap S_58e H locs → ∀ ls : Array Slot, lv_has ls 7 [(0, .ref (ad 0))] → W p l e (headSpec wsX4_register ({ frames := 3, cells := 0, slots := 0, locals := 73 })).room s m ([.ref (ad 0), .int p1, .int p2, .int p3, .int p4] : List Value).toArray below meth c H locs 0 0 (MQ below (QWi 18 (eM ad) ad D T (CA 18 ad sz)) ([.ref (ad 0), .int p1, .int p2, .int p3, .int p4] : List Value).toArray s 0 0 (CA 18 ad sz)) (F0 m 87 ls [])) → ∀ (H : Heap) (locs : List Loc), CW 18 (eM ad) ad D (CA 18 ad sz) s.heap S_58 H locs → ∀ ls : Array Slot, lv_has ls 7 [(0, .ref (ad 0)), (6, .int v6_58)] → W p l e (headSpec wsX4_register ({ frames := 3, cells := 0, slots := 0, locals := 73 })).room s m ([.ref (ad 0), .int p1, .int p2, .int p3, .int p4] : List Value).toArray below meth c H locs 0 0 (MQ below (QWi 18 (eM ad) ad D T (CA 18 ad sz)) ([.ref (ad 0), .int p1, .int p2, .int p3, .int p4] : List Value).toArray s 0 0 (CA 18 ad sz)) (F0 m 58 ls []) := by
        intro n
        induction n with
        | zero => intro _ _ _ _ hm; exact absurd hm (Nat.not_lt_zero _)
        | succ n ih58 =>
          intro res58 v6_58 S_58 hI58 hm58 hG hex58 H locs w ls hl
          obtain ⟨i58_0, i58_1⟩ := id hI58
          rw [lp_X4_register_58] at hG
          refine lv_iload hx hb dX4_register_58 (lv_at hl 1 rfl) ?_
          refine lv_aload_n hx hb dX4_register_60 rfl (lv_at hl 0 rfl) ?_
          refine r_get (C := RX4) (T := TX4) (N := 25) S hK w (k := 0) (by decide) (eM_0 ad _) rfl hinX4 1 (by decide) (List.mem_of_getElem? (i := 3) rfl) rfl dX4_register_61 ?_
          refine lv_icmp_ge (tgt := 87) hx hb dX4_register_64 (by decide) (fun c64 => ?_) (fun c64 => ?_)
          · have t64 : (S_58 0 1).toInt ≤ v6_58.toInt := qt_le c64
            rw [if_pos c64] at hG
            exact hex58 S_58 hG.symm _ _ w ls (lv_sub hl [0] rfl)
          · have t64 : v6_58.toInt < (S_58 0 1).toInt := qt_nle c64
            rw [if_neg c64] at hG
            refine lv_aload_n hx hb dX4_register_67 rfl (lv_at hl 0 rfl) ?_
            refine r_get (C := RX4) (T := TX4) (N := 25) S hK w (k := 0) (by decide) (eM_0 ad _) rfl hinX4 4 (by decide) (List.mem_of_getElem? (i := 4) rfl) rfl dX4_register_68 ?_
            refine lv_iload hx hb dX4_register_71 (lv_at hl 1 rfl) ?_
            refine lv_aload_n hx hb dX4_register_73 rfl (lv_at hl 0 rfl) ?_
            refine r_get (C := RX4) (T := TX4) (N := 25) S hK w (k := 0) (by decide) (eM_0 ad _) rfl hinX4 9 (by decide) (List.mem_of_getElem? (i := 5) rfl) rfl dX4_register_74 ?_
            refine lv_iload hx hb dX4_register_77 (lv_at hl 1 rfl) ?_
            have g79 : vp_in v6_58 8 := vpi (by omega) (by omega)
            refine r_iald (cA := ad 100) (N := 8) S hK w (k := 4) (by decide) (fun f => rfl) rfl g79 dX4_register_79 ?_
            have g80 : vp_in v6_58 8 := vpi (by omega) (by omega)
            refine r_iast (cA := ad 100) (N := 8) S hK w (k := 1) (by decide) (fun f => rfl) rfl g80 dX4_register_80 (fun H locs w => ?_)
            refine lv_iinc (v := (v6_58 + 1)) (lv' := [(6, .int (v6_58 + 1)), (0, .ref (ad 0))]) hx hb dX4_register_81 hl (k := 1) rfl rfl (by decide) rfl (fun ls hl => ?_)
            refine lv_goto (tgt := 58) hx hb dX4_register_84 (by decide) ?_
            have b6_58 : (v6_58 + 1).toInt = v6_58.toInt + 1 := inc_toInt (by omega) (by omega)
            exact ih58 _ (v6_58 + 1) (u2 S_58 1 (ix v6_58) (S_58 4 (ix v6_58))) ⟨(by omega), (by rw [u2_o (by omega)]; exact i58_1)⟩ (by omega) hG hex58 _ _ w ls (lv_sub hl [1, 0] rfl)
      refine L58 200 _ 0 (u2 ((f_X4_readsRegister ((f_X4_barred σ p1 p2 p3 p4.toInt64).2) ((90 * p1) + p3) p4).2) 0 1 (((f_X4_readsRegister ((f_X4_barred σ p1 p2 p3 p4.toInt64).2) ((90 * p1) + p3) p4).2) 0 8)) ⟨(by omega), (by rw [u2_self]; exact (rr_le c32).2)⟩ (by omega) rfl (fun S_58e hr58 H locs w ls hl => ?_) _ _ w ls (lv_sub hl [2, 0] rfl)
      rw [hr58] at hG
      refine lv_iconst (v := 0) hx hb dX4_register_87 (by decide) ?_
      refine lv_istore (lv' := [(6, .int 0), (0, .ref (ad 0))]) hx hb dX4_register_88 hl (by decide) rfl (fun ls hl => ?_)
      have L90 : ∀ (n : Nat) (res90 : St), ∀ (v6_90 : Int32), ∀ (S_90 : St), ((0 ≤ v6_90.toInt ∧ v6_90.toInt ≤ 72)) → (72 - v6_90.toInt).toNat < n → (lp_X4_register_90 n v6_90 S_90) = res90 → (∀ (S_90e : St), res90 = S_90e → ∀ (H : Heap) (locs : List Loc), CW 18 (eM ad) ad D (CA 18 ad sz) s.heap S_90e H locs → ∀ ls : Array Slot, lv_has ls 7 [(0, .ref (ad 0))] → W p l e (headSpec wsX4_register ({ frames := 3, cells := 0, slots := 0, locals := 73 })).room s m ([.ref (ad 0), .int p1, .int p2, .int p3, .int p4] : List Value).toArray below meth c H locs 0 0 (MQ below (QWi 18 (eM ad) ad D T (CA 18 ad sz)) ([.ref (ad 0), .int p1, .int p2, .int p3, .int p4] : List Value).toArray s 0 0 (CA 18 ad sz)) (F0 m 117 ls [])) → ∀ (H : Heap) (locs : List Loc), CW 18 (eM ad) ad D (CA 18 ad sz) s.heap S_90 H locs → ∀ ls : Array Slot, lv_has ls 7 [(0, .ref (ad 0)), (6, .int v6_90)] → W p l e (headSpec wsX4_register ({ frames := 3, cells := 0, slots := 0, locals := 73 })).room s m ([.ref (ad 0), .int p1, .int p2, .int p3, .int p4] : List Value).toArray below meth c H locs 0 0 (MQ below (QWi 18 (eM ad) ad D T (CA 18 ad sz)) ([.ref (ad 0), .int p1, .int p2, .int p3, .int p4] : List Value).toArray s 0 0 (CA 18 ad sz)) (F0 m 90 ls []) := by
        intro n
        induction n with
        | zero => intro _ _ _ _ hm; exact absurd hm (Nat.not_lt_zero _)
        | succ n ih90 =>
          intro res90 v6_90 S_90 hI90 hm90 hG hex90 H locs w ls hl
          have i90_0 := hI90
          rw [lp_X4_register_90] at hG
          refine lv_iload hx hb dX4_register_90 (lv_at hl 1 rfl) ?_
          refine lv_bipush (v := 72) hx hb dX4_register_92 (by decide) ?_
          refine lv_icmp_ge (tgt := 117) hx hb dX4_register_94 (by decide) (fun c94 => ?_) (fun c94 => ?_)
          · have t94 : 72 ≤ v6_90.toInt := qt_le c94
            rw [if_pos c94] at hG
            exact hex90 S_90 hG.symm _ _ w ls (lv_sub hl [0] rfl)
          · have t94 : v6_90.toInt < 72 := qt_nle c94
            rw [if_neg c94] at hG
            refine lv_aload_n hx hb dX4_register_97 rfl (lv_at hl 0 rfl) ?_
            refine r_get (C := RX4) (T := TX4) (N := 25) S hK w (k := 0) (by decide) (eM_0 ad _) rfl hinX4 5 (by decide) (List.mem_of_getElem? (i := 6) rfl) rfl dX4_register_98 ?_
            refine lv_iload hx hb dX4_register_101 (lv_at hl 1 rfl) ?_
            refine lv_aload_n hx hb dX4_register_103 rfl (lv_at hl 0 rfl) ?_
            refine r_get (C := RX4) (T := TX4) (N := 25) S hK w (k := 0) (by decide) (eM_0 ad _) rfl hinX4 10 (by decide) (List.mem_of_getElem? (i := 7) rfl) rfl dX4_register_104 ?_
            refine lv_iload hx hb dX4_register_107 (lv_at hl 1 rfl) ?_
            have g109 : vp_in v6_90 72 := vpi (by omega) (by omega)
            refine r_iald (cA := ad 100) (N := 72) S hK w (k := 5) (by decide) (fun f => rfl) rfl g109 dX4_register_109 ?_
            have g110 : vp_in v6_90 72 := vpi (by omega) (by omega)
            refine r_iast (cA := ad 100) (N := 72) S hK w (k := 2) (by decide) (fun f => rfl) rfl g110 dX4_register_110 (fun H locs w => ?_)
            refine lv_iinc (v := (v6_90 + 1)) (lv' := [(6, .int (v6_90 + 1)), (0, .ref (ad 0))]) hx hb dX4_register_111 hl (k := 1) rfl rfl (by decide) rfl (fun ls hl => ?_)
            refine lv_goto (tgt := 90) hx hb dX4_register_114 (by decide) ?_
            have b6_90 : (v6_90 + 1).toInt = v6_90.toInt + 1 := inc_toInt (by omega) (by omega)
            exact ih90 _ (v6_90 + 1) (u2 S_90 2 (ix v6_90) (S_90 5 (ix v6_90))) (by omega) (by omega) hG hex90 _ _ w ls (lv_sub hl [1, 0] rfl)
      refine L90 200 _ 0 S_58e (by omega) (by omega) rfl (fun S_90e hr90 H locs w ls hl => ?_) _ _ w ls (lv_sub hl [1, 0] rfl)
      rw [hr90] at hG
      refine lv_iconst (v := 0) hx hb dX4_register_117 (by decide) ?_
      refine lv_istore (lv' := [(6, .int 0), (0, .ref (ad 0))]) hx hb dX4_register_118 hl (by decide) rfl (fun ls hl => ?_)
      have L120 : ∀ (n : Nat) (res120 : St), ∀ (v6_120 : Int32), ∀ (S_120 : St), ((0 ≤ v6_120.toInt ∧ v6_120.toInt ≤ 9)) → (9 - v6_120.toInt).toNat < n → (lp_X4_register_120 n v6_120 S_120) = res120 → (∀ (S_120e : St), res120 = S_120e → ∀ (H : Heap) (locs : List Loc), CW 18 (eM ad) ad D (CA 18 ad sz) s.heap S_120e H locs → ∀ ls : Array Slot, lv_has ls 7 [(0, .ref (ad 0))] → W p l e (headSpec wsX4_register ({ frames := 3, cells := 0, slots := 0, locals := 73 })).room s m ([.ref (ad 0), .int p1, .int p2, .int p3, .int p4] : List Value).toArray below meth c H locs 0 0 (MQ below (QWi 18 (eM ad) ad D T (CA 18 ad sz)) ([.ref (ad 0), .int p1, .int p2, .int p3, .int p4] : List Value).toArray s 0 0 (CA 18 ad sz)) (F0 m 141 ls [])) → ∀ (H : Heap) (locs : List Loc), CW 18 (eM ad) ad D (CA 18 ad sz) s.heap S_120 H locs → ∀ ls : Array Slot, lv_has ls 7 [(0, .ref (ad 0)), (6, .int v6_120)] → W p l e (headSpec wsX4_register ({ frames := 3, cells := 0, slots := 0, locals := 73 })).room s m ([.ref (ad 0), .int p1, .int p2, .int p3, .int p4] : List Value).toArray below meth c H locs 0 0 (MQ below (QWi 18 (eM ad) ad D T (CA 18 ad sz)) ([.ref (ad 0), .int p1, .int p2, .int p3, .int p4] : List Value).toArray s 0 0 (CA 18 ad sz)) (F0 m 120 ls []) := by
        intro n
        induction n with
        | zero => intro _ _ _ _ hm; exact absurd hm (Nat.not_lt_zero _)
        | succ n ih120 =>
          intro res120 v6_120 S_120 hI120 hm120 hG hex120 H locs w ls hl
          have i120_0 := hI120
          rw [lp_X4_register_120] at hG
          refine lv_iload hx hb dX4_register_120 (lv_at hl 1 rfl) ?_
          refine lv_bipush (v := 9) hx hb dX4_register_122 (by decide) ?_
          refine lv_icmp_ge (tgt := 141) hx hb dX4_register_124 (by decide) (fun c124 => ?_) (fun c124 => ?_)
          · have t124 : 9 ≤ v6_120.toInt := qt_le c124
            rw [if_pos c124] at hG
            exact hex120 S_120 hG.symm _ _ w ls (lv_sub hl [0] rfl)
          · have t124 : v6_120.toInt < 9 := qt_nle c124
            rw [if_neg c124] at hG
            refine lv_aload_n hx hb dX4_register_127 rfl (lv_at hl 0 rfl) ?_
            refine r_get (C := RX4) (T := TX4) (N := 25) S hK w (k := 0) (by decide) (eM_0 ad _) rfl hinX4 6 (by decide) (List.mem_of_getElem? (i := 8) rfl) rfl dX4_register_128 ?_
            refine lv_iload hx hb dX4_register_131 (lv_at hl 1 rfl) ?_
            refine lv_iconst (v := 5) hx hb dX4_register_133 (by decide) ?_
            have g134 : vp_in v6_120 9 := vpi (by omega) (by omega)
            refine r_iast (cA := ad 100) (N := 9) S hK w (k := 3) (by decide) (fun f => rfl) rfl g134 dX4_register_134 (fun H locs w => ?_)
            refine lv_iinc (v := (v6_120 + 1)) (lv' := [(6, .int (v6_120 + 1)), (0, .ref (ad 0))]) hx hb dX4_register_135 hl (k := 1) rfl rfl (by decide) rfl (fun ls hl => ?_)
            refine lv_goto (tgt := 120) hx hb dX4_register_138 (by decide) ?_
            have b6_120 : (v6_120 + 1).toInt = v6_120.toInt + 1 := inc_toInt (by omega) (by omega)
            exact ih120 _ (v6_120 + 1) (u2 S_120 3 (ix v6_120) 5) (by omega) (by omega) hG hex120 _ _ w ls (lv_sub hl [1, 0] rfl)
      refine L120 200 _ 0 S_90e (by omega) (by omega) rfl (fun S_120e hr120 H locs w ls hl => ?_) _ _ w ls (lv_sub hl [1, 0] rfl)
      rw [hr120] at hG
      refine lv_aload_n hx hb dX4_register_141 rfl (lv_at hl 0 rfl) ?_
      refine lv_iconst (v := 0) hx hb dX4_register_142 (by decide) ?_
      refine r_put (C := RX4) (T := TX4) (N := 25) S hK w (k := 0) (by decide) (eM_0 ad _) rfl hinX4 tyX4 tyX4_ok nmX4 11 (by decide) (List.mem_of_getElem? (i := 9) rfl) rfl (x := 0) (ty := .int) (by decide +kernel) rfl rfl (by show _ < List.length _; exact Nat.le_of_ble_eq_true rfl) (sM ad _ _ 11 (by decide)) dX4_register_143 (fun H locs w => ?_)
      refine lv_aload_n hx hb dX4_register_146 rfl (lv_at hl 0 rfl) ?_
      refine lv_iconst (v := 0) hx hb dX4_register_147 (by decide) ?_
      refine r_put (C := RX4) (T := TX4) (N := 25) S hK w (k := 0) (by decide) (eM_0 ad _) rfl hinX4 tyX4 tyX4_ok nmX4 2 (by decide) (List.mem_of_getElem? (i := 10) rfl) rfl (x := 0) (ty := .int) (by decide +kernel) rfl rfl (by show _ < List.length _; exact Nat.le_of_ble_eq_true rfl) (sM ad _ _ 2 (by decide)) dX4_register_148 (fun H locs w => ?_)
      refine lv_aload_n hx hb dX4_register_151 rfl (lv_at hl 0 rfl) ?_
      refine lv_bipush (v := 40) hx hb dX4_register_152 (by decide) ?_
      refine r_put (C := RX4) (T := TX4) (N := 25) S hK w (k := 0) (by decide) (eM_0 ad _) rfl hinX4 tyX4 tyX4_ok nmX4 3 (by decide) (List.mem_of_getElem? (i := 11) rfl) rfl (x := 40) (ty := .int) (by decide +kernel) rfl rfl (by show _ < List.length _; exact Nat.le_of_ble_eq_true rfl) (sM ad _ _ 3 (by decide)) dX4_register_154 (fun H locs w => ?_)
      refine lv_aload_n hx hb dX4_register_157 rfl (lv_at hl 0 rfl) ?_
      refine lv_aload_n hx hb dX4_register_158 rfl (lv_at hl 0 rfl) ?_
      refine r_get (C := RX4) (T := TX4) (N := 25) S hK w (k := 0) (by decide) (eM_0 ad _) rfl hinX4 1 (by decide) (List.mem_of_getElem? (i := 3) rfl) rfl dX4_register_159 ?_
      refine callWi w (va_runV (As := [.int ((u2 (u2 (u2 S_120e 0 11 0) 0 2 0) 0 3 40) 0 1)]) (rest := []) S (c_X4_refused l ad D H.size (u2 (u2 (u2 S_120e 0 11 0) 0 2 0) 0 3 40) ((u2 (u2 (u2 S_120e 0 11 0) 0 2 0) 0 3 40) 0 1)) (cwV 1 S.2.2.2.2 gX4_register_X4_refused rfl rfl rfl ⟨rfl, hd_X4_refused⟩ ⟨Nat.le_of_ble_eq_true rfl, Nat.le_of_ble_eq_true rfl⟩) (preV hK hN w (k := 0) (by decide) (eM_0 ad _) (q := (RX4, TX4, 25)) rfl) rfl rfl hl.1 rfl (lv_room (Nat.le_of_ble_eq_true rfl)) dX4_register_162 ⟨Nat.zero_le _, Nat.zero_le _⟩) (fun H locs w => ?_)
      exact endWi S hr hlocks w hG dX4_register_165
    · have t32 : ((f_X4_readsRegister ((f_X4_barred σ p1 p2 p3 p4.toInt64).2) ((90 * p1) + p3) p4).1).toInt = 0 := qt_eq c32
      rw [if_pos c32] at hG
      refine lv_aload_n hx hb dX4_register_35 rfl (lv_at hl 1 rfl) ?_
      refine lv_bipush (v := (-100)) hx hb dX4_register_36 (by decide) ?_
      refine lv_aload_n hx hb dX4_register_38 rfl (lv_at hl 1 rfl) ?_
      refine r_get (C := RX4) (T := TX4) (N := 25) S hK w (k := 0) (by decide) (eM_0 ad _) rfl hinX4 7 (by decide) (List.mem_of_getElem? (i := 1) rfl) rfl dX4_register_39 ?_
      refine lv_isub hx hb dX4_register_42 ?_
      refine callWi w (va_runV (As := [.int ((-100) - (((f_X4_readsRegister ((f_X4_barred σ p1 p2 p3 p4.toInt64).2) ((90 * p1) + p3) p4).2) 0 7))]) (rest := []) S (c_X4_refused l ad D H.size ((f_X4_readsRegister ((f_X4_barred σ p1 p2 p3 p4.toInt64).2) ((90 * p1) + p3) p4).2) ((-100) - (((f_X4_readsRegister ((f_X4_barred σ p1 p2 p3 p4.toInt64).2) ((90 * p1) + p3) p4).2) 0 7))) (cwV 1 S.2.2.2.2 gX4_register_X4_refused rfl rfl rfl ⟨rfl, hd_X4_refused⟩ ⟨Nat.le_of_ble_eq_true rfl, Nat.le_of_ble_eq_true rfl⟩) (preV hK hN w (k := 0) (by decide) (eM_0 ad _) (q := (RX4, TX4, 25)) rfl) rfl rfl hl.1 rfl (lv_room (Nat.le_of_ble_eq_true rfl)) dX4_register_43 ⟨Nat.zero_le _, Nat.zero_le _⟩) (fun H locs w => ?_)
      exact endWi S hr hlocks w hG dX4_register_46
  · have t14 : ((f_X4_barred σ p1 p2 p3 p4.toInt64).1).toInt < 0 := qt_nle c14
    rw [if_neg c14] at hG
    refine lv_iload hx hb dX4_register_17 (lv_at hl 0 rfl) ?_
    exact endWi S hr hlocks w hG dX4_register_19
set_option maxHeartbeats 4000000 in
set_option maxRecDepth 100000 in
theorem c_X4_strong (l : Launch) (ad : Nat → Nat) (D : va_G) (sz : Nat) (σ : St) (p1 : Int32) (p2 : Int32) (hx1 : 0 ≤ p1.toInt ∧ p1.toInt < 8) (hsm : 0 ≤ p2.toInt ∧ p2.toInt < 9) : Met l yX4_strong wsX4_strong ({ frames := 0, cells := 0, slots := 0, locals := 0 }) (PreW 18 (eM ad) ad D (tyM ad) σ sz ([.ref (ad 0), .int p1, .int p2] : List Value)) (Q0i (f_X4_strong σ p1 p2)) 0 0 N0 := by
  generalize hG : f_X4_strong σ p1 p2 = T
  refine headW (cc := cX4_strong) (maxL := 3) (ret := (some .int)) ([.ref (ad 0), .int p1, .int p2] : List Value) (by decide) rfl (Nat.le_of_ble_eq_true rfl) ?_
  intro p e s m below meth c S hr hlocks hK hN hsz w ls hl
  have S : CallFix p m c cX4_strong 3 s ([.ref (ad 0), .int p1, .int p2] : List Value).toArray wsX4_strong RX4 := S
  have hx := S.1
  have hb := S.2.1
  have z0 : (0 : Int32).toInt = 0 := by decide
  have z1 : (1 : Int32).toInt = 1 := by decide
  have hl : lv_has ls 3 [(0, .ref (ad 0)), (1, .int p1), (2, .int p2)] := hl
  have hinX4 : ∀ w ∈ wsX40, w ∈ wsX4_strong := (fun _ h => List.mem_cons_of_mem _ (List.mem_append_right _ h))
  rw [f_X4_strong] at hG
  refine lv_aload_n hx hb dX4_strong_0 rfl (lv_at hl 0 rfl) ?_
  refine r_get (C := RX4) (T := TX4) (N := 25) S hK w (k := 0) (by decide) (eM_0 ad _) rfl hinX4 5 (by decide) (List.mem_of_getElem? (i := 1) rfl) rfl dX4_strong_1 ?_
  refine lv_bipush (v := 9) hx hb dX4_strong_4 (by decide) ?_
  refine lv_iload_n hx hb dX4_strong_6 rfl (lv_at hl 1 rfl) ?_
  refine lv_imul hx hb dX4_strong_7 ?_
  refine lv_iload_n hx hb dX4_strong_8 rfl (lv_at hl 2 rfl) ?_
  refine lv_iadd hx hb dX4_strong_9 ?_
  have e8 := km_toInt (a := p1) (k := 9) (z := 9) (by decide) (by omega) (by omega)
  have e9 := a_toInt (a := 9 * p1) (b := p2) (by omega) (by omega)
  have g10 : vp_in ((9 * p1) + p2) 72 := vpi (by omega) (by omega)
  refine r_iald (cA := ad 100) (N := 72) S hK w (k := 2) (by decide) (fun f => rfl) rfl g10 dX4_strong_10 ?_
  exact end0i S hr hlocks hG dX4_strong_11
set_option maxHeartbeats 4000000 in
set_option maxRecDepth 100000 in
theorem c_X4_ofSign (l : Launch) (ad : Nat → Nat) (D : va_G) (sz : Nat) (σ : St) (p1 : Int32) (p2 : Int32) (hok : OkM σ) : Met l yX4_ofSign wsX4_ofSign ({ frames := 2, cells := 0, slots := 0, locals := 46 }) (PreW 18 (eM ad) ad D (tyM ad) σ sz ([.ref (ad 0), .int p1, .int p2] : List Value)) (Q0i (f_X4_ofSign σ p1 p2)) 0 0 N0 := by
  generalize hG : f_X4_ofSign σ p1 p2 = T
  refine headW (cc := cX4_ofSign) (maxL := 3) (ret := (some .int)) ([.ref (ad 0), .int p1, .int p2] : List Value) (by decide) rfl (Nat.le_of_ble_eq_true rfl) ?_
  intro p e s m below meth c S hr hlocks hK hN hsz w ls hl
  have S : CallFix p m c cX4_ofSign 3 s ([.ref (ad 0), .int p1, .int p2] : List Value).toArray wsX4_ofSign RX4 := S
  have hx := S.1
  have hb := S.2.1
  have z0 : (0 : Int32).toInt = 0 := by decide
  have z1 : (1 : Int32).toInt = 1 := by decide
  have hl : lv_has ls 3 [(0, .ref (ad 0)), (1, .int p1), (2, .int p2)] := hl
  have hinX4 : ∀ w ∈ wsX40, w ∈ wsX4_ofSign := (fun _ h => List.mem_cons_of_mem _ (List.mem_append_right _ h))
  have okf0 := hok.1
  have okf1 := hok.2.1
  have okf2 := hok.2.2.1
  have okf3 := hok.2.2.2.1
  have okf4 := hok.2.2.2.2.1
  have okf6 := hok.2.2.2.2.2.1
  have okf7 := hok.2.2.2.2.2.2.1
  have okf8 := hok.2.2.2.2.2.2.2
  rw [f_X4_ofSign] at hG
  refine lv_aload_n hx hb dX4_ofSign_0 rfl (lv_at hl 0 rfl) ?_
  refine lv_iload_n hx hb dX4_ofSign_1 rfl (lv_at hl 1 rfl) ?_
  refine call0i (va_runV (As := [.int p1]) (rest := []) S (c_X4_noSign l ad D s.heap.size σ p1) (cwV 1 S.2.2.2.2 gX4_ofSign_X4_noSign rfl rfl rfl ⟨rfl, hd_X4_noSign⟩ ⟨Nat.le_of_ble_eq_true rfl, Nat.le_of_ble_eq_true rfl⟩) (preV hK hN w (k := 0) (by decide) (eM_0 ad _) (q := (RX4, TX4, 25)) rfl) rfl rfl hl.1 rfl (lv_room (Nat.le_of_ble_eq_true rfl)) dX4_ofSign_2 ⟨Nat.zero_le _, Nat.zero_le _⟩) ?_
  refine lv_if_eq (tgt := 10) hx hb dX4_ofSign_5 (by decide) (fun c5 => ?_) (fun c5 => ?_)
  · have t5 := bf_noSign_z c5
    rw [if_pos c5] at hG
    refine lv_iload_n hx hb dX4_ofSign_10 rfl (lv_at hl 2 rfl) ?_
    refine lv_iconst (v := (-1)) hx hb dX4_ofSign_11 (by decide) ?_
    refine lv_icmp_ne (tgt := 24) hx hb dX4_ofSign_12 (by decide) (fun c12 => ?_) (fun c12 => ?_)
    · have t12 : p2.toInt ≠ -1 := qt_ne c12
      rw [if_neg c12] at hG
      refine lv_iload_n hx hb dX4_ofSign_24 rfl (lv_at hl 2 rfl) ?_
      refine call0i (va_runS (As := [.int p2]) (rest := []) S (c_X4_noSmell l p2) (va_cwS 1 S.2.2.2.2 gX4_ofSign_X4_noSmell rfl rfl rfl hd_X4_noSmell ⟨Nat.le_of_ble_eq_true rfl, Nat.le_of_ble_eq_true rfl⟩) pre0S rfl rfl hl.1 rfl (lv_room (Nat.le_of_ble_eq_true rfl)) dX4_ofSign_25 ⟨Nat.zero_le _, Nat.zero_le _⟩) ?_
      refine lv_if_eq (tgt := 36) hx hb dX4_ofSign_28 (by decide) (fun c28 => ?_) (fun c28 => ?_)
      · have t28 := bf_noSmell_z c28
        rw [if_pos c28] at hG
        refine lv_aload_n hx hb dX4_ofSign_36 rfl (lv_at hl 0 rfl) ?_
        refine lv_iload_n hx hb dX4_ofSign_37 rfl (lv_at hl 1 rfl) ?_
        refine lv_iload_n hx hb dX4_ofSign_38 rfl (lv_at hl 2 rfl) ?_
        refine call0i (va_runV (As := [.int p1, .int p2]) (rest := []) S (c_X4_strong l ad D s.heap.size σ p1 p2 (by omega) (by omega)) (cwV 2 S.2.2.2.2 gX4_ofSign_X4_strong rfl rfl rfl ⟨rfl, hd_X4_strong⟩ ⟨Nat.le_of_ble_eq_true rfl, Nat.le_of_ble_eq_true rfl⟩) (preV hK hN w (k := 0) (by decide) (eM_0 ad _) (q := (RX4, TX4, 25)) rfl) rfl rfl hl.1 rfl (lv_room (Nat.le_of_ble_eq_true rfl)) dX4_ofSign_39 ⟨Nat.zero_le _, Nat.zero_le _⟩) ?_
        exact end0i S hr hlocks hG dX4_ofSign_42
      · rw [if_neg c28] at hG
        refine lv_bipush (v := (-2)) hx hb dX4_ofSign_31 (by decide) ?_
        refine lv_goto (tgt := 42) hx hb dX4_ofSign_33 (by decide) ?_
        exact end0i S hr hlocks hG dX4_ofSign_42
    · have t12 : p2.toInt = -1 := qt_eq c12
      rw [if_pos c12] at hG
      refine lv_aload_n hx hb dX4_ofSign_15 rfl (lv_at hl 0 rfl) ?_
      refine r_get (C := RX4) (T := TX4) (N := 25) S hK w (k := 0) (by decide) (eM_0 ad _) rfl hinX4 4 (by decide) (List.mem_of_getElem? (i := 1) rfl) rfl dX4_ofSign_16 ?_
      refine lv_iload_n hx hb dX4_ofSign_19 rfl (lv_at hl 1 rfl) ?_
      have g20 : vp_in p1 8 := vpi (by omega) (by omega)
      refine r_iald (cA := ad 100) (N := 8) S hK w (k := 1) (by decide) (fun f => rfl) rfl g20 dX4_ofSign_20 ?_
      refine lv_goto (tgt := 42) hx hb dX4_ofSign_21 (by decide) ?_
      exact end0i S hr hlocks hG dX4_ofSign_42
  · rw [if_neg c5] at hG
    refine lv_iconst (v := (-1)) hx hb dX4_ofSign_8 (by decide) ?_
    exact end0i S hr hlocks hG dX4_ofSign_9
set_option maxHeartbeats 4000000 in
set_option maxRecDepth 100000 in
theorem c_X4_half (l : Launch) (ad : Nat → Nat) (D : va_G) (sz : Nat) (σ : St) (p1 : Int32) (p2 : Int32) : Met l yX4_half wsX4_half ({ frames := 2, cells := 0, slots := 0, locals := 45 }) (PreW 18 (eM ad) ad D (tyM ad) σ sz ([.ref (ad 0), .int p1, .int p2] : List Value)) (QWi 18 (eM ad) ad D (f_X4_half σ p1 p2) (CA 18 ad sz)) 0 0 (CA 18 ad sz) := by
  generalize hG : f_X4_half σ p1 p2 = T
  refine headW (cc := cX4_half) (maxL := 4) (ret := (some .int)) ([.ref (ad 0), .int p1, .int p2] : List Value) (by decide) rfl (Nat.le_of_ble_eq_true rfl) ?_
  intro p e s m below meth c S hr hlocks hK hN hsz w ls hl
  have S : CallFix p m c cX4_half 4 s ([.ref (ad 0), .int p1, .int p2] : List Value).toArray wsX4_half RX4 := S
  have hx := S.1
  have hb := S.2.1
  have z0 : (0 : Int32).toInt = 0 := by decide
  have z1 : (1 : Int32).toInt = 1 := by decide
  have hl : lv_has ls 4 [(0, .ref (ad 0)), (1, .int p1), (2, .int p2)] := hl
  have hinX4 : ∀ w ∈ wsX40, w ∈ wsX4_half := (fun _ h => List.mem_cons_of_mem _ (List.mem_append_right _ h))
  rw [f_X4_half] at hG
  refine lv_iload_n hx hb dX4_half_0 rfl (lv_at hl 1 rfl) ?_
  refine call0i (va_runS (As := [.int p1]) (rest := []) S (c_X4_noSmell l p1) (va_cwS 1 S.2.2.2.2 gX4_half_X4_noSmell rfl rfl rfl hd_X4_noSmell ⟨Nat.le_of_ble_eq_true rfl, Nat.le_of_ble_eq_true rfl⟩) pre0S rfl rfl hl.1 rfl (lv_room (Nat.le_of_ble_eq_true rfl)) dX4_half_1 ⟨Nat.zero_le _, Nat.zero_le _⟩) ?_
  refine lv_if_eq (tgt := 9) hx hb dX4_half_4 (by decide) (fun c4 => ?_) (fun c4 => ?_)
  · have t4 := bf_noSmell_z c4
    rw [if_pos c4] at hG
    refine lv_iload_n hx hb dX4_half_9 rfl (lv_at hl 2 rfl) ?_
    refine lv_i2l hx hb dX4_half_10 rfl ?_
    refine lv_lconst (v := 1) hx hb dX4_half_11 (by decide) ?_
    refine lv_ldc2 hx hb S.2.2.2.1 (S.2.2.2.2 _ (List.mem_of_getElem? (i := 1) rfl)) dX4_half_12 ?_
    refine call0i (va_runS (As := [.long p2.toInt64, .long 1, .long 9]) (rest := []) S (c_X4_in l p2.toInt64 1 9) (va_cwS 3 S.2.2.2.2 gX4_half_X4_in rfl rfl rfl hd_X4_in ⟨Nat.le_of_ble_eq_true rfl, Nat.le_of_ble_eq_true rfl⟩) pre0S rfl rfl hl.1 rfl (lv_room (Nat.le_of_ble_eq_true rfl)) dX4_half_15 ⟨Nat.zero_le _, Nat.zero_le _⟩) ?_
    refine lv_if_ne (tgt := 24) hx hb dX4_half_18 (by decide) (fun c18 => ?_) (fun c18 => ?_)
    · have t18 := bf_in_n c18
      rw [if_neg c18] at hG
      refine lv_aload_n hx hb dX4_half_24 rfl (lv_at hl 0 rfl) ?_
      refine r_get (C := RX4) (T := TX4) (N := 25) S hK w (k := 0) (by decide) (eM_0 ad _) rfl hinX4 1 (by decide) (List.mem_of_getElem? (i := 2) rfl) rfl dX4_half_25 ?_
      refine lv_if_ne (tgt := 34) hx hb dX4_half_28 (by decide) (fun c28 => ?_) (fun c28 => ?_)
      · have t28 : (σ 0 1).toInt ≠ 0 := qt_ne c28
        rw [if_neg c28] at hG
        refine lv_aload_n hx hb dX4_half_34 rfl (lv_at hl 0 rfl) ?_
        refine r_get (C := RX4) (T := TX4) (N := 25) S hK w (k := 0) (by decide) (eM_0 ad _) rfl hinX4 6 (by decide) (List.mem_of_getElem? (i := 3) rfl) rfl dX4_half_35 ?_
        refine lv_iload_n hx hb dX4_half_38 rfl (lv_at hl 1 rfl) ?_
        have g39 : vp_in p1 9 := vpi (by omega) (by omega)
        refine r_iald (cA := ad 100) (N := 9) S hK w (k := 3) (by decide) (fun f => rfl) rfl g39 dX4_half_39 ?_
        refine lv_istore_n (lv' := [(3, .int (σ 3 (ix p1))), (0, .ref (ad 0)), (1, .int p1), (2, .int p2)]) hx hb dX4_half_40 rfl hl (by decide) rfl (fun ls hl => ?_)
        refine lv_aload_n hx hb dX4_half_41 rfl (lv_at hl 1 rfl) ?_
        refine r_get (C := RX4) (T := TX4) (N := 25) S hK w (k := 0) (by decide) (eM_0 ad _) rfl hinX4 6 (by decide) (List.mem_of_getElem? (i := 3) rfl) rfl dX4_half_42 ?_
        refine lv_iload_n hx hb dX4_half_45 rfl (lv_at hl 2 rfl) ?_
        refine lv_iload_n hx hb dX4_half_46 rfl (lv_at hl 3 rfl) ?_
        have g47 : vp_in p1 9 := vpi (by omega) (by omega)
        refine r_iast (cA := ad 100) (N := 9) S hK w (k := 3) (by decide) (fun f => rfl) rfl g47 dX4_half_47 (fun H locs w => ?_)
        refine lv_iload_n hx hb dX4_half_48 rfl (lv_at hl 0 rfl) ?_
        exact endWi S hr hlocks w hG dX4_half_49
      · have t28 : (σ 0 1).toInt = 0 := qt_eq c28
        rw [if_pos c28] at hG
        refine lv_bipush (v := (-3)) hx hb dX4_half_31 (by decide) ?_
        exact endWi S hr hlocks w hG dX4_half_33
    · rw [if_pos c18] at hG
      refine lv_bipush (v := (-2)) hx hb dX4_half_21 (by decide) ?_
      exact endWi S hr hlocks w hG dX4_half_23
  · rw [if_neg c4] at hG
    refine lv_iconst (v := (-1)) hx hb dX4_half_7 (by decide) ?_
    exact endWi S hr hlocks w hG dX4_half_8
set_option maxHeartbeats 4000000 in
set_option maxRecDepth 100000 in
theorem c_X4_bound (l : Launch) (ad : Nat → Nat) (D : va_G) (sz : Nat) (σ : St) (p1 : Int32) : Met l yX4_bound wsX4_bound ({ frames := 1, cells := 0, slots := 0, locals := 25 }) (PreW 18 (eM ad) ad D (tyM ad) σ sz ([.ref (ad 0), .int p1] : List Value)) (QWi 18 (eM ad) ad D (f_X4_bound σ p1) (CA 18 ad sz)) 0 0 (CA 18 ad sz) := by
  generalize hG : f_X4_bound σ p1 = T
  refine headW (cc := cX4_bound) (maxL := 3) (ret := (some .int)) ([.ref (ad 0), .int p1] : List Value) (by decide) rfl (Nat.le_of_ble_eq_true rfl) ?_
  intro p e s m below meth c S hr hlocks hK hN hsz w ls hl
  have S : CallFix p m c cX4_bound 3 s ([.ref (ad 0), .int p1] : List Value).toArray wsX4_bound RX4 := S
  have hx := S.1
  have hb := S.2.1
  have z0 : (0 : Int32).toInt = 0 := by decide
  have z1 : (1 : Int32).toInt = 1 := by decide
  have hl : lv_has ls 3 [(0, .ref (ad 0)), (1, .int p1)] := hl
  have hinX4 : ∀ w ∈ wsX40, w ∈ wsX4_bound := (fun _ h => List.mem_cons_of_mem _ (List.mem_append_right _ h))
  rw [f_X4_bound] at hG
  refine lv_iload_n hx hb dX4_bound_0 rfl (lv_at hl 1 rfl) ?_
  refine lv_i2l hx hb dX4_bound_1 rfl ?_
  refine lv_lconst (v := 0) hx hb dX4_bound_2 (by decide) ?_
  refine lv_ldc2 hx hb S.2.2.2.1 (S.2.2.2.2 _ (List.mem_of_getElem? (i := 1) rfl)) dX4_bound_3 ?_
  refine call0i (va_runS (As := [.long p1.toInt64, .long 0, .long 999]) (rest := []) S (c_X4_in l p1.toInt64 0 999) (va_cwS 3 S.2.2.2.2 gX4_bound_X4_in rfl rfl rfl hd_X4_in ⟨Nat.le_of_ble_eq_true rfl, Nat.le_of_ble_eq_true rfl⟩) pre0S rfl rfl hl.1 rfl (lv_room (Nat.le_of_ble_eq_true rfl)) dX4_bound_6 ⟨Nat.zero_le _, Nat.zero_le _⟩) ?_
  refine lv_if_ne (tgt := 15) hx hb dX4_bound_9 (by decide) (fun c9 => ?_) (fun c9 => ?_)
  · have t9 := bf_in_n c9
    rw [if_neg c9] at hG
    refine lv_aload_n hx hb dX4_bound_15 rfl (lv_at hl 0 rfl) ?_
    refine r_get (C := RX4) (T := TX4) (N := 25) S hK w (k := 0) (by decide) (eM_0 ad _) rfl hinX4 1 (by decide) (List.mem_of_getElem? (i := 2) rfl) rfl dX4_bound_16 ?_
    refine lv_if_ne (tgt := 25) hx hb dX4_bound_19 (by decide) (fun c19 => ?_) (fun c19 => ?_)
    · have t19 : (σ 0 1).toInt ≠ 0 := qt_ne c19
      rw [if_neg c19] at hG
      refine lv_aload_n hx hb dX4_bound_25 rfl (lv_at hl 0 rfl) ?_
      refine r_get (C := RX4) (T := TX4) (N := 25) S hK w (k := 0) (by decide) (eM_0 ad _) rfl hinX4 3 (by decide) (List.mem_of_getElem? (i := 3) rfl) rfl dX4_bound_26 ?_
      refine lv_istore_n (lv' := [(2, .int (σ 0 3)), (0, .ref (ad 0)), (1, .int p1)]) hx hb dX4_bound_29 rfl hl (by decide) rfl (fun ls hl => ?_)
      refine lv_aload_n hx hb dX4_bound_30 rfl (lv_at hl 1 rfl) ?_
      refine lv_iload_n hx hb dX4_bound_31 rfl (lv_at hl 2 rfl) ?_
      refine r_put (C := RX4) (T := TX4) (N := 25) S hK w (k := 0) (by decide) (eM_0 ad _) rfl hinX4 tyX4 tyX4_ok nmX4 3 (by decide) (List.mem_of_getElem? (i := 3) rfl) rfl (x := p1) (ty := .int) (by decide +kernel) rfl rfl (by show _ < List.length _; exact Nat.le_of_ble_eq_true rfl) (sM ad _ _ 3 (by decide)) dX4_bound_32 (fun H locs w => ?_)
      refine lv_iload_n hx hb dX4_bound_35 rfl (lv_at hl 0 rfl) ?_
      exact endWi S hr hlocks w hG dX4_bound_36
    · have t19 : (σ 0 1).toInt = 0 := qt_eq c19
      rw [if_pos c19] at hG
      refine lv_bipush (v := (-3)) hx hb dX4_bound_22 (by decide) ?_
      exact endWi S hr hlocks w hG dX4_bound_24
  · rw [if_pos c9] at hG
    refine lv_bipush (v := (-2)) hx hb dX4_bound_12 (by decide) ?_
    exact endWi S hr hlocks w hG dX4_bound_14
set_option maxHeartbeats 4000000 in
set_option maxRecDepth 100000 in
theorem c_X4_year (l : Launch) (ad : Nat → Nat) (D : va_G) (sz : Nat) (σ : St) (p1 : Int32) : Met l yX4_year wsX4_year ({ frames := 1, cells := 0, slots := 0, locals := 25 }) (PreW 18 (eM ad) ad D (tyM ad) σ sz ([.ref (ad 0), .int p1] : List Value)) (QWi 18 (eM ad) ad D (f_X4_year σ p1) (CA 18 ad sz)) 0 0 (CA 18 ad sz) := by
  generalize hG : f_X4_year σ p1 = T
  refine headW (cc := cX4_year) (maxL := 3) (ret := (some .int)) ([.ref (ad 0), .int p1] : List Value) (by decide) rfl (Nat.le_of_ble_eq_true rfl) ?_
  intro p e s m below meth c S hr hlocks hK hN hsz w ls hl
  have S : CallFix p m c cX4_year 3 s ([.ref (ad 0), .int p1] : List Value).toArray wsX4_year RX4 := S
  have hx := S.1
  have hb := S.2.1
  have z0 : (0 : Int32).toInt = 0 := by decide
  have z1 : (1 : Int32).toInt = 1 := by decide
  have hl : lv_has ls 3 [(0, .ref (ad 0)), (1, .int p1)] := hl
  have hinX4 : ∀ w ∈ wsX40, w ∈ wsX4_year := (fun _ h => List.mem_cons_of_mem _ (List.mem_append_right _ h))
  rw [f_X4_year] at hG
  refine lv_iload_n hx hb dX4_year_0 rfl (lv_at hl 1 rfl) ?_
  refine lv_i2l hx hb dX4_year_1 rfl ?_
  refine lv_aload_n hx hb dX4_year_2 rfl (lv_at hl 0 rfl) ?_
  refine r_get (C := RX4) (T := TX4) (N := 25) S hK w (k := 0) (by decide) (eM_0 ad _) rfl hinX4 2 (by decide) (List.mem_of_getElem? (i := 1) rfl) rfl dX4_year_3 ?_
  refine lv_i2l hx hb dX4_year_6 rfl ?_
  refine lv_ldc2 hx hb S.2.2.2.1 (S.2.2.2.2 _ (List.mem_of_getElem? (i := 2) rfl)) dX4_year_7 ?_
  refine call0i (va_runS (As := [.long p1.toInt64, .long ((σ 0 2).toInt64), .long 99]) (rest := []) S (c_X4_in l p1.toInt64 ((σ 0 2).toInt64) 99) (va_cwS 3 S.2.2.2.2 gX4_year_X4_in rfl rfl rfl hd_X4_in ⟨Nat.le_of_ble_eq_true rfl, Nat.le_of_ble_eq_true rfl⟩) pre0S rfl rfl hl.1 rfl (lv_room (Nat.le_of_ble_eq_true rfl)) dX4_year_10 ⟨Nat.zero_le _, Nat.zero_le _⟩) ?_
  refine lv_if_ne (tgt := 19) hx hb dX4_year_13 (by decide) (fun c13 => ?_) (fun c13 => ?_)
  · have t13 := bf_in_n c13
    rw [if_neg c13] at hG
    refine lv_aload_n hx hb dX4_year_19 rfl (lv_at hl 0 rfl) ?_
    refine r_get (C := RX4) (T := TX4) (N := 25) S hK w (k := 0) (by decide) (eM_0 ad _) rfl hinX4 1 (by decide) (List.mem_of_getElem? (i := 3) rfl) rfl dX4_year_20 ?_
    refine lv_if_ne (tgt := 29) hx hb dX4_year_23 (by decide) (fun c23 => ?_) (fun c23 => ?_)
    · have t23 : (σ 0 1).toInt ≠ 0 := qt_ne c23
      rw [if_neg c23] at hG
      refine lv_aload_n hx hb dX4_year_29 rfl (lv_at hl 0 rfl) ?_
      refine r_get (C := RX4) (T := TX4) (N := 25) S hK w (k := 0) (by decide) (eM_0 ad _) rfl hinX4 2 (by decide) (List.mem_of_getElem? (i := 1) rfl) rfl dX4_year_30 ?_
      refine lv_istore_n (lv' := [(2, .int (σ 0 2)), (0, .ref (ad 0)), (1, .int p1)]) hx hb dX4_year_33 rfl hl (by decide) rfl (fun ls hl => ?_)
      refine lv_aload_n hx hb dX4_year_34 rfl (lv_at hl 1 rfl) ?_
      refine lv_iload_n hx hb dX4_year_35 rfl (lv_at hl 2 rfl) ?_
      refine r_put (C := RX4) (T := TX4) (N := 25) S hK w (k := 0) (by decide) (eM_0 ad _) rfl hinX4 tyX4 tyX4_ok nmX4 2 (by decide) (List.mem_of_getElem? (i := 1) rfl) rfl (x := p1) (ty := .int) (by decide +kernel) rfl rfl (by show _ < List.length _; exact Nat.le_of_ble_eq_true rfl) (sM ad _ _ 2 (by decide)) dX4_year_36 (fun H locs w => ?_)
      refine lv_iload_n hx hb dX4_year_39 rfl (lv_at hl 0 rfl) ?_
      exact endWi S hr hlocks w hG dX4_year_40
    · have t23 : (σ 0 1).toInt = 0 := qt_eq c23
      rw [if_pos c23] at hG
      refine lv_bipush (v := (-3)) hx hb dX4_year_26 (by decide) ?_
      exact endWi S hr hlocks w hG dX4_year_28
  · rw [if_pos c13] at hG
    refine lv_bipush (v := (-2)) hx hb dX4_year_16 (by decide) ?_
    exact endWi S hr hlocks w hG dX4_year_18
set_option maxHeartbeats 4000000 in
set_option maxRecDepth 100000 in
theorem c_X4_fades (l : Launch) (ad : Nat → Nat) (D : va_G) (sz : Nat) (σ : St) (p1 : Int32) (p2 : Int32) (p3 : Int32) (p4 : Int32) (hok : OkM σ) (hx1 : 0 ≤ p1.toInt ∧ p1.toInt < 8) (hsm : 0 ≤ p2.toInt ∧ p2.toInt < 9) (hsg : (σ 0 1).toInt ≠ 0) (hyr : -1000 ≤ p4.toInt ∧ p4.toInt ≤ 99) : Met l yX4_fades wsX4_fades ({ frames := 0, cells := 0, slots := 0, locals := 0 }) (PreW 18 (eM ad) ad D (tyM ad) σ sz ([.ref (ad 0), .int p1, .int p2, .int p3, .int p4] : List Value)) (Q0i (f_X4_fades σ p1 p2 p3 p4)) 0 0 N0 := by
  generalize hG : f_X4_fades σ p1 p2 p3 p4 = T
  refine headW (cc := cX4_fades) (maxL := 8) (ret := (some .int)) ([.ref (ad 0), .int p1, .int p2, .int p3, .int p4] : List Value) (by decide) rfl (Nat.le_of_ble_eq_true rfl) ?_
  intro p e s m below meth c S hr hlocks hK hN hsz w ls hl
  have S : CallFix p m c cX4_fades 8 s ([.ref (ad 0), .int p1, .int p2, .int p3, .int p4] : List Value).toArray wsX4_fades RX4 := S
  have hx := S.1
  have hb := S.2.1
  have z0 : (0 : Int32).toInt = 0 := by decide
  have z1 : (1 : Int32).toInt = 1 := by decide
  have hl : lv_has ls 8 [(0, .ref (ad 0)), (1, .int p1), (2, .int p2), (3, .int p3), (4, .int p4)] := hl
  have hinX4 : ∀ w ∈ wsX40, w ∈ wsX4_fades := (fun _ h => List.mem_cons_of_mem _ (List.mem_append_right _ h))
  have okf0 := hok.1
  have okf1 := hok.2.1
  have okf2 := hok.2.2.1
  have okf3 := hok.2.2.2.1
  have okf4 := hok.2.2.2.2.1
  have okf6 := hok.2.2.2.2.2.1
  have okf7 := hok.2.2.2.2.2.2.1
  have okf8 := hok.2.2.2.2.2.2.2
  rw [f_X4_fades] at hG
  refine lv_iload hx hb dX4_fades_0 (lv_at hl 4 rfl) ?_
  refine lv_aload_n hx hb dX4_fades_2 rfl (lv_at hl 0 rfl) ?_
  refine r_get (C := RX4) (T := TX4) (N := 25) S hK w (k := 0) (by decide) (eM_0 ad _) rfl hinX4 6 (by decide) (List.mem_of_getElem? (i := 1) rfl) rfl dX4_fades_3 ?_
  refine lv_iload_n hx hb dX4_fades_6 rfl (lv_at hl 2 rfl) ?_
  have g7 : vp_in p2 9 := vpi (by omega) (by omega)
  refine r_iald (cA := ad 100) (N := 9) S hK w (k := 3) (by decide) (fun f => rfl) rfl g7 dX4_fades_7 ?_
  refine lv_idiv hx hb dX4_fades_8 (nz_of (okf2 _ (vpl g7) hsg).1) ?_
  have d8 := dv_le (a := p4) (b := σ 3 (ix p2)) (z := 99) (by omega) (by omega) (okf2 _ (vpl g7) hsg).1 (by omega)
  have d9 := dv_ge (a := p4) (b := σ 3 (ix p2)) (by omega) (okf2 _ (vpl g7) hsg).1
  refine lv_istore (lv' := [(5, .int (p4 / (σ 3 (ix p2)))), (0, .ref (ad 0)), (1, .int p1), (2, .int p2), (3, .int p3), (4, .int p4)]) hx hb dX4_fades_9 hl (by decide) rfl (fun ls hl => ?_)
  refine lv_aload_n hx hb dX4_fades_11 rfl (lv_at hl 1 rfl) ?_
  refine r_get (C := RX4) (T := TX4) (N := 25) S hK w (k := 0) (by decide) (eM_0 ad _) rfl hinX4 4 (by decide) (List.mem_of_getElem? (i := 2) rfl) rfl dX4_fades_12 ?_
  refine lv_iload_n hx hb dX4_fades_15 rfl (lv_at hl 2 rfl) ?_
  have g16 : vp_in p1 8 := vpi (by omega) (by omega)
  refine r_iald (cA := ad 100) (N := 8) S hK w (k := 1) (by decide) (fun f => rfl) rfl g16 dX4_fades_16 ?_
  have J17_43 : ∀ (k0_17_43 : Int32), (k0_17_43.toInt ≤ 99) → (lp_X4_fades_51 σ k0_17_43 200 p3 0) = T → ∀ ls : Array Slot, lv_has ls 8 [(0, .ref (ad 0)), (3, .int p3)] → W p l e (headSpec wsX4_fades ({ frames := 0, cells := 0, slots := 0, locals := 0 })).room s m ([.ref (ad 0), .int p1, .int p2, .int p3, .int p4] : List Value).toArray below meth c s.heap [] 0 0 (MQ below (Q0i T) ([.ref (ad 0), .int p1, .int p2, .int p3, .int p4] : List Value).toArray s 0 0 N0) (F0 m 43 ls [.int k0_17_43]) := by
    intro k0_17_43 jq43_0 hG ls hl
    refine lv_istore (lv' := [(5, .int k0_17_43), (0, .ref (ad 0)), (3, .int p3)]) hx hb dX4_fades_43 hl (by decide) rfl (fun ls hl => ?_)
    refine lv_iload_n hx hb dX4_fades_45 rfl (lv_at hl 2 rfl) ?_
    refine lv_istore (lv' := [(6, .int p3), (5, .int k0_17_43), (0, .ref (ad 0)), (3, .int p3)]) hx hb dX4_fades_46 hl (by decide) rfl (fun ls hl => ?_)
    refine lv_iconst (v := 0) hx hb dX4_fades_48 (by decide) ?_
    refine lv_istore (lv' := [(7, .int 0), (6, .int p3), (5, .int k0_17_43), (0, .ref (ad 0)), (3, .int p3)]) hx hb dX4_fades_49 hl (by decide) rfl (fun ls hl => ?_)
    have L51 : ∀ (n : Nat) (res51 : Int32), ∀ (v6_51 : Int32), ∀ (v7_51 : Int32), ((0 ≤ v7_51.toInt ∧ v7_51.toInt ≤ 99)) → (99 - v7_51.toInt).toNat < n → (lp_X4_fades_51 σ k0_17_43 n v6_51 v7_51) = res51 → (∀ (v6_51e : Int32), res51 = v6_51e → ∀ ls : Array Slot, lv_has ls 8 [(0, .ref (ad 0)), (6, .int v6_51e)] → W p l e (headSpec wsX4_fades ({ frames := 0, cells := 0, slots := 0, locals := 0 })).room s m ([.ref (ad 0), .int p1, .int p2, .int p3, .int p4] : List Value).toArray below meth c s.heap [] 0 0 (MQ below (Q0i T) ([.ref (ad 0), .int p1, .int p2, .int p3, .int p4] : List Value).toArray s 0 0 N0) (F0 m 75 ls [])) → ∀ ls : Array Slot, lv_has ls 8 [(0, .ref (ad 0)), (5, .int k0_17_43), (6, .int v6_51), (7, .int v7_51)] → W p l e (headSpec wsX4_fades ({ frames := 0, cells := 0, slots := 0, locals := 0 })).room s m ([.ref (ad 0), .int p1, .int p2, .int p3, .int p4] : List Value).toArray below meth c s.heap [] 0 0 (MQ below (Q0i T) ([.ref (ad 0), .int p1, .int p2, .int p3, .int p4] : List Value).toArray s 0 0 N0) (F0 m 51 ls []) := by
      intro n
      induction n with
      | zero => intro _ _ _ _ hm; exact absurd hm (Nat.not_lt_zero _)
      | succ n ih51 =>
        intro res51 v6_51 v7_51 hI51 hm51 hG hex51 ls hl
        have i51_0 := hI51
        rw [lp_X4_fades_51] at hG
        refine lv_iload hx hb dX4_fades_51 (lv_at hl 3 rfl) ?_
        refine lv_iload hx hb dX4_fades_53 (lv_at hl 1 rfl) ?_
        refine lv_icmp_ge (tgt := 75) hx hb dX4_fades_55 (by decide) (fun c55 => ?_) (fun c55 => ?_)
        · have t55 : k0_17_43.toInt ≤ v7_51.toInt := qt_le c55
          rw [if_pos c55] at hG
          exact hex51 v6_51 hG.symm ls (lv_sub hl [0, 2] rfl)
        · have t55 : v7_51.toInt < k0_17_43.toInt := qt_nle c55
          rw [if_neg c55] at hG
          refine lv_iload hx hb dX4_fades_58 (lv_at hl 2 rfl) ?_
          refine lv_if_le (tgt := 75) hx hb dX4_fades_60 (by decide) (fun c60 => ?_) (fun c60 => ?_)
          · have t60 : v6_51.toInt ≤ 0 := qt_le c60
            rw [if_pos c60] at hG
            exact hex51 v6_51 hG.symm ls (lv_sub hl [0, 2] rfl)
          · have t60 : 0 < v6_51.toInt := qt_nle c60
            rw [if_neg c60] at hG
            refine lv_iload hx hb dX4_fades_63 (lv_at hl 2 rfl) ?_
            refine lv_iconst (v := 2) hx hb dX4_fades_65 (by decide) ?_
            refine lv_idiv hx hb dX4_fades_66 (by decide) ?_
            refine lv_istore (lv' := [(6, .int (v6_51 / 2)), (0, .ref (ad 0)), (5, .int k0_17_43), (7, .int v7_51)]) hx hb dX4_fades_67 hl (by decide) rfl (fun ls hl => ?_)
            refine lv_iinc (v := (v7_51 + 1)) (lv' := [(7, .int (v7_51 + 1)), (6, .int (v6_51 / 2)), (0, .ref (ad 0)), (5, .int k0_17_43)]) hx hb dX4_fades_69 hl (k := 3) rfl rfl (by decide) rfl (fun ls hl => ?_)
            refine lv_goto (tgt := 51) hx hb dX4_fades_72 (by decide) ?_
            have b7_51 : (v7_51 + 1).toInt = v7_51.toInt + 1 := inc_toInt (by omega) (by omega)
            exact ih51 _ (v6_51 / 2) (v7_51 + 1) (by omega) (by omega) hG hex51 ls (lv_sub hl [2, 3, 1, 0] rfl)
    refine L51 200 _ p3 0 (by omega) (by omega) rfl (fun v6_51e hr51 ls hl => ?_) ls (lv_sub hl [3, 2, 1, 0] rfl)
    rw [hr51] at hG
    refine lv_iload hx hb dX4_fades_75 (lv_at hl 1 rfl) ?_
    exact end0i S hr hlocks hG dX4_fades_77
  refine lv_if_ne (tgt := 25) hx hb dX4_fades_17 (by decide) (fun c17 => ?_) (fun c17 => ?_)
  · have t17 : (σ 1 (ix p1)).toInt ≠ 0 := qt_ne c17
    simp only [if_neg c17] at hG
    refine lv_aload_n hx hb dX4_fades_25 rfl (lv_at hl 1 rfl) ?_
    refine r_get (C := RX4) (T := TX4) (N := 25) S hK w (k := 0) (by decide) (eM_0 ad _) rfl hinX4 4 (by decide) (List.mem_of_getElem? (i := 2) rfl) rfl dX4_fades_26 ?_
    refine lv_iload_n hx hb dX4_fades_29 rfl (lv_at hl 2 rfl) ?_
    have g30 : vp_in p1 8 := vpi (by omega) (by omega)
    refine r_iald (cA := ad 100) (N := 8) S hK w (k := 1) (by decide) (fun f => rfl) rfl g30 dX4_fades_30 ?_
    refine lv_iconst (v := 1) hx hb dX4_fades_31 (by decide) ?_
    refine lv_icmp_ne (tgt := 42) hx hb dX4_fades_32 (by decide) (fun c32 => ?_) (fun c32 => ?_)
    · have t32 : (σ 1 (ix p1)).toInt ≠ 1 := qt_ne c32
      simp only [if_neg c32] at hG
      refine lv_iconst (v := 0) hx hb dX4_fades_42 (by decide) ?_
      exact J17_43 0 (by first | exact d8 | exact dv_le (b := 2) (by omega) d8 (by decide) (by omega) | decide) hG ls (lv_sub hl [1, 4] rfl)
    · have t32 : (σ 1 (ix p1)).toInt = 1 := qt_eq c32
      simp only [if_pos c32] at hG
      refine lv_iload hx hb dX4_fades_35 (lv_at hl 0 rfl) ?_
      refine lv_iconst (v := 2) hx hb dX4_fades_37 (by decide) ?_
      refine lv_idiv hx hb dX4_fades_38 (by decide) ?_
      refine lv_goto (tgt := 43) hx hb dX4_fades_39 (by decide) ?_
      exact J17_43 ((p4 / (σ 3 (ix p2))) / 2) (by first | exact d8 | exact dv_le (b := 2) (by omega) d8 (by decide) (by omega) | decide) hG ls (lv_sub hl [1, 4] rfl)
  · have t17 : (σ 1 (ix p1)).toInt = 0 := qt_eq c17
    simp only [if_pos c17] at hG
    refine lv_iload hx hb dX4_fades_20 (lv_at hl 0 rfl) ?_
    refine lv_goto (tgt := 43) hx hb dX4_fades_22 (by decide) ?_
    exact J17_43 (p4 / (σ 3 (ix p2))) (by first | exact d8 | exact dv_le (b := 2) (by omega) d8 (by decide) (by omega) | decide) hG ls (lv_sub hl [1, 4] rfl)
set_option maxHeartbeats 4000000 in
set_option maxRecDepth 100000 in
theorem c_X4_faded (l : Launch) (ad : Nat → Nat) (D : va_G) (sz : Nat) (σ : St) (p1 : Int32) (p2 : Int32) (p3 : Int32) (p4 : Int32) (hok : OkM σ) : Met l yX4_faded wsX4_faded ({ frames := 2, cells := 0, slots := 0, locals := 46 }) (PreW 18 (eM ad) ad D (tyM ad) σ sz ([.ref (ad 0), .int p1, .int p2, .int p3, .int p4] : List Value)) (Q0i (f_X4_faded σ p1 p2 p3 p4)) 0 0 N0 := by
  generalize hG : f_X4_faded σ p1 p2 p3 p4 = T
  refine headW (cc := cX4_faded) (maxL := 5) (ret := (some .int)) ([.ref (ad 0), .int p1, .int p2, .int p3, .int p4] : List Value) (by decide) rfl (Nat.le_of_ble_eq_true rfl) ?_
  intro p e s m below meth c S hr hlocks hK hN hsz w ls hl
  have S : CallFix p m c cX4_faded 5 s ([.ref (ad 0), .int p1, .int p2, .int p3, .int p4] : List Value).toArray wsX4_faded RX4 := S
  have hx := S.1
  have hb := S.2.1
  have z0 : (0 : Int32).toInt = 0 := by decide
  have z1 : (1 : Int32).toInt = 1 := by decide
  have hl : lv_has ls 5 [(0, .ref (ad 0)), (1, .int p1), (2, .int p2), (3, .int p3), (4, .int p4)] := hl
  have hinX4 : ∀ w ∈ wsX40, w ∈ wsX4_faded := (fun _ h => List.mem_cons_of_mem _ (List.mem_append_right _ h))
  have okf0 := hok.1
  have okf1 := hok.2.1
  have okf2 := hok.2.2.1
  have okf3 := hok.2.2.2.1
  have okf4 := hok.2.2.2.2.1
  have okf6 := hok.2.2.2.2.2.1
  have okf7 := hok.2.2.2.2.2.2.1
  have okf8 := hok.2.2.2.2.2.2.2
  rw [f_X4_faded] at hG
  refine lv_aload_n hx hb dX4_faded_0 rfl (lv_at hl 0 rfl) ?_
  refine lv_iload_n hx hb dX4_faded_1 rfl (lv_at hl 1 rfl) ?_
  refine call0i (va_runV (As := [.int p1]) (rest := []) S (c_X4_noSign l ad D s.heap.size σ p1) (cwV 1 S.2.2.2.2 gX4_faded_X4_noSign rfl rfl rfl ⟨rfl, hd_X4_noSign⟩ ⟨Nat.le_of_ble_eq_true rfl, Nat.le_of_ble_eq_true rfl⟩) (preV hK hN w (k := 0) (by decide) (eM_0 ad _) (q := (RX4, TX4, 25)) rfl) rfl rfl hl.1 rfl (lv_room (Nat.le_of_ble_eq_true rfl)) dX4_faded_2 ⟨Nat.zero_le _, Nat.zero_le _⟩) ?_
  refine lv_if_ne (tgt := 15) hx hb dX4_faded_5 (by decide) (fun c5 => ?_) (fun c5 => ?_)
  · rw [if_neg c5] at hG
    refine lv_iconst (v := (-1)) hx hb dX4_faded_15 (by decide) ?_
    exact end0i S hr hlocks hG dX4_faded_16
  · have t5 := bf_noSign_z c5
    rw [if_pos c5] at hG
    refine lv_iload_n hx hb dX4_faded_8 rfl (lv_at hl 2 rfl) ?_
    refine call0i (va_runS (As := [.int p2]) (rest := []) S (c_X4_noSmell l p2) (va_cwS 1 S.2.2.2.2 gX4_faded_X4_noSmell rfl rfl rfl hd_X4_noSmell ⟨Nat.le_of_ble_eq_true rfl, Nat.le_of_ble_eq_true rfl⟩) pre0S rfl rfl hl.1 rfl (lv_room (Nat.le_of_ble_eq_true rfl)) dX4_faded_9 ⟨Nat.zero_le _, Nat.zero_le _⟩) ?_
    refine lv_if_eq (tgt := 17) hx hb dX4_faded_12 (by decide) (fun c12 => ?_) (fun c12 => ?_)
    · have t12 := bf_noSmell_z c12
      rw [if_pos c12] at hG
      refine lv_iload_n hx hb dX4_faded_17 rfl (lv_at hl 3 rfl) ?_
      refine lv_i2l hx hb dX4_faded_18 rfl ?_
      refine lv_lconst (v := 0) hx hb dX4_faded_19 (by decide) ?_
      refine lv_ldc2 hx hb S.2.2.2.1 (S.2.2.2.2 _ (List.mem_of_getElem? (i := 1) rfl)) dX4_faded_20 ?_
      refine call0i (va_runS (As := [.long p3.toInt64, .long 0, .long 999]) (rest := []) S (c_X4_in l p3.toInt64 0 999) (va_cwS 3 S.2.2.2.2 gX4_faded_X4_in rfl rfl rfl hd_X4_in ⟨Nat.le_of_ble_eq_true rfl, Nat.le_of_ble_eq_true rfl⟩) pre0S rfl rfl hl.1 rfl (lv_room (Nat.le_of_ble_eq_true rfl)) dX4_faded_23 ⟨Nat.zero_le _, Nat.zero_le _⟩) ?_
      refine lv_if_eq (tgt := 54) hx hb dX4_faded_26 (by decide) (fun c26 => ?_) (fun c26 => ?_)
      · rw [if_pos c26] at hG
        refine lv_bipush (v := (-2)) hx hb dX4_faded_54 (by decide) ?_
        exact end0i S hr hlocks hG dX4_faded_56
      · have t26 := bf_in_n c26
        rw [if_neg c26] at hG
        refine lv_iload hx hb dX4_faded_29 (lv_at hl 4 rfl) ?_
        refine lv_i2l hx hb dX4_faded_31 rfl ?_
        refine lv_lconst (v := 0) hx hb dX4_faded_32 (by decide) ?_
        refine lv_ldc2 hx hb S.2.2.2.1 (S.2.2.2.2 _ (List.mem_of_getElem? (i := 2) rfl)) dX4_faded_33 ?_
        refine call0i (va_runS (As := [.long p4.toInt64, .long 0, .long 99]) (rest := []) S (c_X4_in l p4.toInt64 0 99) (va_cwS 3 S.2.2.2.2 gX4_faded_X4_in rfl rfl rfl hd_X4_in ⟨Nat.le_of_ble_eq_true rfl, Nat.le_of_ble_eq_true rfl⟩) pre0S rfl rfl hl.1 rfl (lv_room (Nat.le_of_ble_eq_true rfl)) dX4_faded_36 ⟨Nat.zero_le _, Nat.zero_le _⟩) ?_
        refine lv_if_eq (tgt := 54) hx hb dX4_faded_39 (by decide) (fun c39 => ?_) (fun c39 => ?_)
        · rw [if_pos c39] at hG
          refine lv_bipush (v := (-2)) hx hb dX4_faded_54 (by decide) ?_
          exact end0i S hr hlocks hG dX4_faded_56
        · have t39 := bf_in_n c39
          rw [if_neg c39] at hG
          refine lv_aload_n hx hb dX4_faded_42 rfl (lv_at hl 0 rfl) ?_
          refine lv_iload_n hx hb dX4_faded_43 rfl (lv_at hl 1 rfl) ?_
          refine lv_iload_n hx hb dX4_faded_44 rfl (lv_at hl 2 rfl) ?_
          have y1 : p4.toInt64.toInt = p4.toInt := Int32.toInt_toInt64 p4
          have y2 : (99 : Int64).toInt = 99 := by decide
          have y3 : (0 : Int64).toInt = 0 := by decide
          refine lv_iload_n hx hb dX4_faded_45 rfl (lv_at hl 3 rfl) ?_
          refine lv_iload hx hb dX4_faded_46 (lv_at hl 4 rfl) ?_
          refine call0i (va_runV (As := [.int p1, .int p2, .int p3, .int p4]) (rest := []) S (c_X4_fades l ad D s.heap.size σ p1 p2 p3 p4 hok (by omega) (by omega) (by omega) (by omega)) (cwV 4 S.2.2.2.2 gX4_faded_X4_fades rfl rfl rfl ⟨rfl, hd_X4_fades⟩ ⟨Nat.le_of_ble_eq_true rfl, Nat.le_of_ble_eq_true rfl⟩) (preV hK hN w (k := 0) (by decide) (eM_0 ad _) (q := (RX4, TX4, 25)) rfl) rfl rfl hl.1 rfl (lv_room (Nat.le_of_ble_eq_true rfl)) dX4_faded_48 ⟨Nat.zero_le _, Nat.zero_le _⟩) ?_
          refine lv_goto (tgt := 56) hx hb dX4_faded_51 (by decide) ?_
          exact end0i S hr hlocks hG dX4_faded_56
    · rw [if_neg c12] at hG
      refine lv_iconst (v := (-1)) hx hb dX4_faded_15 (by decide) ?_
      exact end0i S hr hlocks hG dX4_faded_16
set_option maxHeartbeats 4000000 in
set_option maxRecDepth 100000 in
theorem c_X4_noPaper (l : Launch) (ad : Nat → Nat) (D : va_G) (sz : Nat) (σ : St) (p1 : Int32) : Met l yX4_noPaper wsX4_noPaper ({ frames := 1, cells := 0, slots := 0, locals := 25 }) (PreW 18 (eM ad) ad D (tyM ad) σ sz ([.ref (ad 0), .int p1] : List Value)) (Q0i (f_X4_noPaper σ p1)) 0 0 N0 := by
  generalize hG : f_X4_noPaper σ p1 = T
  refine headW (cc := cX4_noPaper) (maxL := 2) (ret := (some .boolean)) ([.ref (ad 0), .int p1] : List Value) (by decide) rfl (Nat.le_of_ble_eq_true rfl) ?_
  intro p e s m below meth c S hr hlocks hK hN hsz w ls hl
  have S : CallFix p m c cX4_noPaper 2 s ([.ref (ad 0), .int p1] : List Value).toArray wsX4_noPaper RX4 := S
  have hx := S.1
  have hb := S.2.1
  have z0 : (0 : Int32).toInt = 0 := by decide
  have z1 : (1 : Int32).toInt = 1 := by decide
  have hl : lv_has ls 2 [(0, .ref (ad 0)), (1, .int p1)] := hl
  have hinX4 : ∀ w ∈ wsX40, w ∈ wsX4_noPaper := (fun _ h => List.mem_cons_of_mem _ (List.mem_append_right _ h))
  rw [f_X4_noPaper] at hG
  refine lv_iload_n hx hb dX4_noPaper_0 rfl (lv_at hl 1 rfl) ?_
  refine lv_i2l hx hb dX4_noPaper_1 rfl ?_
  refine lv_lconst (v := 0) hx hb dX4_noPaper_2 (by decide) ?_
  refine lv_aload_n hx hb dX4_noPaper_3 rfl (lv_at hl 0 rfl) ?_
  refine r_get (C := RX4) (T := TX4) (N := 25) S hK w (k := 0) (by decide) (eM_0 ad _) rfl hinX4 11 (by decide) (List.mem_of_getElem? (i := 1) rfl) rfl dX4_noPaper_4 ?_
  refine lv_i2l hx hb dX4_noPaper_7 rfl ?_
  refine lv_lconst (v := 1) hx hb dX4_noPaper_8 (by decide) ?_
  refine lv_lsub hx hb dX4_noPaper_9 ?_
  refine call0i (va_runS (As := [.long p1.toInt64, .long 0, .long (((σ 0 11).toInt64) - 1)]) (rest := []) S (c_X4_in l p1.toInt64 0 (((σ 0 11).toInt64) - 1)) (va_cwS 3 S.2.2.2.2 gX4_noPaper_X4_in rfl rfl rfl hd_X4_in ⟨Nat.le_of_ble_eq_true rfl, Nat.le_of_ble_eq_true rfl⟩) pre0S rfl rfl hl.1 rfl (lv_room (Nat.le_of_ble_eq_true rfl)) dX4_noPaper_10 ⟨Nat.zero_le _, Nat.zero_le _⟩) ?_
  refine lv_if_ne (tgt := 20) hx hb dX4_noPaper_13 (by decide) (fun c13 => ?_) (fun c13 => ?_)
  · have t13 := bf_in_n c13
    rw [if_neg c13] at hG
    refine lv_iconst (v := 0) hx hb dX4_noPaper_20 (by decide) ?_
    exact end0z S hr hlocks (Or.inl rfl) hG dX4_noPaper_21
  · rw [if_pos c13] at hG
    refine lv_iconst (v := 1) hx hb dX4_noPaper_16 (by decide) ?_
    refine lv_goto (tgt := 21) hx hb dX4_noPaper_17 (by decide) ?_
    exact end0z S hr hlocks (Or.inr rfl) hG dX4_noPaper_21
set_option maxHeartbeats 4000000 in
set_option maxRecDepth 100000 in
theorem c_X4_areTwo (l : Launch) (ad : Nat → Nat) (D : va_G) (sz : Nat) (σ : St) (p1 : Int32) (p2 : Int32) : Met l yX4_areTwo wsX4_areTwo ({ frames := 2, cells := 0, slots := 0, locals := 46 }) (PreW 18 (eM ad) ad D (tyM ad) σ sz ([.ref (ad 0), .int p1, .int p2] : List Value)) (Q0i (f_X4_areTwo σ p1 p2)) 0 0 N0 := by
  generalize hG : f_X4_areTwo σ p1 p2 = T
  refine headW (cc := cX4_areTwo) (maxL := 3) (ret := (some .boolean)) ([.ref (ad 0), .int p1, .int p2] : List Value) (by decide) rfl (Nat.le_of_ble_eq_true rfl) ?_
  intro p e s m below meth c S hr hlocks hK hN hsz w ls hl
  have S : CallFix p m c cX4_areTwo 3 s ([.ref (ad 0), .int p1, .int p2] : List Value).toArray wsX4_areTwo RX4 := S
  have hx := S.1
  have hb := S.2.1
  have z0 : (0 : Int32).toInt = 0 := by decide
  have z1 : (1 : Int32).toInt = 1 := by decide
  have hl : lv_has ls 3 [(0, .ref (ad 0)), (1, .int p1), (2, .int p2)] := hl
  have hinX4 : ∀ w ∈ wsX40, w ∈ wsX4_areTwo := (fun _ h => List.mem_cons_of_mem _ (List.mem_append_right _ h))
  rw [f_X4_areTwo] at hG
  refine lv_aload_n hx hb dX4_areTwo_0 rfl (lv_at hl 0 rfl) ?_
  refine lv_iload_n hx hb dX4_areTwo_1 rfl (lv_at hl 1 rfl) ?_
  refine call0i (va_runV (As := [.int p1]) (rest := []) S (c_X4_noSign l ad D s.heap.size σ p1) (cwV 1 S.2.2.2.2 gX4_areTwo_X4_noSign rfl rfl rfl ⟨rfl, hd_X4_noSign⟩ ⟨Nat.le_of_ble_eq_true rfl, Nat.le_of_ble_eq_true rfl⟩) (preV hK hN w (k := 0) (by decide) (eM_0 ad _) (q := (RX4, TX4, 25)) rfl) rfl rfl hl.1 rfl (lv_room (Nat.le_of_ble_eq_true rfl)) dX4_areTwo_2 ⟨Nat.zero_le _, Nat.zero_le _⟩) ?_
  refine lv_if_ne (tgt := 25) hx hb dX4_areTwo_5 (by decide) (fun c5 => ?_) (fun c5 => ?_)
  · rw [if_neg c5] at hG
    refine lv_iconst (v := 0) hx hb dX4_areTwo_25 (by decide) ?_
    exact end0z S hr hlocks (Or.inl rfl) hG dX4_areTwo_26
  · have t5 := bf_noSign_z c5
    rw [if_pos c5] at hG
    refine lv_aload_n hx hb dX4_areTwo_8 rfl (lv_at hl 0 rfl) ?_
    refine lv_iload_n hx hb dX4_areTwo_9 rfl (lv_at hl 2 rfl) ?_
    refine call0i (va_runV (As := [.int p2]) (rest := []) S (c_X4_noSign l ad D s.heap.size σ p2) (cwV 1 S.2.2.2.2 gX4_areTwo_X4_noSign rfl rfl rfl ⟨rfl, hd_X4_noSign⟩ ⟨Nat.le_of_ble_eq_true rfl, Nat.le_of_ble_eq_true rfl⟩) (preV hK hN w (k := 0) (by decide) (eM_0 ad _) (q := (RX4, TX4, 25)) rfl) rfl rfl hl.1 rfl (lv_room (Nat.le_of_ble_eq_true rfl)) dX4_areTwo_10 ⟨Nat.zero_le _, Nat.zero_le _⟩) ?_
    refine lv_if_ne (tgt := 25) hx hb dX4_areTwo_13 (by decide) (fun c13 => ?_) (fun c13 => ?_)
    · rw [if_neg c13] at hG
      refine lv_iconst (v := 0) hx hb dX4_areTwo_25 (by decide) ?_
      exact end0z S hr hlocks (Or.inl rfl) hG dX4_areTwo_26
    · have t13 := bf_noSign_z c13
      rw [if_pos c13] at hG
      refine lv_iload_n hx hb dX4_areTwo_16 rfl (lv_at hl 1 rfl) ?_
      refine lv_iload_n hx hb dX4_areTwo_17 rfl (lv_at hl 2 rfl) ?_
      refine lv_icmp_eq (tgt := 25) hx hb dX4_areTwo_18 (by decide) (fun c18 => ?_) (fun c18 => ?_)
      · have t18 : p1.toInt = p2.toInt := qt_eq c18
        rw [if_pos c18] at hG
        refine lv_iconst (v := 0) hx hb dX4_areTwo_25 (by decide) ?_
        exact end0z S hr hlocks (Or.inl rfl) hG dX4_areTwo_26
      · have t18 : p1.toInt ≠ p2.toInt := qt_ne c18
        rw [if_neg c18] at hG
        refine lv_iconst (v := 1) hx hb dX4_areTwo_21 (by decide) ?_
        refine lv_goto (tgt := 26) hx hb dX4_areTwo_22 (by decide) ?_
        exact end0z S hr hlocks (Or.inr rfl) hG dX4_areTwo_26
set_option maxHeartbeats 4000000 in
set_option maxRecDepth 100000 in
theorem c_X4_paper (l : Launch) (ad : Nat → Nat) (D : va_G) (sz : Nat) (σ : St) (p1 : Int32) (p2 : Int32) (p3 : Int32) (hok : OkM σ) : Met l yX4_paper wsX4_paper ({ frames := 3, cells := 0, slots := 0, locals := 68 }) (PreW 18 (eM ad) ad D (tyM ad) σ sz ([.ref (ad 0), .int p1, .int p2, .int p3] : List Value)) (QWi 18 (eM ad) ad D (f_X4_paper σ p1 p2 p3) (CA 18 ad sz)) 0 0 (CA 18 ad sz) := by
  generalize hG : f_X4_paper σ p1 p2 p3 = T
  refine headW (cc := cX4_paper) (maxL := 4) (ret := (some .int)) ([.ref (ad 0), .int p1, .int p2, .int p3] : List Value) (by decide) rfl (Nat.le_of_ble_eq_true rfl) ?_
  intro p e s m below meth c S hr hlocks hK hN hsz w ls hl
  have S : CallFix p m c cX4_paper 4 s ([.ref (ad 0), .int p1, .int p2, .int p3] : List Value).toArray wsX4_paper RX4 := S
  have hx := S.1
  have hb := S.2.1
  have z0 : (0 : Int32).toInt = 0 := by decide
  have z1 : (1 : Int32).toInt = 1 := by decide
  have hl : lv_has ls 4 [(0, .ref (ad 0)), (1, .int p1), (2, .int p2), (3, .int p3)] := hl
  have hinX4 : ∀ w ∈ wsX40, w ∈ wsX4_paper := (fun _ h => List.mem_cons_of_mem _ (List.mem_append_right _ h))
  have okf0 := hok.1
  have okf1 := hok.2.1
  have okf2 := hok.2.2.1
  have okf3 := hok.2.2.2.1
  have okf4 := hok.2.2.2.2.1
  have okf6 := hok.2.2.2.2.2.1
  have okf7 := hok.2.2.2.2.2.2.1
  have okf8 := hok.2.2.2.2.2.2.2
  rw [f_X4_paper] at hG
  refine lv_aload_n hx hb dX4_paper_0 rfl (lv_at hl 0 rfl) ?_
  refine lv_iload_n hx hb dX4_paper_1 rfl (lv_at hl 1 rfl) ?_
  refine lv_iload_n hx hb dX4_paper_2 rfl (lv_at hl 2 rfl) ?_
  refine call0i (va_runV (As := [.int p1, .int p2]) (rest := []) S (c_X4_areTwo l ad D s.heap.size σ p1 p2) (cwV 2 S.2.2.2.2 gX4_paper_X4_areTwo rfl rfl rfl ⟨rfl, hd_X4_areTwo⟩ ⟨Nat.le_of_ble_eq_true rfl, Nat.le_of_ble_eq_true rfl⟩) (preV hK hN w (k := 0) (by decide) (eM_0 ad _) (q := (RX4, TX4, 25)) rfl) rfl rfl hl.1 rfl (lv_room (Nat.le_of_ble_eq_true rfl)) dX4_paper_3 ⟨Nat.zero_le _, Nat.zero_le _⟩) ?_
  refine lv_if_ne (tgt := 11) hx hb dX4_paper_6 (by decide) (fun c6 => ?_) (fun c6 => ?_)
  · have t6 := bf_areTwo_n c6
    rw [if_neg c6] at hG
    refine lv_iload_n hx hb dX4_paper_11 rfl (lv_at hl 3 rfl) ?_
    refine lv_i2l hx hb dX4_paper_12 rfl ?_
    refine lv_lconst (v := 0) hx hb dX4_paper_13 (by decide) ?_
    refine lv_ldc2 hx hb S.2.2.2.1 (S.2.2.2.2 _ (List.mem_of_getElem? (i := 1) rfl)) dX4_paper_14 ?_
    refine call0i (va_runS (As := [.long p3.toInt64, .long 0, .long 9]) (rest := []) S (c_X4_in l p3.toInt64 0 9) (va_cwS 3 S.2.2.2.2 gX4_paper_X4_in rfl rfl rfl hd_X4_in ⟨Nat.le_of_ble_eq_true rfl, Nat.le_of_ble_eq_true rfl⟩) pre0S rfl rfl hl.1 rfl (lv_room (Nat.le_of_ble_eq_true rfl)) dX4_paper_17 ⟨Nat.zero_le _, Nat.zero_le _⟩) ?_
    refine lv_if_ne (tgt := 26) hx hb dX4_paper_20 (by decide) (fun c20 => ?_) (fun c20 => ?_)
    · have t20 := bf_in_n c20
      rw [if_neg c20] at hG
      refine lv_aload_n hx hb dX4_paper_26 rfl (lv_at hl 0 rfl) ?_
      refine r_get (C := RX4) (T := TX4) (N := 25) S hK w (k := 0) (by decide) (eM_0 ad _) rfl hinX4 11 (by decide) (List.mem_of_getElem? (i := 2) rfl) rfl dX4_paper_27 ?_
      refine lv_bipush (v := 8) hx hb dX4_paper_30 (by decide) ?_
      refine lv_icmp_ne (tgt := 38) hx hb dX4_paper_32 (by decide) (fun c32 => ?_) (fun c32 => ?_)
      · have t32 : (σ 0 11).toInt ≠ 8 := qt_ne c32
        rw [if_neg c32] at hG
        refine lv_aload_n hx hb dX4_paper_38 rfl (lv_at hl 0 rfl) ?_
        refine r_get (C := RX4) (T := TX4) (N := 25) S hK w (k := 0) (by decide) (eM_0 ad _) rfl hinX4 12 (by decide) (List.mem_of_getElem? (i := 3) rfl) rfl dX4_paper_39 ?_
        refine lv_aload_n hx hb dX4_paper_42 rfl (lv_at hl 0 rfl) ?_
        refine r_get (C := RX4) (T := TX4) (N := 25) S hK w (k := 0) (by decide) (eM_0 ad _) rfl hinX4 11 (by decide) (List.mem_of_getElem? (i := 2) rfl) rfl dX4_paper_43 ?_
        refine lv_iload_n hx hb dX4_paper_46 rfl (lv_at hl 1 rfl) ?_
        have g47 : vp_in (σ 0 11) 8 := (show vp_in (σ 0 11) 8 from vpi (by omega) (by omega))
        refine r_iast (cA := ad 100) (N := 8) S hK w (k := 6) (by decide) (fun f => rfl) rfl g47 dX4_paper_47 (fun H locs w => ?_)
        refine lv_aload_n hx hb dX4_paper_48 rfl (lv_at hl 0 rfl) ?_
        refine r_get (C := RX4) (T := TX4) (N := 25) S hK w (k := 0) (by decide) (eM_0 ad _) rfl hinX4 13 (by decide) (List.mem_of_getElem? (i := 4) rfl) rfl dX4_paper_49 ?_
        refine lv_aload_n hx hb dX4_paper_52 rfl (lv_at hl 0 rfl) ?_
        refine r_get (C := RX4) (T := TX4) (N := 25) S hK w (k := 0) (by decide) (eM_0 ad _) rfl hinX4 11 (by decide) (List.mem_of_getElem? (i := 2) rfl) rfl dX4_paper_53 ?_
        refine lv_iload_n hx hb dX4_paper_56 rfl (lv_at hl 2 rfl) ?_
        have g57 : vp_in ((u2 σ 6 (ix (σ 0 11)) p1) 0 11) 8 := (show vp_in (σ 0 11) 8 from vpi (by omega) (by omega))
        refine r_iast (cA := ad 100) (N := 8) S hK w (k := 7) (by decide) (fun f => rfl) rfl g57 dX4_paper_57 (fun H locs w => ?_)
        refine lv_aload_n hx hb dX4_paper_58 rfl (lv_at hl 0 rfl) ?_
        refine r_get (C := RX4) (T := TX4) (N := 25) S hK w (k := 0) (by decide) (eM_0 ad _) rfl hinX4 14 (by decide) (List.mem_of_getElem? (i := 5) rfl) rfl dX4_paper_59 ?_
        refine lv_aload_n hx hb dX4_paper_62 rfl (lv_at hl 0 rfl) ?_
        refine r_get (C := RX4) (T := TX4) (N := 25) S hK w (k := 0) (by decide) (eM_0 ad _) rfl hinX4 11 (by decide) (List.mem_of_getElem? (i := 2) rfl) rfl dX4_paper_63 ?_
        refine lv_aload_n hx hb dX4_paper_66 rfl (lv_at hl 0 rfl) ?_
        refine r_get (C := RX4) (T := TX4) (N := 25) S hK w (k := 0) (by decide) (eM_0 ad _) rfl hinX4 2 (by decide) (List.mem_of_getElem? (i := 6) rfl) rfl dX4_paper_67 ?_
        have g70 : vp_in ((u2 (u2 σ 6 (ix (σ 0 11)) p1) 7 (ix ((u2 σ 6 (ix (σ 0 11)) p1) 0 11)) p2) 0 11) 8 := (show vp_in (σ 0 11) 8 from vpi (by omega) (by omega))
        refine r_iast (cA := ad 100) (N := 8) S hK w (k := 8) (by decide) (fun f => rfl) rfl g70 dX4_paper_70 (fun H locs w => ?_)
        refine lv_aload_n hx hb dX4_paper_71 rfl (lv_at hl 0 rfl) ?_
        refine r_get (C := RX4) (T := TX4) (N := 25) S hK w (k := 0) (by decide) (eM_0 ad _) rfl hinX4 15 (by decide) (List.mem_of_getElem? (i := 7) rfl) rfl dX4_paper_72 ?_
        refine lv_aload_n hx hb dX4_paper_75 rfl (lv_at hl 0 rfl) ?_
        refine r_get (C := RX4) (T := TX4) (N := 25) S hK w (k := 0) (by decide) (eM_0 ad _) rfl hinX4 11 (by decide) (List.mem_of_getElem? (i := 2) rfl) rfl dX4_paper_76 ?_
        refine lv_iload_n hx hb dX4_paper_79 rfl (lv_at hl 3 rfl) ?_
        have g80 : vp_in ((u2 (u2 (u2 σ 6 (ix (σ 0 11)) p1) 7 (ix ((u2 σ 6 (ix (σ 0 11)) p1) 0 11)) p2) 8 (ix ((u2 (u2 σ 6 (ix (σ 0 11)) p1) 7 (ix ((u2 σ 6 (ix (σ 0 11)) p1) 0 11)) p2) 0 11)) ((u2 (u2 σ 6 (ix (σ 0 11)) p1) 7 (ix ((u2 σ 6 (ix (σ 0 11)) p1) 0 11)) p2) 0 2)) 0 11) 8 := (show vp_in (σ 0 11) 8 from vpi (by omega) (by omega))
        refine r_iast (cA := ad 100) (N := 8) S hK w (k := 9) (by decide) (fun f => rfl) rfl g80 dX4_paper_80 (fun H locs w => ?_)
        refine lv_aload_n hx hb dX4_paper_81 rfl (lv_at hl 0 rfl) ?_
        refine r_get (C := RX4) (T := TX4) (N := 25) S hK w (k := 0) (by decide) (eM_0 ad _) rfl hinX4 16 (by decide) (List.mem_of_getElem? (i := 8) rfl) rfl dX4_paper_82 ?_
        refine lv_aload_n hx hb dX4_paper_85 rfl (lv_at hl 0 rfl) ?_
        refine r_get (C := RX4) (T := TX4) (N := 25) S hK w (k := 0) (by decide) (eM_0 ad _) rfl hinX4 11 (by decide) (List.mem_of_getElem? (i := 2) rfl) rfl dX4_paper_86 ?_
        refine lv_iconst (v := 0) hx hb dX4_paper_89 (by decide) ?_
        have g90 : vp_in ((u2 (u2 (u2 (u2 σ 6 (ix (σ 0 11)) p1) 7 (ix ((u2 σ 6 (ix (σ 0 11)) p1) 0 11)) p2) 8 (ix ((u2 (u2 σ 6 (ix (σ 0 11)) p1) 7 (ix ((u2 σ 6 (ix (σ 0 11)) p1) 0 11)) p2) 0 11)) ((u2 (u2 σ 6 (ix (σ 0 11)) p1) 7 (ix ((u2 σ 6 (ix (σ 0 11)) p1) 0 11)) p2) 0 2)) 9 (ix ((u2 (u2 (u2 σ 6 (ix (σ 0 11)) p1) 7 (ix ((u2 σ 6 (ix (σ 0 11)) p1) 0 11)) p2) 8 (ix ((u2 (u2 σ 6 (ix (σ 0 11)) p1) 7 (ix ((u2 σ 6 (ix (σ 0 11)) p1) 0 11)) p2) 0 11)) ((u2 (u2 σ 6 (ix (σ 0 11)) p1) 7 (ix ((u2 σ 6 (ix (σ 0 11)) p1) 0 11)) p2) 0 2)) 0 11)) p3) 0 11) 8 := (show vp_in (σ 0 11) 8 from vpi (by omega) (by omega))
        refine r_iast (cA := ad 100) (N := 8) S hK w (k := 10) (by decide) (fun f => rfl) rfl g90 dX4_paper_90 (fun H locs w => ?_)
        refine lv_aload_n hx hb dX4_paper_91 rfl (lv_at hl 0 rfl) ?_
        refine r_get (C := RX4) (T := TX4) (N := 25) S hK w (k := 0) (by decide) (eM_0 ad _) rfl hinX4 17 (by decide) (List.mem_of_getElem? (i := 9) rfl) rfl dX4_paper_92 ?_
        refine lv_aload_n hx hb dX4_paper_95 rfl (lv_at hl 0 rfl) ?_
        refine r_get (C := RX4) (T := TX4) (N := 25) S hK w (k := 0) (by decide) (eM_0 ad _) rfl hinX4 11 (by decide) (List.mem_of_getElem? (i := 2) rfl) rfl dX4_paper_96 ?_
        refine lv_iconst (v := 0) hx hb dX4_paper_99 (by decide) ?_
        have g100 : vp_in ((u2 (u2 (u2 (u2 (u2 σ 6 (ix (σ 0 11)) p1) 7 (ix ((u2 σ 6 (ix (σ 0 11)) p1) 0 11)) p2) 8 (ix ((u2 (u2 σ 6 (ix (σ 0 11)) p1) 7 (ix ((u2 σ 6 (ix (σ 0 11)) p1) 0 11)) p2) 0 11)) ((u2 (u2 σ 6 (ix (σ 0 11)) p1) 7 (ix ((u2 σ 6 (ix (σ 0 11)) p1) 0 11)) p2) 0 2)) 9 (ix ((u2 (u2 (u2 σ 6 (ix (σ 0 11)) p1) 7 (ix ((u2 σ 6 (ix (σ 0 11)) p1) 0 11)) p2) 8 (ix ((u2 (u2 σ 6 (ix (σ 0 11)) p1) 7 (ix ((u2 σ 6 (ix (σ 0 11)) p1) 0 11)) p2) 0 11)) ((u2 (u2 σ 6 (ix (σ 0 11)) p1) 7 (ix ((u2 σ 6 (ix (σ 0 11)) p1) 0 11)) p2) 0 2)) 0 11)) p3) 10 (ix ((u2 (u2 (u2 (u2 σ 6 (ix (σ 0 11)) p1) 7 (ix ((u2 σ 6 (ix (σ 0 11)) p1) 0 11)) p2) 8 (ix ((u2 (u2 σ 6 (ix (σ 0 11)) p1) 7 (ix ((u2 σ 6 (ix (σ 0 11)) p1) 0 11)) p2) 0 11)) ((u2 (u2 σ 6 (ix (σ 0 11)) p1) 7 (ix ((u2 σ 6 (ix (σ 0 11)) p1) 0 11)) p2) 0 2)) 9 (ix ((u2 (u2 (u2 σ 6 (ix (σ 0 11)) p1) 7 (ix ((u2 σ 6 (ix (σ 0 11)) p1) 0 11)) p2) 8 (ix ((u2 (u2 σ 6 (ix (σ 0 11)) p1) 7 (ix ((u2 σ 6 (ix (σ 0 11)) p1) 0 11)) p2) 0 11)) ((u2 (u2 σ 6 (ix (σ 0 11)) p1) 7 (ix ((u2 σ 6 (ix (σ 0 11)) p1) 0 11)) p2) 0 2)) 0 11)) p3) 0 11)) 0) 0 11) 8 := (show vp_in (σ 0 11) 8 from vpi (by omega) (by omega))
        refine r_iast (cA := ad 100) (N := 8) S hK w (k := 11) (by decide) (fun f => rfl) rfl g100 dX4_paper_100 (fun H locs w => ?_)
        refine lv_aload_n hx hb dX4_paper_101 rfl (lv_at hl 0 rfl) ?_
        refine lv_dup hx hb dX4_paper_102 rfl ?_
        refine r_get (C := RX4) (T := TX4) (N := 25) S hK w (k := 0) (by decide) (eM_0 ad _) rfl hinX4 11 (by decide) (List.mem_of_getElem? (i := 2) rfl) rfl dX4_paper_103 ?_
        refine lv_iconst (v := 1) hx hb dX4_paper_106 (by decide) ?_
        refine lv_iadd hx hb dX4_paper_107 ?_
        refine r_put (C := RX4) (T := TX4) (N := 25) S hK w (k := 0) (by decide) (eM_0 ad _) rfl hinX4 tyX4 tyX4_ok nmX4 11 (by decide) (List.mem_of_getElem? (i := 2) rfl) rfl (x := (((u2 (u2 (u2 (u2 (u2 (u2 σ 6 (ix (σ 0 11)) p1) 7 (ix ((u2 σ 6 (ix (σ 0 11)) p1) 0 11)) p2) 8 (ix ((u2 (u2 σ 6 (ix (σ 0 11)) p1) 7 (ix ((u2 σ 6 (ix (σ 0 11)) p1) 0 11)) p2) 0 11)) ((u2 (u2 σ 6 (ix (σ 0 11)) p1) 7 (ix ((u2 σ 6 (ix (σ 0 11)) p1) 0 11)) p2) 0 2)) 9 (ix ((u2 (u2 (u2 σ 6 (ix (σ 0 11)) p1) 7 (ix ((u2 σ 6 (ix (σ 0 11)) p1) 0 11)) p2) 8 (ix ((u2 (u2 σ 6 (ix (σ 0 11)) p1) 7 (ix ((u2 σ 6 (ix (σ 0 11)) p1) 0 11)) p2) 0 11)) ((u2 (u2 σ 6 (ix (σ 0 11)) p1) 7 (ix ((u2 σ 6 (ix (σ 0 11)) p1) 0 11)) p2) 0 2)) 0 11)) p3) 10 (ix ((u2 (u2 (u2 (u2 σ 6 (ix (σ 0 11)) p1) 7 (ix ((u2 σ 6 (ix (σ 0 11)) p1) 0 11)) p2) 8 (ix ((u2 (u2 σ 6 (ix (σ 0 11)) p1) 7 (ix ((u2 σ 6 (ix (σ 0 11)) p1) 0 11)) p2) 0 11)) ((u2 (u2 σ 6 (ix (σ 0 11)) p1) 7 (ix ((u2 σ 6 (ix (σ 0 11)) p1) 0 11)) p2) 0 2)) 9 (ix ((u2 (u2 (u2 σ 6 (ix (σ 0 11)) p1) 7 (ix ((u2 σ 6 (ix (σ 0 11)) p1) 0 11)) p2) 8 (ix ((u2 (u2 σ 6 (ix (σ 0 11)) p1) 7 (ix ((u2 σ 6 (ix (σ 0 11)) p1) 0 11)) p2) 0 11)) ((u2 (u2 σ 6 (ix (σ 0 11)) p1) 7 (ix ((u2 σ 6 (ix (σ 0 11)) p1) 0 11)) p2) 0 2)) 0 11)) p3) 0 11)) 0) 11 (ix ((u2 (u2 (u2 (u2 (u2 σ 6 (ix (σ 0 11)) p1) 7 (ix ((u2 σ 6 (ix (σ 0 11)) p1) 0 11)) p2) 8 (ix ((u2 (u2 σ 6 (ix (σ 0 11)) p1) 7 (ix ((u2 σ 6 (ix (σ 0 11)) p1) 0 11)) p2) 0 11)) ((u2 (u2 σ 6 (ix (σ 0 11)) p1) 7 (ix ((u2 σ 6 (ix (σ 0 11)) p1) 0 11)) p2) 0 2)) 9 (ix ((u2 (u2 (u2 σ 6 (ix (σ 0 11)) p1) 7 (ix ((u2 σ 6 (ix (σ 0 11)) p1) 0 11)) p2) 8 (ix ((u2 (u2 σ 6 (ix (σ 0 11)) p1) 7 (ix ((u2 σ 6 (ix (σ 0 11)) p1) 0 11)) p2) 0 11)) ((u2 (u2 σ 6 (ix (σ 0 11)) p1) 7 (ix ((u2 σ 6 (ix (σ 0 11)) p1) 0 11)) p2) 0 2)) 0 11)) p3) 10 (ix ((u2 (u2 (u2 (u2 σ 6 (ix (σ 0 11)) p1) 7 (ix ((u2 σ 6 (ix (σ 0 11)) p1) 0 11)) p2) 8 (ix ((u2 (u2 σ 6 (ix (σ 0 11)) p1) 7 (ix ((u2 σ 6 (ix (σ 0 11)) p1) 0 11)) p2) 0 11)) ((u2 (u2 σ 6 (ix (σ 0 11)) p1) 7 (ix ((u2 σ 6 (ix (σ 0 11)) p1) 0 11)) p2) 0 2)) 9 (ix ((u2 (u2 (u2 σ 6 (ix (σ 0 11)) p1) 7 (ix ((u2 σ 6 (ix (σ 0 11)) p1) 0 11)) p2) 8 (ix ((u2 (u2 σ 6 (ix (σ 0 11)) p1) 7 (ix ((u2 σ 6 (ix (σ 0 11)) p1) 0 11)) p2) 0 11)) ((u2 (u2 σ 6 (ix (σ 0 11)) p1) 7 (ix ((u2 σ 6 (ix (σ 0 11)) p1) 0 11)) p2) 0 2)) 0 11)) p3) 0 11)) 0) 0 11)) 0) 0 11) + 1)) (ty := .int) (by decide +kernel) rfl rfl (by show _ < List.length _; exact Nat.le_of_ble_eq_true rfl) (sM ad _ _ 11 (by decide)) dX4_paper_108 (fun H locs w => ?_)
        refine lv_aload_n hx hb dX4_paper_111 rfl (lv_at hl 0 rfl) ?_
        refine r_get (C := RX4) (T := TX4) (N := 25) S hK w (k := 0) (by decide) (eM_0 ad _) rfl hinX4 11 (by decide) (List.mem_of_getElem? (i := 2) rfl) rfl dX4_paper_112 ?_
        refine lv_iconst (v := 1) hx hb dX4_paper_115 (by decide) ?_
        refine lv_isub hx hb dX4_paper_116 ?_
        exact endWi S hr hlocks w hG dX4_paper_117
      · have t32 : (σ 0 11).toInt = 8 := qt_eq c32
        rw [if_pos c32] at hG
        refine lv_bipush (v := (-4)) hx hb dX4_paper_35 (by decide) ?_
        exact endWi S hr hlocks w hG dX4_paper_37
    · rw [if_pos c20] at hG
      refine lv_bipush (v := (-2)) hx hb dX4_paper_23 (by decide) ?_
      exact endWi S hr hlocks w hG dX4_paper_25
  · rw [if_pos c6] at hG
    refine lv_iconst (v := (-1)) hx hb dX4_paper_9 (by decide) ?_
    exact endWi S hr hlocks w hG dX4_paper_10
set_option maxHeartbeats 4000000 in
set_option maxRecDepth 100000 in
theorem c_X4_ofPaper (l : Launch) (ad : Nat → Nat) (D : va_G) (sz : Nat) (σ : St) (p1 : Int32) (p2 : Int32) (hok : OkM σ) : Met l yX4_ofPaper wsX4_ofPaper ({ frames := 2, cells := 0, slots := 0, locals := 46 }) (PreW 18 (eM ad) ad D (tyM ad) σ sz ([.ref (ad 0), .int p1, .int p2] : List Value)) (Q0i (f_X4_ofPaper σ p1 p2)) 0 0 N0 := by
  generalize hG : f_X4_ofPaper σ p1 p2 = T
  refine headW (cc := cX4_ofPaper) (maxL := 3) (ret := (some .int)) ([.ref (ad 0), .int p1, .int p2] : List Value) (by decide) rfl (Nat.le_of_ble_eq_true rfl) ?_
  intro p e s m below meth c S hr hlocks hK hN hsz w ls hl
  have S : CallFix p m c cX4_ofPaper 3 s ([.ref (ad 0), .int p1, .int p2] : List Value).toArray wsX4_ofPaper RX4 := S
  have hx := S.1
  have hb := S.2.1
  have z0 : (0 : Int32).toInt = 0 := by decide
  have z1 : (1 : Int32).toInt = 1 := by decide
  have hl : lv_has ls 3 [(0, .ref (ad 0)), (1, .int p1), (2, .int p2)] := hl
  have hinX4 : ∀ w ∈ wsX40, w ∈ wsX4_ofPaper := (fun _ h => List.mem_cons_of_mem _ (List.mem_append_right _ h))
  have okf0 := hok.1
  have okf1 := hok.2.1
  have okf2 := hok.2.2.1
  have okf3 := hok.2.2.2.1
  have okf4 := hok.2.2.2.2.1
  have okf6 := hok.2.2.2.2.2.1
  have okf7 := hok.2.2.2.2.2.2.1
  have okf8 := hok.2.2.2.2.2.2.2
  rw [f_X4_ofPaper] at hG
  refine lv_aload_n hx hb dX4_ofPaper_0 rfl (lv_at hl 0 rfl) ?_
  refine lv_iload_n hx hb dX4_ofPaper_1 rfl (lv_at hl 1 rfl) ?_
  refine call0i (va_runV (As := [.int p1]) (rest := []) S (c_X4_noPaper l ad D s.heap.size σ p1) (cwV 1 S.2.2.2.2 gX4_ofPaper_X4_noPaper rfl rfl rfl ⟨rfl, hd_X4_noPaper⟩ ⟨Nat.le_of_ble_eq_true rfl, Nat.le_of_ble_eq_true rfl⟩) (preV hK hN w (k := 0) (by decide) (eM_0 ad _) (q := (RX4, TX4, 25)) rfl) rfl rfl hl.1 rfl (lv_room (Nat.le_of_ble_eq_true rfl)) dX4_ofPaper_2 ⟨Nat.zero_le _, Nat.zero_le _⟩) ?_
  refine lv_if_eq (tgt := 10) hx hb dX4_ofPaper_5 (by decide) (fun c5 => ?_) (fun c5 => ?_)
  · have t5 := bf_noPaper_z c5
    rw [if_pos c5] at hG
    refine lv_iload_n hx hb dX4_ofPaper_10 rfl (lv_at hl 2 rfl) ?_
    by_cases c11_0 : p2 = 0
    · rw [if_pos c11_0] at hG
      refine lv_tableIn (tgt := 48) hx hb dX4_ofPaper_11 (by rw [c11_0]; decide) (by rw [c11_0]; decide) (off := 37) (by rw [c11_0]; decide) (by decide) ?_
      refine lv_aload_n hx hb dX4_ofPaper_48 rfl (lv_at hl 0 rfl) ?_
      refine r_get (C := RX4) (T := TX4) (N := 25) S hK w (k := 0) (by decide) (eM_0 ad _) rfl hinX4 12 (by decide) (List.mem_of_getElem? (i := 1) rfl) rfl dX4_ofPaper_49 ?_
      refine lv_iload_n hx hb dX4_ofPaper_52 rfl (lv_at hl 1 rfl) ?_
      have g53 : vp_in p1 8 := vpi (by omega) (by omega)
      refine r_iald (cA := ad 100) (N := 8) S hK w (k := 6) (by decide) (fun f => rfl) rfl g53 dX4_ofPaper_53 ?_
      exact end0i S hr hlocks hG dX4_ofPaper_54
    rw [if_neg c11_0] at hG
    by_cases c11_1 : p2 = 1
    · rw [if_pos c11_1] at hG
      refine lv_tableIn (tgt := 55) hx hb dX4_ofPaper_11 (by rw [c11_1]; decide) (by rw [c11_1]; decide) (off := 44) (by rw [c11_1]; decide) (by decide) ?_
      refine lv_aload_n hx hb dX4_ofPaper_55 rfl (lv_at hl 0 rfl) ?_
      refine r_get (C := RX4) (T := TX4) (N := 25) S hK w (k := 0) (by decide) (eM_0 ad _) rfl hinX4 13 (by decide) (List.mem_of_getElem? (i := 2) rfl) rfl dX4_ofPaper_56 ?_
      refine lv_iload_n hx hb dX4_ofPaper_59 rfl (lv_at hl 1 rfl) ?_
      have g60 : vp_in p1 8 := vpi (by omega) (by omega)
      refine r_iald (cA := ad 100) (N := 8) S hK w (k := 7) (by decide) (fun f => rfl) rfl g60 dX4_ofPaper_60 ?_
      exact end0i S hr hlocks hG dX4_ofPaper_61
    rw [if_neg c11_1] at hG
    by_cases c11_2 : p2 = 2
    · rw [if_pos c11_2] at hG
      refine lv_tableIn (tgt := 62) hx hb dX4_ofPaper_11 (by rw [c11_2]; decide) (by rw [c11_2]; decide) (off := 51) (by rw [c11_2]; decide) (by decide) ?_
      refine lv_aload_n hx hb dX4_ofPaper_62 rfl (lv_at hl 0 rfl) ?_
      refine r_get (C := RX4) (T := TX4) (N := 25) S hK w (k := 0) (by decide) (eM_0 ad _) rfl hinX4 14 (by decide) (List.mem_of_getElem? (i := 3) rfl) rfl dX4_ofPaper_63 ?_
      refine lv_iload_n hx hb dX4_ofPaper_66 rfl (lv_at hl 1 rfl) ?_
      have g67 : vp_in p1 8 := vpi (by omega) (by omega)
      refine r_iald (cA := ad 100) (N := 8) S hK w (k := 8) (by decide) (fun f => rfl) rfl g67 dX4_ofPaper_67 ?_
      exact end0i S hr hlocks hG dX4_ofPaper_68
    rw [if_neg c11_2] at hG
    by_cases c11_3 : p2 = 3
    · rw [if_pos c11_3] at hG
      refine lv_tableIn (tgt := 69) hx hb dX4_ofPaper_11 (by rw [c11_3]; decide) (by rw [c11_3]; decide) (off := 58) (by rw [c11_3]; decide) (by decide) ?_
      refine lv_aload_n hx hb dX4_ofPaper_69 rfl (lv_at hl 0 rfl) ?_
      refine r_get (C := RX4) (T := TX4) (N := 25) S hK w (k := 0) (by decide) (eM_0 ad _) rfl hinX4 15 (by decide) (List.mem_of_getElem? (i := 4) rfl) rfl dX4_ofPaper_70 ?_
      refine lv_iload_n hx hb dX4_ofPaper_73 rfl (lv_at hl 1 rfl) ?_
      have g74 : vp_in p1 8 := vpi (by omega) (by omega)
      refine r_iald (cA := ad 100) (N := 8) S hK w (k := 9) (by decide) (fun f => rfl) rfl g74 dX4_ofPaper_74 ?_
      exact end0i S hr hlocks hG dX4_ofPaper_75
    rw [if_neg c11_3] at hG
    by_cases c11_4 : p2 = 4
    · rw [if_pos c11_4] at hG
      refine lv_tableIn (tgt := 76) hx hb dX4_ofPaper_11 (by rw [c11_4]; decide) (by rw [c11_4]; decide) (off := 65) (by rw [c11_4]; decide) (by decide) ?_
      refine lv_aload_n hx hb dX4_ofPaper_76 rfl (lv_at hl 0 rfl) ?_
      refine r_get (C := RX4) (T := TX4) (N := 25) S hK w (k := 0) (by decide) (eM_0 ad _) rfl hinX4 16 (by decide) (List.mem_of_getElem? (i := 5) rfl) rfl dX4_ofPaper_77 ?_
      refine lv_iload_n hx hb dX4_ofPaper_80 rfl (lv_at hl 1 rfl) ?_
      have g81 : vp_in p1 8 := vpi (by omega) (by omega)
      refine r_iald (cA := ad 100) (N := 8) S hK w (k := 10) (by decide) (fun f => rfl) rfl g81 dX4_ofPaper_81 ?_
      exact end0i S hr hlocks hG dX4_ofPaper_82
    rw [if_neg c11_4] at hG
    by_cases c11_5 : p2 = 5
    · rw [if_pos c11_5] at hG
      refine lv_tableIn (tgt := 83) hx hb dX4_ofPaper_11 (by rw [c11_5]; decide) (by rw [c11_5]; decide) (off := 72) (by rw [c11_5]; decide) (by decide) ?_
      refine lv_aload_n hx hb dX4_ofPaper_83 rfl (lv_at hl 0 rfl) ?_
      refine r_get (C := RX4) (T := TX4) (N := 25) S hK w (k := 0) (by decide) (eM_0 ad _) rfl hinX4 17 (by decide) (List.mem_of_getElem? (i := 6) rfl) rfl dX4_ofPaper_84 ?_
      refine lv_iload_n hx hb dX4_ofPaper_87 rfl (lv_at hl 1 rfl) ?_
      have g88 : vp_in p1 8 := vpi (by omega) (by omega)
      refine r_iald (cA := ad 100) (N := 8) S hK w (k := 11) (by decide) (fun f => rfl) rfl g88 dX4_ofPaper_88 ?_
      exact end0i S hr hlocks hG dX4_ofPaper_89
    rw [if_neg c11_5] at hG
    have y11_0 : p2.toInt ≠ 0 := qt_ne c11_0
    have y11_1 : p2.toInt ≠ 1 := qt_ne c11_1
    have y11_2 : p2.toInt ≠ 2 := qt_ne c11_2
    have y11_3 : p2.toInt ≠ 3 := qt_ne c11_3
    have y11_4 : p2.toInt ≠ 4 := qt_ne c11_4
    have y11_5 : p2.toInt ≠ 5 := qt_ne c11_5
    refine lv_tableOut (tgt := 90) hx hb dX4_ofPaper_11 (by omega) (by decide) ?_
    refine lv_bipush (v := (-2)) hx hb dX4_ofPaper_90 (by decide) ?_
    exact end0i S hr hlocks hG dX4_ofPaper_92
  · rw [if_neg c5] at hG
    refine lv_iconst (v := (-1)) hx hb dX4_ofPaper_8 (by decide) ?_
    exact end0i S hr hlocks hG dX4_ofPaper_9
set_option maxHeartbeats 4000000 in
set_option maxRecDepth 100000 in
theorem c_X4_smellOf (l : Launch) (ad : Nat → Nat) (D : va_G) (sz : Nat) (σ : St) (p1 : Int32) (p2 : Int32) (p3 : Int32) (hok : OkM σ) (hx1 : 0 ≤ p1.toInt ∧ p1.toInt < 8) (hsm : 0 ≤ p2.toInt ∧ p2.toInt < 9) (hyr : 0 ≤ p3.toInt ∧ p3.toInt ≤ 99) (hsg : (σ 0 1).toInt ≠ 0) : Met l yX4_smellOf wsX4_smellOf ({ frames := 1, cells := 0, slots := 0, locals := 27 }) (PreW 18 (eM ad) ad D (tyM ad) σ sz ([.ref (ad 0), .int p1, .int p2, .int p3] : List Value)) (Q0i (f_X4_smellOf σ p1 p2 p3)) 0 0 N0 := by
  generalize hG : f_X4_smellOf σ p1 p2 p3 = T
  refine headW (cc := cX4_smellOf) (maxL := 8) (ret := (some .int)) ([.ref (ad 0), .int p1, .int p2, .int p3] : List Value) (by decide) rfl (Nat.le_of_ble_eq_true rfl) ?_
  intro p e s m below meth c S hr hlocks hK hN hsz w ls hl
  have S : CallFix p m c cX4_smellOf 8 s ([.ref (ad 0), .int p1, .int p2, .int p3] : List Value).toArray wsX4_smellOf RX4 := S
  have hx := S.1
  have hb := S.2.1
  have z0 : (0 : Int32).toInt = 0 := by decide
  have z1 : (1 : Int32).toInt = 1 := by decide
  have hl : lv_has ls 8 [(0, .ref (ad 0)), (1, .int p1), (2, .int p2), (3, .int p3)] := hl
  have hinX4 : ∀ w ∈ wsX40, w ∈ wsX4_smellOf := (fun _ h => List.mem_cons_of_mem _ (List.mem_append_right _ h))
  have okf0 := hok.1
  have okf1 := hok.2.1
  have okf2 := hok.2.2.1
  have okf3 := hok.2.2.2.1
  have okf4 := hok.2.2.2.2.1
  have okf6 := hok.2.2.2.2.2.1
  have okf7 := hok.2.2.2.2.2.2.1
  have okf8 := hok.2.2.2.2.2.2.2
  rw [f_X4_smellOf] at hG
  have f0 := vp_in_iff.mp (okf4 (ix p1) (vpl (vpi (by omega) (by omega)))).1
  have f1 := vp_in_iff.mp (okf4 (ix p1) (vpl (vpi (by omega) (by omega)))).2
  have f2 := okf7 (ix p1) (vpl (vpi (by omega) (by omega)))
  have e7 := s_toInt (a := p3) (b := σ 8 (ix p1)) (by omega) (by omega)
  refine lv_iload_n hx hb dX4_smellOf_0 rfl (lv_at hl 3 rfl) ?_
  refine lv_aload_n hx hb dX4_smellOf_1 rfl (lv_at hl 0 rfl) ?_
  refine r_get (C := RX4) (T := TX4) (N := 25) S hK w (k := 0) (by decide) (eM_0 ad _) rfl hinX4 14 (by decide) (List.mem_of_getElem? (i := 1) rfl) rfl dX4_smellOf_2 ?_
  refine lv_iload_n hx hb dX4_smellOf_5 rfl (lv_at hl 1 rfl) ?_
  have g6 : vp_in p1 8 := vpi (by omega) (by omega)
  refine r_iald (cA := ad 100) (N := 8) S hK w (k := 8) (by decide) (fun f => rfl) rfl g6 dX4_smellOf_6 ?_
  refine lv_isub hx hb dX4_smellOf_7 ?_
  refine lv_istore (lv' := [(4, .int (p3 - (σ 8 (ix p1)))), (0, .ref (ad 0)), (1, .int p1), (2, .int p2), (3, .int p3)]) hx hb dX4_smellOf_8 hl (by decide) rfl (fun ls hl => ?_)
  refine lv_aload_n hx hb dX4_smellOf_10 rfl (lv_at hl 1 rfl) ?_
  refine r_get (C := RX4) (T := TX4) (N := 25) S hK w (k := 0) (by decide) (eM_0 ad _) rfl hinX4 12 (by decide) (List.mem_of_getElem? (i := 2) rfl) rfl dX4_smellOf_11 ?_
  refine lv_iload_n hx hb dX4_smellOf_14 rfl (lv_at hl 2 rfl) ?_
  have g15 : vp_in p1 8 := vpi (by omega) (by omega)
  refine r_iald (cA := ad 100) (N := 8) S hK w (k := 6) (by decide) (fun f => rfl) rfl g15 dX4_smellOf_15 ?_
  refine lv_istore (lv' := [(5, .int (σ 6 (ix p1))), (4, .int (p3 - (σ 8 (ix p1)))), (0, .ref (ad 0)), (1, .int p1), (2, .int p2), (3, .int p3)]) hx hb dX4_smellOf_16 hl (by decide) rfl (fun ls hl => ?_)
  refine lv_aload_n hx hb dX4_smellOf_18 rfl (lv_at hl 2 rfl) ?_
  refine r_get (C := RX4) (T := TX4) (N := 25) S hK w (k := 0) (by decide) (eM_0 ad _) rfl hinX4 13 (by decide) (List.mem_of_getElem? (i := 3) rfl) rfl dX4_smellOf_19 ?_
  refine lv_iload_n hx hb dX4_smellOf_22 rfl (lv_at hl 3 rfl) ?_
  have g23 : vp_in p1 8 := vpi (by omega) (by omega)
  refine r_iald (cA := ad 100) (N := 8) S hK w (k := 7) (by decide) (fun f => rfl) rfl g23 dX4_smellOf_23 ?_
  refine lv_istore (lv' := [(6, .int (σ 7 (ix p1))), (5, .int (σ 6 (ix p1))), (4, .int (p3 - (σ 8 (ix p1)))), (0, .ref (ad 0)), (1, .int p1), (2, .int p2), (3, .int p3)]) hx hb dX4_smellOf_24 hl (by decide) rfl (fun ls hl => ?_)
  refine lv_iconst (v := 0) hx hb dX4_smellOf_26 (by decide) ?_
  refine lv_aload_n hx hb dX4_smellOf_27 rfl (lv_at hl 3 rfl) ?_
  refine lv_iload hx hb dX4_smellOf_28 (lv_at hl 1 rfl) ?_
  refine lv_iload_n hx hb dX4_smellOf_30 rfl (lv_at hl 5 rfl) ?_
  refine lv_iconst (v := 4) hx hb dX4_smellOf_31 (by decide) ?_
  refine lv_aload_n hx hb dX4_smellOf_32 rfl (lv_at hl 3 rfl) ?_
  refine lv_iload hx hb dX4_smellOf_33 (lv_at hl 1 rfl) ?_
  refine lv_iload_n hx hb dX4_smellOf_35 rfl (lv_at hl 5 rfl) ?_
  refine call0i (va_runV (As := [.int (σ 6 (ix p1)), .int p2]) (rest := [.int 4, .int p2, .int (σ 6 (ix p1)), .ref (ad 0), .int 0]) S (c_X4_strong l ad D s.heap.size σ (σ 6 (ix p1)) p2 (by omega) (by omega)) (cwV 2 S.2.2.2.2 gX4_smellOf_X4_strong rfl rfl rfl ⟨rfl, hd_X4_strong⟩ ⟨Nat.le_of_ble_eq_true rfl, Nat.le_of_ble_eq_true rfl⟩) (preV hK hN w (k := 0) (by decide) (eM_0 ad _) (q := (RX4, TX4, 25)) rfl) rfl rfl hl.1 rfl (lv_room (Nat.le_of_ble_eq_true rfl)) dX4_smellOf_36 ⟨Nat.zero_le _, Nat.zero_le _⟩) ?_
  refine lv_imul hx hb dX4_smellOf_39 ?_
  refine lv_iload hx hb dX4_smellOf_40 (lv_at hl 2 rfl) ?_
  refine call0i (va_runV (As := [.int (σ 6 (ix p1)), .int p2, .int (4 * (f_X4_strong σ (σ 6 (ix p1)) p2)), .int (p3 - (σ 8 (ix p1)))]) (rest := [.int 0]) S (c_X4_fades l ad D s.heap.size σ (σ 6 (ix p1)) p2 (4 * (f_X4_strong σ (σ 6 (ix p1)) p2)) (p3 - (σ 8 (ix p1))) hok (by omega) (by omega) (by omega) (by omega)) (cwV 4 S.2.2.2.2 gX4_smellOf_X4_fades rfl rfl rfl ⟨rfl, hd_X4_fades⟩ ⟨Nat.le_of_ble_eq_true rfl, Nat.le_of_ble_eq_true rfl⟩) (preV hK hN w (k := 0) (by decide) (eM_0 ad _) (q := (RX4, TX4, 25)) rfl) rfl rfl hl.1 rfl (lv_room (Nat.le_of_ble_eq_true rfl)) dX4_smellOf_42 ⟨Nat.zero_le _, Nat.zero_le _⟩) ?_
  refine lv_aload_n hx hb dX4_smellOf_45 rfl (lv_at hl 3 rfl) ?_
  refine lv_iload hx hb dX4_smellOf_46 (lv_at hl 0 rfl) ?_
  refine lv_iload_n hx hb dX4_smellOf_48 rfl (lv_at hl 5 rfl) ?_
  refine lv_iconst (v := 4) hx hb dX4_smellOf_49 (by decide) ?_
  refine lv_aload_n hx hb dX4_smellOf_50 rfl (lv_at hl 3 rfl) ?_
  refine lv_iload hx hb dX4_smellOf_51 (lv_at hl 0 rfl) ?_
  refine lv_iload_n hx hb dX4_smellOf_53 rfl (lv_at hl 5 rfl) ?_
  refine call0i (va_runV (As := [.int (σ 7 (ix p1)), .int p2]) (rest := [.int 4, .int p2, .int (σ 7 (ix p1)), .ref (ad 0), .int (f_X4_fades σ (σ 6 (ix p1)) p2 (4 * (f_X4_strong σ (σ 6 (ix p1)) p2)) (p3 - (σ 8 (ix p1)))), .int 0]) S (c_X4_strong l ad D s.heap.size σ (σ 7 (ix p1)) p2 (by omega) (by omega)) (cwV 2 S.2.2.2.2 gX4_smellOf_X4_strong rfl rfl rfl ⟨rfl, hd_X4_strong⟩ ⟨Nat.le_of_ble_eq_true rfl, Nat.le_of_ble_eq_true rfl⟩) (preV hK hN w (k := 0) (by decide) (eM_0 ad _) (q := (RX4, TX4, 25)) rfl) rfl rfl hl.1 rfl (lv_room (Nat.le_of_ble_eq_true rfl)) dX4_smellOf_54 ⟨Nat.zero_le _, Nat.zero_le _⟩) ?_
  refine lv_imul hx hb dX4_smellOf_57 ?_
  refine lv_iload hx hb dX4_smellOf_58 (lv_at hl 2 rfl) ?_
  refine call0i (va_runV (As := [.int (σ 7 (ix p1)), .int p2, .int (4 * (f_X4_strong σ (σ 7 (ix p1)) p2)), .int (p3 - (σ 8 (ix p1)))]) (rest := [.int (f_X4_fades σ (σ 6 (ix p1)) p2 (4 * (f_X4_strong σ (σ 6 (ix p1)) p2)) (p3 - (σ 8 (ix p1)))), .int 0]) S (c_X4_fades l ad D s.heap.size σ (σ 7 (ix p1)) p2 (4 * (f_X4_strong σ (σ 7 (ix p1)) p2)) (p3 - (σ 8 (ix p1))) hok (by omega) (by omega) (by omega) (by omega)) (cwV 4 S.2.2.2.2 gX4_smellOf_X4_fades rfl rfl rfl ⟨rfl, hd_X4_fades⟩ ⟨Nat.le_of_ble_eq_true rfl, Nat.le_of_ble_eq_true rfl⟩) (preV hK hN w (k := 0) (by decide) (eM_0 ad _) (q := (RX4, TX4, 25)) rfl) rfl rfl hl.1 rfl (lv_room (Nat.le_of_ble_eq_true rfl)) dX4_smellOf_60 ⟨Nat.zero_le _, Nat.zero_le _⟩) ?_
  refine lv_iadd hx hb dX4_smellOf_63 ?_
  refine lv_aload_n hx hb dX4_smellOf_64 rfl (lv_at hl 3 rfl) ?_
  refine r_get (C := RX4) (T := TX4) (N := 25) S hK w (k := 0) (by decide) (eM_0 ad _) rfl hinX4 15 (by decide) (List.mem_of_getElem? (i := 4) rfl) rfl dX4_smellOf_65 ?_
  refine lv_iload_n hx hb dX4_smellOf_68 rfl (lv_at hl 4 rfl) ?_
  have g69 : vp_in p1 8 := vpi (by omega) (by omega)
  refine r_iald (cA := ad 100) (N := 8) S hK w (k := 9) (by decide) (fun f => rfl) rfl g69 dX4_smellOf_69 ?_
  refine lv_isub hx hb dX4_smellOf_70 ?_
  refine call0i (va_runS (As := [.int 0, .int (((f_X4_fades σ (σ 6 (ix p1)) p2 (4 * (f_X4_strong σ (σ 6 (ix p1)) p2)) (p3 - (σ 8 (ix p1)))) + (f_X4_fades σ (σ 7 (ix p1)) p2 (4 * (f_X4_strong σ (σ 7 (ix p1)) p2)) (p3 - (σ 8 (ix p1))))) - (σ 9 (ix p1)))]) (rest := []) S (c_X4_greater l 0 (((f_X4_fades σ (σ 6 (ix p1)) p2 (4 * (f_X4_strong σ (σ 6 (ix p1)) p2)) (p3 - (σ 8 (ix p1)))) + (f_X4_fades σ (σ 7 (ix p1)) p2 (4 * (f_X4_strong σ (σ 7 (ix p1)) p2)) (p3 - (σ 8 (ix p1))))) - (σ 9 (ix p1)))) (va_cwS 2 S.2.2.2.2 gX4_smellOf_X4_greater rfl rfl rfl hd_X4_greater ⟨Nat.le_of_ble_eq_true rfl, Nat.le_of_ble_eq_true rfl⟩) pre0S rfl rfl hl.1 rfl (lv_room (Nat.le_of_ble_eq_true rfl)) dX4_smellOf_71 ⟨Nat.zero_le _, Nat.zero_le _⟩) ?_
  refine lv_istore (lv' := [(7, .int (f_X4_greater 0 (((f_X4_fades σ (σ 6 (ix p1)) p2 (4 * (f_X4_strong σ (σ 6 (ix p1)) p2)) (p3 - (σ 8 (ix p1)))) + (f_X4_fades σ (σ 7 (ix p1)) p2 (4 * (f_X4_strong σ (σ 7 (ix p1)) p2)) (p3 - (σ 8 (ix p1))))) - (σ 9 (ix p1))))), (6, .int (σ 7 (ix p1))), (5, .int (σ 6 (ix p1))), (4, .int (p3 - (σ 8 (ix p1)))), (0, .ref (ad 0)), (1, .int p1), (2, .int p2), (3, .int p3)]) hx hb dX4_smellOf_74 hl (by decide) rfl (fun ls hl => ?_)
  refine lv_aload_n hx hb dX4_smellOf_76 rfl (lv_at hl 4 rfl) ?_
  refine r_get (C := RX4) (T := TX4) (N := 25) S hK w (k := 0) (by decide) (eM_0 ad _) rfl hinX4 16 (by decide) (List.mem_of_getElem? (i := 5) rfl) rfl dX4_smellOf_77 ?_
  refine lv_iload_n hx hb dX4_smellOf_80 rfl (lv_at hl 5 rfl) ?_
  have g81 : vp_in p1 8 := vpi (by omega) (by omega)
  refine r_iald (cA := ad 100) (N := 8) S hK w (k := 10) (by decide) (fun f => rfl) rfl g81 dX4_smellOf_81 ?_
  refine lv_iload_n hx hb dX4_smellOf_82 rfl (lv_at hl 6 rfl) ?_
  refine lv_ishr hx hb dX4_smellOf_83 ?_
  refine lv_iconst (v := 1) hx hb dX4_smellOf_84 (by decide) ?_
  refine lv_iand hx hb dX4_smellOf_85 ?_
  refine lv_iconst (v := 1) hx hb dX4_smellOf_86 (by decide) ?_
  have J87_96 : ∀ (k0_87_96 : Int32), (k0_87_96 + (σ 11 (ix p1))) = T → ∀ ls : Array Slot, lv_has ls 8 [(0, .ref (ad 0)), (1, .int p1)] → W p l e (headSpec wsX4_smellOf ({ frames := 1, cells := 0, slots := 0, locals := 27 })).room s m ([.ref (ad 0), .int p1, .int p2, .int p3] : List Value).toArray below meth c s.heap [] 0 0 (MQ below (Q0i T) ([.ref (ad 0), .int p1, .int p2, .int p3] : List Value).toArray s 0 0 N0) (F0 m 96 ls [.int k0_87_96]) := by
    intro k0_87_96 hG ls hl
    refine lv_aload_n hx hb dX4_smellOf_96 rfl (lv_at hl 0 rfl) ?_
    refine r_get (C := RX4) (T := TX4) (N := 25) S hK w (k := 0) (by decide) (eM_0 ad _) rfl hinX4 17 (by decide) (List.mem_of_getElem? (i := 6) rfl) rfl dX4_smellOf_97 ?_
    refine lv_iload_n hx hb dX4_smellOf_100 rfl (lv_at hl 1 rfl) ?_
    have g101 : vp_in p1 8 := vpi (by omega) (by omega)
    refine r_iald (cA := ad 100) (N := 8) S hK w (k := 11) (by decide) (fun f => rfl) rfl g101 dX4_smellOf_101 ?_
    refine lv_iadd hx hb dX4_smellOf_102 ?_
    exact end0i S hr hlocks hG dX4_smellOf_103
  refine lv_icmp_ne (tgt := 94) hx hb dX4_smellOf_87 (by decide) (fun c87 => ?_) (fun c87 => ?_)
  · have t87 : (((σ 10 (ix p1)) >>> (p2 &&& 31)) &&& 1).toInt ≠ 1 := qt_ne c87
    simp only [if_neg c87] at hG
    refine lv_iload hx hb dX4_smellOf_94 (lv_at hl 0 rfl) ?_
    exact J87_96 (f_X4_greater 0 (((f_X4_fades σ (σ 6 (ix p1)) p2 (4 * (f_X4_strong σ (σ 6 (ix p1)) p2)) (p3 - (σ 8 (ix p1)))) + (f_X4_fades σ (σ 7 (ix p1)) p2 (4 * (f_X4_strong σ (σ 7 (ix p1)) p2)) (p3 - (σ 8 (ix p1))))) - (σ 9 (ix p1)))) hG ls (lv_sub hl [4, 5] rfl)
  · have t87 : (((σ 10 (ix p1)) >>> (p2 &&& 31)) &&& 1).toInt = 1 := qt_eq c87
    simp only [if_pos c87] at hG
    refine lv_iconst (v := 0) hx hb dX4_smellOf_90 (by decide) ?_
    refine lv_goto (tgt := 96) hx hb dX4_smellOf_91 (by decide) ?_
    exact J87_96 0 hG ls (lv_sub hl [4, 5] rfl)
set_option maxHeartbeats 4000000 in
set_option maxRecDepth 100000 in
theorem c_X4_smells (l : Launch) (ad : Nat → Nat) (D : va_G) (sz : Nat) (σ : St) (p1 : Int32) (p2 : Int32) (p3 : Int32) (hok : OkM σ) : Met l yX4_smells wsX4_smells ({ frames := 2, cells := 0, slots := 0, locals := 54 }) (PreW 18 (eM ad) ad D (tyM ad) σ sz ([.ref (ad 0), .int p1, .int p2, .int p3] : List Value)) (Q0i (f_X4_smells σ p1 p2 p3)) 0 0 N0 := by
  generalize hG : f_X4_smells σ p1 p2 p3 = T
  refine headW (cc := cX4_smells) (maxL := 4) (ret := (some .int)) ([.ref (ad 0), .int p1, .int p2, .int p3] : List Value) (by decide) rfl (Nat.le_of_ble_eq_true rfl) ?_
  intro p e s m below meth c S hr hlocks hK hN hsz w ls hl
  have S : CallFix p m c cX4_smells 4 s ([.ref (ad 0), .int p1, .int p2, .int p3] : List Value).toArray wsX4_smells RX4 := S
  have hx := S.1
  have hb := S.2.1
  have z0 : (0 : Int32).toInt = 0 := by decide
  have z1 : (1 : Int32).toInt = 1 := by decide
  have hl : lv_has ls 4 [(0, .ref (ad 0)), (1, .int p1), (2, .int p2), (3, .int p3)] := hl
  have hinX4 : ∀ w ∈ wsX40, w ∈ wsX4_smells := (fun _ h => List.mem_cons_of_mem _ (List.mem_append_right _ h))
  have okf0 := hok.1
  have okf1 := hok.2.1
  have okf2 := hok.2.2.1
  have okf3 := hok.2.2.2.1
  have okf4 := hok.2.2.2.2.1
  have okf6 := hok.2.2.2.2.2.1
  have okf7 := hok.2.2.2.2.2.2.1
  have okf8 := hok.2.2.2.2.2.2.2
  rw [f_X4_smells] at hG
  refine lv_aload_n hx hb dX4_smells_0 rfl (lv_at hl 0 rfl) ?_
  refine lv_iload_n hx hb dX4_smells_1 rfl (lv_at hl 1 rfl) ?_
  refine call0i (va_runV (As := [.int p1]) (rest := []) S (c_X4_noPaper l ad D s.heap.size σ p1) (cwV 1 S.2.2.2.2 gX4_smells_X4_noPaper rfl rfl rfl ⟨rfl, hd_X4_noPaper⟩ ⟨Nat.le_of_ble_eq_true rfl, Nat.le_of_ble_eq_true rfl⟩) (preV hK hN w (k := 0) (by decide) (eM_0 ad _) (q := (RX4, TX4, 25)) rfl) rfl rfl hl.1 rfl (lv_room (Nat.le_of_ble_eq_true rfl)) dX4_smells_2 ⟨Nat.zero_le _, Nat.zero_le _⟩) ?_
  refine lv_if_ne (tgt := 15) hx hb dX4_smells_5 (by decide) (fun c5 => ?_) (fun c5 => ?_)
  · rw [if_neg c5] at hG
    refine lv_iconst (v := (-1)) hx hb dX4_smells_15 (by decide) ?_
    exact end0i S hr hlocks hG dX4_smells_16
  · have t5 := bf_noPaper_z c5
    rw [if_pos c5] at hG
    refine lv_iload_n hx hb dX4_smells_8 rfl (lv_at hl 2 rfl) ?_
    refine call0i (va_runS (As := [.int p2]) (rest := []) S (c_X4_noSmell l p2) (va_cwS 1 S.2.2.2.2 gX4_smells_X4_noSmell rfl rfl rfl hd_X4_noSmell ⟨Nat.le_of_ble_eq_true rfl, Nat.le_of_ble_eq_true rfl⟩) pre0S rfl rfl hl.1 rfl (lv_room (Nat.le_of_ble_eq_true rfl)) dX4_smells_9 ⟨Nat.zero_le _, Nat.zero_le _⟩) ?_
    refine lv_if_eq (tgt := 17) hx hb dX4_smells_12 (by decide) (fun c12 => ?_) (fun c12 => ?_)
    · have t12 := bf_noSmell_z c12
      rw [if_pos c12] at hG
      refine lv_iload_n hx hb dX4_smells_17 rfl (lv_at hl 3 rfl) ?_
      refine lv_i2l hx hb dX4_smells_18 rfl ?_
      refine lv_aload_n hx hb dX4_smells_19 rfl (lv_at hl 0 rfl) ?_
      refine r_get (C := RX4) (T := TX4) (N := 25) S hK w (k := 0) (by decide) (eM_0 ad _) rfl hinX4 14 (by decide) (List.mem_of_getElem? (i := 1) rfl) rfl dX4_smells_20 ?_
      refine lv_iload_n hx hb dX4_smells_23 rfl (lv_at hl 1 rfl) ?_
      have g24 : vp_in p1 8 := vpi (by omega) (by omega)
      refine r_iald (cA := ad 100) (N := 8) S hK w (k := 8) (by decide) (fun f => rfl) rfl g24 dX4_smells_24 ?_
      refine lv_i2l hx hb dX4_smells_25 rfl ?_
      refine lv_ldc2 hx hb S.2.2.2.1 (S.2.2.2.2 _ (List.mem_of_getElem? (i := 2) rfl)) dX4_smells_26 ?_
      refine call0i (va_runS (As := [.long p3.toInt64, .long ((σ 8 (ix p1)).toInt64), .long 99]) (rest := []) S (c_X4_in l p3.toInt64 ((σ 8 (ix p1)).toInt64) 99) (va_cwS 3 S.2.2.2.2 gX4_smells_X4_in rfl rfl rfl hd_X4_in ⟨Nat.le_of_ble_eq_true rfl, Nat.le_of_ble_eq_true rfl⟩) pre0S rfl rfl hl.1 rfl (lv_room (Nat.le_of_ble_eq_true rfl)) dX4_smells_29 ⟨Nat.zero_le _, Nat.zero_le _⟩) ?_
      refine lv_if_eq (tgt := 45) hx hb dX4_smells_32 (by decide) (fun c32 => ?_) (fun c32 => ?_)
      · rw [if_pos c32] at hG
        refine lv_bipush (v := (-2)) hx hb dX4_smells_45 (by decide) ?_
        exact end0i S hr hlocks hG dX4_smells_47
      · have t32 := bf_in_n c32
        rw [if_neg c32] at hG
        refine lv_aload_n hx hb dX4_smells_35 rfl (lv_at hl 0 rfl) ?_
        have y1 : p3.toInt64.toInt = p3.toInt := Int32.toInt_toInt64 p3
        have y2 : (99 : Int64).toInt = 99 := by decide
        have y3 : (σ 8 (ix p1)).toInt64.toInt = (σ 8 (ix p1)).toInt := Int32.toInt_toInt64 _
        have y4 := okf7 (ix p1) (vpl g24)
        refine lv_iload_n hx hb dX4_smells_36 rfl (lv_at hl 1 rfl) ?_
        refine lv_iload_n hx hb dX4_smells_37 rfl (lv_at hl 2 rfl) ?_
        refine lv_iload_n hx hb dX4_smells_38 rfl (lv_at hl 3 rfl) ?_
        refine call0i (va_runV (As := [.int p1, .int p2, .int p3]) (rest := []) S (c_X4_smellOf l ad D s.heap.size σ p1 p2 p3 hok (by omega) (by omega) (by omega) (by omega)) (cwV 3 S.2.2.2.2 gX4_smells_X4_smellOf rfl rfl rfl ⟨rfl, hd_X4_smellOf⟩ ⟨Nat.le_of_ble_eq_true rfl, Nat.le_of_ble_eq_true rfl⟩) (preV hK hN w (k := 0) (by decide) (eM_0 ad _) (q := (RX4, TX4, 25)) rfl) rfl rfl hl.1 rfl (lv_room (Nat.le_of_ble_eq_true rfl)) dX4_smells_39 ⟨Nat.zero_le _, Nat.zero_le _⟩) ?_
        refine lv_goto (tgt := 47) hx hb dX4_smells_42 (by decide) ?_
        exact end0i S hr hlocks hG dX4_smells_47
    · rw [if_neg c12] at hG
      refine lv_iconst (v := (-1)) hx hb dX4_smells_15 (by decide) ?_
      exact end0i S hr hlocks hG dX4_smells_16
set_option maxHeartbeats 4000000 in
set_option maxRecDepth 100000 in
theorem c_X4_wash (l : Launch) (ad : Nat → Nat) (D : va_G) (sz : Nat) (σ : St) (p1 : Int32) (p2 : Int32) (hok : OkM σ) : Met l yX4_wash wsX4_wash ({ frames := 2, cells := 0, slots := 0, locals := 46 }) (PreW 18 (eM ad) ad D (tyM ad) σ sz ([.ref (ad 0), .int p1, .int p2] : List Value)) (QWi 18 (eM ad) ad D (f_X4_wash σ p1 p2) (CA 18 ad sz)) 0 0 (CA 18 ad sz) := by
  generalize hG : f_X4_wash σ p1 p2 = T
  refine headW (cc := cX4_wash) (maxL := 4) (ret := (some .int)) ([.ref (ad 0), .int p1, .int p2] : List Value) (by decide) rfl (Nat.le_of_ble_eq_true rfl) ?_
  intro p e s m below meth c S hr hlocks hK hN hsz w ls hl
  have S : CallFix p m c cX4_wash 4 s ([.ref (ad 0), .int p1, .int p2] : List Value).toArray wsX4_wash RX4 := S
  have hx := S.1
  have hb := S.2.1
  have z0 : (0 : Int32).toInt = 0 := by decide
  have z1 : (1 : Int32).toInt = 1 := by decide
  have hl : lv_has ls 4 [(0, .ref (ad 0)), (1, .int p1), (2, .int p2)] := hl
  have hinX4 : ∀ w ∈ wsX40, w ∈ wsX4_wash := (fun _ h => List.mem_cons_of_mem _ (List.mem_append_right _ h))
  have okf0 := hok.1
  have okf1 := hok.2.1
  have okf2 := hok.2.2.1
  have okf3 := hok.2.2.2.1
  have okf4 := hok.2.2.2.2.1
  have okf6 := hok.2.2.2.2.2.1
  have okf7 := hok.2.2.2.2.2.2.1
  have okf8 := hok.2.2.2.2.2.2.2
  rw [f_X4_wash] at hG
  refine lv_aload_n hx hb dX4_wash_0 rfl (lv_at hl 0 rfl) ?_
  refine lv_iload_n hx hb dX4_wash_1 rfl (lv_at hl 1 rfl) ?_
  refine call0i (va_runV (As := [.int p1]) (rest := []) S (c_X4_noPaper l ad D s.heap.size σ p1) (cwV 1 S.2.2.2.2 gX4_wash_X4_noPaper rfl rfl rfl ⟨rfl, hd_X4_noPaper⟩ ⟨Nat.le_of_ble_eq_true rfl, Nat.le_of_ble_eq_true rfl⟩) (preV hK hN w (k := 0) (by decide) (eM_0 ad _) (q := (RX4, TX4, 25)) rfl) rfl rfl hl.1 rfl (lv_room (Nat.le_of_ble_eq_true rfl)) dX4_wash_2 ⟨Nat.zero_le _, Nat.zero_le _⟩) ?_
  refine lv_if_ne (tgt := 15) hx hb dX4_wash_5 (by decide) (fun c5 => ?_) (fun c5 => ?_)
  · rw [if_neg c5] at hG
    refine lv_iconst (v := (-1)) hx hb dX4_wash_15 (by decide) ?_
    exact endWi S hr hlocks w hG dX4_wash_16
  · have t5 := bf_noPaper_z c5
    rw [if_pos c5] at hG
    refine lv_iload_n hx hb dX4_wash_8 rfl (lv_at hl 2 rfl) ?_
    refine call0i (va_runS (As := [.int p2]) (rest := []) S (c_X4_noSmell l p2) (va_cwS 1 S.2.2.2.2 gX4_wash_X4_noSmell rfl rfl rfl hd_X4_noSmell ⟨Nat.le_of_ble_eq_true rfl, Nat.le_of_ble_eq_true rfl⟩) pre0S rfl rfl hl.1 rfl (lv_room (Nat.le_of_ble_eq_true rfl)) dX4_wash_9 ⟨Nat.zero_le _, Nat.zero_le _⟩) ?_
    refine lv_if_eq (tgt := 17) hx hb dX4_wash_12 (by decide) (fun c12 => ?_) (fun c12 => ?_)
    · have t12 := bf_noSmell_z c12
      rw [if_pos c12] at hG
      refine lv_aload_n hx hb dX4_wash_17 rfl (lv_at hl 0 rfl) ?_
      refine r_get (C := RX4) (T := TX4) (N := 25) S hK w (k := 0) (by decide) (eM_0 ad _) rfl hinX4 16 (by decide) (List.mem_of_getElem? (i := 1) rfl) rfl dX4_wash_18 ?_
      refine lv_iload_n hx hb dX4_wash_21 rfl (lv_at hl 1 rfl) ?_
      have g22 : vp_in p1 8 := vpi (by omega) (by omega)
      refine r_iald (cA := ad 100) (N := 8) S hK w (k := 10) (by decide) (fun f => rfl) rfl g22 dX4_wash_22 ?_
      refine lv_iload_n hx hb dX4_wash_23 rfl (lv_at hl 2 rfl) ?_
      refine lv_ishr hx hb dX4_wash_24 ?_
      refine lv_iconst (v := 1) hx hb dX4_wash_25 (by decide) ?_
      refine lv_iand hx hb dX4_wash_26 ?_
      refine lv_istore_n (lv' := [(3, .int (((σ 10 (ix p1)) >>> (p2 &&& 31)) &&& 1)), (0, .ref (ad 0)), (1, .int p1), (2, .int p2)]) hx hb dX4_wash_27 rfl hl (by decide) rfl (fun ls hl => ?_)
      refine lv_aload_n hx hb dX4_wash_28 rfl (lv_at hl 1 rfl) ?_
      refine r_get (C := RX4) (T := TX4) (N := 25) S hK w (k := 0) (by decide) (eM_0 ad _) rfl hinX4 16 (by decide) (List.mem_of_getElem? (i := 1) rfl) rfl dX4_wash_29 ?_
      refine lv_iload_n hx hb dX4_wash_32 rfl (lv_at hl 2 rfl) ?_
      refine lv_dup2_11 hx hb dX4_wash_33 rfl rfl ?_
      have g34 : vp_in p1 8 := vpi (by omega) (by omega)
      refine r_iald (cA := ad 100) (N := 8) S hK w (k := 10) (by decide) (fun f => rfl) rfl g34 dX4_wash_34 ?_
      refine lv_iconst (v := 1) hx hb dX4_wash_35 (by decide) ?_
      refine lv_iload_n hx hb dX4_wash_36 rfl (lv_at hl 3 rfl) ?_
      refine lv_ishl hx hb dX4_wash_37 ?_
      refine lv_ior hx hb dX4_wash_38 ?_
      have g39 : vp_in p1 8 := vpi (by omega) (by omega)
      refine r_iast (cA := ad 100) (N := 8) S hK w (k := 10) (by decide) (fun f => rfl) rfl g39 dX4_wash_39 (fun H locs w => ?_)
      have hok : OkM (u2 σ 10 (ix p1) ((σ 10 (ix p1)) ||| ((1 : Int32) <<< (p2 &&& 31)))) := okM_scr (show scrM 10 by unfold scrM; omega) hok
      have okf0 := hok.1
      have okf1 := hok.2.1
      have okf2 := hok.2.2.1
      have okf3 := hok.2.2.2.1
      have okf4 := hok.2.2.2.2.1
      have okf6 := hok.2.2.2.2.2.1
      have okf7 := hok.2.2.2.2.2.2.1
      have okf8 := hok.2.2.2.2.2.2.2
      refine lv_iconst (v := 1) hx hb dX4_wash_40 (by decide) ?_
      refine lv_iload_n hx hb dX4_wash_41 rfl (lv_at hl 0 rfl) ?_
      refine lv_isub hx hb dX4_wash_42 ?_
      exact endWi S hr hlocks w hG dX4_wash_43
    · rw [if_neg c12] at hG
      refine lv_iconst (v := (-1)) hx hb dX4_wash_15 (by decide) ?_
      exact endWi S hr hlocks w hG dX4_wash_16
set_option maxHeartbeats 4000000 in
set_option maxRecDepth 100000 in
theorem c_X4_flood (l : Launch) (ad : Nat → Nat) (D : va_G) (sz : Nat) (σ : St) (p1 : Int32) (hok : OkM σ) : Met l yX4_flood wsX4_flood ({ frames := 1, cells := 0, slots := 0, locals := 25 }) (PreW 18 (eM ad) ad D (tyM ad) σ sz ([.ref (ad 0), .int p1] : List Value)) (QWi 18 (eM ad) ad D (f_X4_flood σ p1) (CA 18 ad sz)) 0 0 (CA 18 ad sz) := by
  generalize hG : f_X4_flood σ p1 = T
  refine headW (cc := cX4_flood) (maxL := 3) (ret := (some .int)) ([.ref (ad 0), .int p1] : List Value) (by decide) rfl (Nat.le_of_ble_eq_true rfl) ?_
  intro p e s m below meth c S hr hlocks hK hN hsz w ls hl
  have S : CallFix p m c cX4_flood 3 s ([.ref (ad 0), .int p1] : List Value).toArray wsX4_flood RX4 := S
  have hx := S.1
  have hb := S.2.1
  have z0 : (0 : Int32).toInt = 0 := by decide
  have z1 : (1 : Int32).toInt = 1 := by decide
  have hl : lv_has ls 3 [(0, .ref (ad 0)), (1, .int p1)] := hl
  have hinX4 : ∀ w ∈ wsX40, w ∈ wsX4_flood := (fun _ h => List.mem_cons_of_mem _ (List.mem_append_right _ h))
  have okf0 := hok.1
  have okf1 := hok.2.1
  have okf2 := hok.2.2.1
  have okf3 := hok.2.2.2.1
  have okf4 := hok.2.2.2.2.1
  have okf6 := hok.2.2.2.2.2.1
  have okf7 := hok.2.2.2.2.2.2.1
  have okf8 := hok.2.2.2.2.2.2.2
  rw [f_X4_flood] at hG
  refine lv_iload_n hx hb dX4_flood_0 rfl (lv_at hl 1 rfl) ?_
  refine lv_i2l hx hb dX4_flood_1 rfl ?_
  refine lv_lconst (v := 1) hx hb dX4_flood_2 (by decide) ?_
  refine lv_ldc2 hx hb S.2.2.2.1 (S.2.2.2.2 _ (List.mem_of_getElem? (i := 1) rfl)) dX4_flood_3 ?_
  refine call0i (va_runS (As := [.long p1.toInt64, .long 1, .long 9]) (rest := []) S (c_X4_in l p1.toInt64 1 9) (va_cwS 3 S.2.2.2.2 gX4_flood_X4_in rfl rfl rfl hd_X4_in ⟨Nat.le_of_ble_eq_true rfl, Nat.le_of_ble_eq_true rfl⟩) pre0S rfl rfl hl.1 rfl (lv_room (Nat.le_of_ble_eq_true rfl)) dX4_flood_6 ⟨Nat.zero_le _, Nat.zero_le _⟩) ?_
  refine lv_if_ne (tgt := 15) hx hb dX4_flood_9 (by decide) (fun c9 => ?_) (fun c9 => ?_)
  · have t9 := bf_in_n c9
    rw [if_neg c9] at hG
    refine lv_iconst (v := 0) hx hb dX4_flood_15 (by decide) ?_
    refine lv_istore_n (lv' := [(2, .int 0), (0, .ref (ad 0)), (1, .int p1)]) hx hb dX4_flood_16 rfl hl (by decide) rfl (fun ls hl => ?_)
    have L17 : ∀ (n : Nat) (res17 : St), ∀ (v2_17 : Int32), ∀ (S_17 : St), ((OkM S_17) ∧ (0 ≤ v2_17.toInt ∧ v2_17.toInt ≤ 8)) → (8 - v2_17.toInt).toNat < n → (lp_X4_flood_17 p1 n v2_17 S_17) = res17 → (∀ (S_17e : St), (OkM S_17e) → res17 = S_17e → ∀ (H : Heap) (locs : List Loc), CW 18 (eM ad) ad D (CA 18 ad sz) s.heap S_17e H locs → ∀ ls : Array Slot, lv_has ls 3 [(0, .ref (ad 0))] → W p l e (headSpec wsX4_flood ({ frames := 1, cells := 0, slots := 0, locals := 25 })).room s m ([.ref (ad 0), .int p1] : List Value).toArray below meth c H locs 0 0 (MQ below (QWi 18 (eM ad) ad D T (CA 18 ad sz)) ([.ref (ad 0), .int p1] : List Value).toArray s 0 0 (CA 18 ad sz)) (F0 m 41 ls [])) → ∀ (H : Heap) (locs : List Loc), CW 18 (eM ad) ad D (CA 18 ad sz) s.heap S_17 H locs → ∀ ls : Array Slot, lv_has ls 3 [(0, .ref (ad 0)), (1, .int p1), (2, .int v2_17)] → W p l e (headSpec wsX4_flood ({ frames := 1, cells := 0, slots := 0, locals := 25 })).room s m ([.ref (ad 0), .int p1] : List Value).toArray below meth c H locs 0 0 (MQ below (QWi 18 (eM ad) ad D T (CA 18 ad sz)) ([.ref (ad 0), .int p1] : List Value).toArray s 0 0 (CA 18 ad sz)) (F0 m 17 ls []) := by
      intro n
      induction n with
      | zero => intro _ _ _ _ hm; exact absurd hm (Nat.not_lt_zero _)
      | succ n ih17 =>
        intro res17 v2_17 S_17 hI17 hm17 hG hex17 H locs w ls hl
        obtain ⟨hok, i17_1⟩ := id hI17
        have okf0 := hok.1
        have okf1 := hok.2.1
        have okf2 := hok.2.2.1
        have okf3 := hok.2.2.2.1
        have okf4 := hok.2.2.2.2.1
        have okf6 := hok.2.2.2.2.2.1
        have okf7 := hok.2.2.2.2.2.2.1
        have okf8 := hok.2.2.2.2.2.2.2
        rw [lp_X4_flood_17] at hG
        refine lv_iload_n hx hb dX4_flood_17 rfl (lv_at hl 2 rfl) ?_
        refine lv_aload_n hx hb dX4_flood_18 rfl (lv_at hl 0 rfl) ?_
        refine r_get (C := RX4) (T := TX4) (N := 25) S hK w (k := 0) (by decide) (eM_0 ad _) rfl hinX4 11 (by decide) (List.mem_of_getElem? (i := 2) rfl) rfl dX4_flood_19 ?_
        refine lv_icmp_ge (tgt := 41) hx hb dX4_flood_22 (by decide) (fun c22 => ?_) (fun c22 => ?_)
        · have t22 : (S_17 0 11).toInt ≤ v2_17.toInt := qt_le c22
          rw [if_pos c22] at hG
          exact hex17 S_17 hok hG.symm _ _ w ls (lv_sub hl [0] rfl)
        · have t22 : v2_17.toInt < (S_17 0 11).toInt := qt_nle c22
          rw [if_neg c22] at hG
          refine lv_aload_n hx hb dX4_flood_25 rfl (lv_at hl 0 rfl) ?_
          refine r_get (C := RX4) (T := TX4) (N := 25) S hK w (k := 0) (by decide) (eM_0 ad _) rfl hinX4 17 (by decide) (List.mem_of_getElem? (i := 3) rfl) rfl dX4_flood_26 ?_
          refine lv_iload_n hx hb dX4_flood_29 rfl (lv_at hl 2 rfl) ?_
          refine lv_dup2_11 hx hb dX4_flood_30 rfl rfl ?_
          have g31 : vp_in v2_17 8 := vpi (by omega) (by omega)
          refine r_iald (cA := ad 100) (N := 8) S hK w (k := 11) (by decide) (fun f => rfl) rfl g31 dX4_flood_31 ?_
          refine lv_iload_n hx hb dX4_flood_32 rfl (lv_at hl 1 rfl) ?_
          refine lv_iadd hx hb dX4_flood_33 ?_
          have g34 : vp_in v2_17 8 := vpi (by omega) (by omega)
          refine r_iast (cA := ad 100) (N := 8) S hK w (k := 11) (by decide) (fun f => rfl) rfl g34 dX4_flood_34 (fun H locs w => ?_)
          have hok : OkM (u2 S_17 11 (ix v2_17) ((S_17 11 (ix v2_17)) + p1)) := okM_scr (show scrM 11 by unfold scrM; omega) hok
          have okf0 := hok.1
          have okf1 := hok.2.1
          have okf2 := hok.2.2.1
          have okf3 := hok.2.2.2.1
          have okf4 := hok.2.2.2.2.1
          have okf6 := hok.2.2.2.2.2.1
          have okf7 := hok.2.2.2.2.2.2.1
          have okf8 := hok.2.2.2.2.2.2.2
          refine lv_iinc (v := (v2_17 + 1)) (lv' := [(2, .int (v2_17 + 1)), (0, .ref (ad 0)), (1, .int p1)]) hx hb dX4_flood_35 hl (k := 2) rfl rfl (by decide) rfl (fun ls hl => ?_)
          refine lv_goto (tgt := 17) hx hb dX4_flood_38 (by decide) ?_
          have b2_17 : (v2_17 + 1).toInt = v2_17.toInt + 1 := inc_toInt (by omega) (by omega)
          exact ih17 _ (v2_17 + 1) (u2 S_17 11 (ix v2_17) ((S_17 11 (ix v2_17)) + p1)) ⟨hok, (by omega)⟩ (by omega) hG hex17 _ _ w ls (lv_sub hl [1, 2, 0] rfl)
    refine L17 200 _ 0 σ ⟨hok, (by omega)⟩ (by omega) rfl (fun S_17e hok hr17 H locs w ls hl => ?_) _ _ w ls (lv_sub hl [1, 2, 0] rfl)
    rw [hr17] at hG
    have okf0 := hok.1
    have okf1 := hok.2.1
    have okf2 := hok.2.2.1
    have okf3 := hok.2.2.2.1
    have okf4 := hok.2.2.2.2.1
    have okf6 := hok.2.2.2.2.2.1
    have okf7 := hok.2.2.2.2.2.2.1
    have okf8 := hok.2.2.2.2.2.2.2
    refine lv_aload_n hx hb dX4_flood_41 rfl (lv_at hl 0 rfl) ?_
    refine r_get (C := RX4) (T := TX4) (N := 25) S hK w (k := 0) (by decide) (eM_0 ad _) rfl hinX4 11 (by decide) (List.mem_of_getElem? (i := 2) rfl) rfl dX4_flood_42 ?_
    exact endWi S hr hlocks w hG dX4_flood_45
  · rw [if_pos c9] at hG
    refine lv_bipush (v := (-2)) hx hb dX4_flood_12 (by decide) ?_
    exact endWi S hr hlocks w hG dX4_flood_14
set_option maxHeartbeats 4000000 in
set_option maxRecDepth 100000 in
theorem c_X4_farIn (l : Launch) (ad : Nat → Nat) (D : va_G) (sz : Nat) (σ : St) (p1 : Int32) (p2 : Int32) (p3 : Int32) (p4 : Int32) (hok : OkM σ) (hx0 : 0 ≤ p1.toInt ∧ p1.toInt < 8) (hx1 : 0 ≤ p2.toInt ∧ p2.toInt < 8) (hx2 : 0 ≤ p3.toInt ∧ p3.toInt < 8) (hyr : 0 ≤ p4.toInt ∧ p4.toInt ≤ 99) (hsg : (σ 0 1).toInt ≠ 0) : Met l yX4_farIn wsX4_farIn ({ frames := 2, cells := 0, slots := 0, locals := 54 }) (PreW 18 (eM ad) ad D (tyM ad) σ sz ([.ref (ad 0), .int p1, .int p2, .int p3, .int p4] : List Value)) (Q0i (f_X4_farIn σ p1 p2 p3 p4)) 0 0 N0 := by
  generalize hG : f_X4_farIn σ p1 p2 p3 p4 = T
  refine headW (cc := cX4_farIn) (maxL := 7) (ret := (some .int)) ([.ref (ad 0), .int p1, .int p2, .int p3, .int p4] : List Value) (by decide) rfl (Nat.le_of_ble_eq_true rfl) ?_
  intro p e s m below meth c S hr hlocks hK hN hsz w ls hl
  have S : CallFix p m c cX4_farIn 7 s ([.ref (ad 0), .int p1, .int p2, .int p3, .int p4] : List Value).toArray wsX4_farIn RX4 := S
  have hx := S.1
  have hb := S.2.1
  have z0 : (0 : Int32).toInt = 0 := by decide
  have z1 : (1 : Int32).toInt = 1 := by decide
  have hl : lv_has ls 7 [(0, .ref (ad 0)), (1, .int p1), (2, .int p2), (3, .int p3), (4, .int p4)] := hl
  have hinX4 : ∀ w ∈ wsX40, w ∈ wsX4_farIn := (fun _ h => List.mem_cons_of_mem _ (List.mem_append_right _ h))
  have okf0 := hok.1
  have okf1 := hok.2.1
  have okf2 := hok.2.2.1
  have okf3 := hok.2.2.2.1
  have okf4 := hok.2.2.2.2.1
  have okf6 := hok.2.2.2.2.2.1
  have okf7 := hok.2.2.2.2.2.2.1
  have okf8 := hok.2.2.2.2.2.2.2
  rw [f_X4_farIn] at hG
  refine lv_iconst (v := 0) hx hb dX4_farIn_0 (by decide) ?_
  refine lv_istore (lv' := [(5, .int 0), (0, .ref (ad 0)), (1, .int p1), (2, .int p2), (3, .int p3), (4, .int p4)]) hx hb dX4_farIn_1 hl (by decide) rfl (fun ls hl => ?_)
  refine lv_iconst (v := 0) hx hb dX4_farIn_3 (by decide) ?_
  refine lv_istore (lv' := [(6, .int 0), (5, .int 0), (0, .ref (ad 0)), (1, .int p1), (2, .int p2), (3, .int p3), (4, .int p4)]) hx hb dX4_farIn_4 hl (by decide) rfl (fun ls hl => ?_)
  have L6 : ∀ (n : Nat) (res6 : Int32), ∀ (v5_6 : Int32), ∀ (v6_6 : Int32), ((0 ≤ v6_6.toInt ∧ v6_6.toInt ≤ 9)) → (9 - v6_6.toInt).toNat < n → (lp_X4_farIn_6 σ p1 p2 p3 p4 n v5_6 v6_6) = res6 → (∀ (v5_6e : Int32), res6 = v5_6e → ∀ ls : Array Slot, lv_has ls 7 [(0, .ref (ad 0)), (5, .int v5_6e)] → W p l e (headSpec wsX4_farIn ({ frames := 2, cells := 0, slots := 0, locals := 54 })).room s m ([.ref (ad 0), .int p1, .int p2, .int p3, .int p4] : List Value).toArray below meth c s.heap [] 0 0 (MQ below (Q0i T) ([.ref (ad 0), .int p1, .int p2, .int p3, .int p4] : List Value).toArray s 0 0 N0) (F0 m 53 ls [])) → ∀ ls : Array Slot, lv_has ls 7 [(0, .ref (ad 0)), (1, .int p1), (2, .int p2), (3, .int p3), (4, .int p4), (5, .int v5_6), (6, .int v6_6)] → W p l e (headSpec wsX4_farIn ({ frames := 2, cells := 0, slots := 0, locals := 54 })).room s m ([.ref (ad 0), .int p1, .int p2, .int p3, .int p4] : List Value).toArray below meth c s.heap [] 0 0 (MQ below (Q0i T) ([.ref (ad 0), .int p1, .int p2, .int p3, .int p4] : List Value).toArray s 0 0 N0) (F0 m 6 ls []) := by
    intro n
    induction n with
    | zero => intro _ _ _ _ hm; exact absurd hm (Nat.not_lt_zero _)
    | succ n ih6 =>
      intro res6 v5_6 v6_6 hI6 hm6 hG hex6 ls hl
      have i6_0 := hI6
      rw [lp_X4_farIn_6] at hG
      refine lv_iload hx hb dX4_farIn_6 (lv_at hl 6 rfl) ?_
      refine lv_bipush (v := 9) hx hb dX4_farIn_8 (by decide) ?_
      refine lv_icmp_ge (tgt := 53) hx hb dX4_farIn_10 (by decide) (fun c10 => ?_) (fun c10 => ?_)
      · have t10 : 9 ≤ v6_6.toInt := qt_le c10
        rw [if_pos c10] at hG
        exact hex6 v5_6 hG.symm ls (lv_sub hl [0, 5] rfl)
      · have t10 : v6_6.toInt < 9 := qt_nle c10
        rw [if_neg c10] at hG
        refine lv_iload hx hb dX4_farIn_13 (lv_at hl 5 rfl) ?_
        refine lv_aload_n hx hb dX4_farIn_15 rfl (lv_at hl 0 rfl) ?_
        refine lv_iload_n hx hb dX4_farIn_16 rfl (lv_at hl 1 rfl) ?_
        refine lv_iload hx hb dX4_farIn_17 (lv_at hl 6 rfl) ?_
        refine lv_iload hx hb dX4_farIn_19 (lv_at hl 4 rfl) ?_
        refine call0i (va_runV (As := [.int p1, .int v6_6, .int p4]) (rest := [.int v5_6]) S (c_X4_smellOf l ad D s.heap.size σ p1 v6_6 p4 hok (by omega) (by omega) (by omega) (by omega)) (cwV 3 S.2.2.2.2 gX4_farIn_X4_smellOf rfl rfl rfl ⟨rfl, hd_X4_smellOf⟩ ⟨Nat.le_of_ble_eq_true rfl, Nat.le_of_ble_eq_true rfl⟩) (preV hK hN w (k := 0) (by decide) (eM_0 ad _) (q := (RX4, TX4, 25)) rfl) rfl rfl hl.1 rfl (lv_room (Nat.le_of_ble_eq_true rfl)) dX4_farIn_21 ⟨Nat.zero_le _, Nat.zero_le _⟩) ?_
        refine lv_iconst (v := 4) hx hb dX4_farIn_24 (by decide) ?_
        refine lv_aload_n hx hb dX4_farIn_25 rfl (lv_at hl 0 rfl) ?_
        refine lv_iload_n hx hb dX4_farIn_26 rfl (lv_at hl 2 rfl) ?_
        refine lv_iload hx hb dX4_farIn_27 (lv_at hl 6 rfl) ?_
        refine call0i (va_runV (As := [.int p2, .int v6_6]) (rest := [.int 4, .int (f_X4_smellOf σ p1 v6_6 p4), .int v5_6]) S (c_X4_strong l ad D s.heap.size σ p2 v6_6 (by omega) (by omega)) (cwV 2 S.2.2.2.2 gX4_farIn_X4_strong rfl rfl rfl ⟨rfl, hd_X4_strong⟩ ⟨Nat.le_of_ble_eq_true rfl, Nat.le_of_ble_eq_true rfl⟩) (preV hK hN w (k := 0) (by decide) (eM_0 ad _) (q := (RX4, TX4, 25)) rfl) rfl rfl hl.1 rfl (lv_room (Nat.le_of_ble_eq_true rfl)) dX4_farIn_29 ⟨Nat.zero_le _, Nat.zero_le _⟩) ?_
        refine lv_aload_n hx hb dX4_farIn_32 rfl (lv_at hl 0 rfl) ?_
        refine lv_iload_n hx hb dX4_farIn_33 rfl (lv_at hl 3 rfl) ?_
        refine lv_iload hx hb dX4_farIn_34 (lv_at hl 6 rfl) ?_
        refine call0i (va_runV (As := [.int p3, .int v6_6]) (rest := [.int (f_X4_strong σ p2 v6_6), .int 4, .int (f_X4_smellOf σ p1 v6_6 p4), .int v5_6]) S (c_X4_strong l ad D s.heap.size σ p3 v6_6 (by omega) (by omega)) (cwV 2 S.2.2.2.2 gX4_farIn_X4_strong rfl rfl rfl ⟨rfl, hd_X4_strong⟩ ⟨Nat.le_of_ble_eq_true rfl, Nat.le_of_ble_eq_true rfl⟩) (preV hK hN w (k := 0) (by decide) (eM_0 ad _) (q := (RX4, TX4, 25)) rfl) rfl rfl hl.1 rfl (lv_room (Nat.le_of_ble_eq_true rfl)) dX4_farIn_36 ⟨Nat.zero_le _, Nat.zero_le _⟩) ?_
        refine lv_iadd hx hb dX4_farIn_39 ?_
        refine lv_imul hx hb dX4_farIn_40 ?_
        refine call0i (va_runS (As := [.int (f_X4_smellOf σ p1 v6_6 p4), .int (4 * ((f_X4_strong σ p2 v6_6) + (f_X4_strong σ p3 v6_6)))]) (rest := [.int v5_6]) S (c_X4_off l (f_X4_smellOf σ p1 v6_6 p4) (4 * ((f_X4_strong σ p2 v6_6) + (f_X4_strong σ p3 v6_6)))) (va_cwS 2 S.2.2.2.2 gX4_farIn_X4_off rfl rfl rfl hd_X4_off ⟨Nat.le_of_ble_eq_true rfl, Nat.le_of_ble_eq_true rfl⟩) pre0S rfl rfl hl.1 rfl (lv_room (Nat.le_of_ble_eq_true rfl)) dX4_farIn_41 ⟨Nat.zero_le _, Nat.zero_le _⟩) ?_
        refine lv_iadd hx hb dX4_farIn_44 ?_
        refine lv_istore (lv' := [(5, .int (v5_6 + (f_X4_off (f_X4_smellOf σ p1 v6_6 p4) (4 * ((f_X4_strong σ p2 v6_6) + (f_X4_strong σ p3 v6_6)))))), (0, .ref (ad 0)), (1, .int p1), (2, .int p2), (3, .int p3), (4, .int p4), (6, .int v6_6)]) hx hb dX4_farIn_45 hl (by decide) rfl (fun ls hl => ?_)
        refine lv_iinc (v := (v6_6 + 1)) (lv' := [(6, .int (v6_6 + 1)), (5, .int (v5_6 + (f_X4_off (f_X4_smellOf σ p1 v6_6 p4) (4 * ((f_X4_strong σ p2 v6_6) + (f_X4_strong σ p3 v6_6)))))), (0, .ref (ad 0)), (1, .int p1), (2, .int p2), (3, .int p3), (4, .int p4)]) hx hb dX4_farIn_47 hl (k := 6) rfl rfl (by decide) rfl (fun ls hl => ?_)
        refine lv_goto (tgt := 6) hx hb dX4_farIn_50 (by decide) ?_
        have b6_6 : (v6_6 + 1).toInt = v6_6.toInt + 1 := inc_toInt (by omega) (by omega)
        exact ih6 _ (v5_6 + (f_X4_off (f_X4_smellOf σ p1 v6_6 p4) (4 * ((f_X4_strong σ p2 v6_6) + (f_X4_strong σ p3 v6_6))))) (v6_6 + 1) (by omega) (by omega) hG hex6 ls (lv_sub hl [2, 3, 4, 5, 6, 1, 0] rfl)
  refine L6 200 _ 0 0 (by omega) (by omega) rfl (fun v5_6e hr6 ls hl => ?_) ls (lv_sub hl [2, 3, 4, 5, 6, 1, 0] rfl)
  rw [hr6] at hG
  refine lv_iload hx hb dX4_farIn_53 (lv_at hl 1 rfl) ?_
  exact end0i S hr hlocks hG dX4_farIn_55
set_option maxHeartbeats 4000000 in
set_option maxRecDepth 100000 in
theorem c_X4_far (l : Launch) (ad : Nat → Nat) (D : va_G) (sz : Nat) (σ : St) (p1 : Int32) (p2 : Int32) (p3 : Int32) (hok : OkM σ) : Met l yX4_far wsX4_far ({ frames := 3, cells := 0, slots := 0, locals := 80 }) (PreW 18 (eM ad) ad D (tyM ad) σ sz ([.ref (ad 0), .int p1, .int p2, .int p3] : List Value)) (Q0i (f_X4_far σ p1 p2 p3)) 0 0 N0 := by
  generalize hG : f_X4_far σ p1 p2 p3 = T
  refine headW (cc := cX4_far) (maxL := 4) (ret := (some .int)) ([.ref (ad 0), .int p1, .int p2, .int p3] : List Value) (by decide) rfl (Nat.le_of_ble_eq_true rfl) ?_
  intro p e s m below meth c S hr hlocks hK hN hsz w ls hl
  have S : CallFix p m c cX4_far 4 s ([.ref (ad 0), .int p1, .int p2, .int p3] : List Value).toArray wsX4_far RX4 := S
  have hx := S.1
  have hb := S.2.1
  have z0 : (0 : Int32).toInt = 0 := by decide
  have z1 : (1 : Int32).toInt = 1 := by decide
  have hl : lv_has ls 4 [(0, .ref (ad 0)), (1, .int p1), (2, .int p2), (3, .int p3)] := hl
  have hinX4 : ∀ w ∈ wsX40, w ∈ wsX4_far := (fun _ h => List.mem_cons_of_mem _ (List.mem_append_right _ h))
  have okf0 := hok.1
  have okf1 := hok.2.1
  have okf2 := hok.2.2.1
  have okf3 := hok.2.2.2.1
  have okf4 := hok.2.2.2.2.1
  have okf6 := hok.2.2.2.2.2.1
  have okf7 := hok.2.2.2.2.2.2.1
  have okf8 := hok.2.2.2.2.2.2.2
  rw [f_X4_far] at hG
  refine lv_aload_n hx hb dX4_far_0 rfl (lv_at hl 0 rfl) ?_
  refine lv_iload_n hx hb dX4_far_1 rfl (lv_at hl 1 rfl) ?_
  refine call0i (va_runV (As := [.int p1]) (rest := []) S (c_X4_noPaper l ad D s.heap.size σ p1) (cwV 1 S.2.2.2.2 gX4_far_X4_noPaper rfl rfl rfl ⟨rfl, hd_X4_noPaper⟩ ⟨Nat.le_of_ble_eq_true rfl, Nat.le_of_ble_eq_true rfl⟩) (preV hK hN w (k := 0) (by decide) (eM_0 ad _) (q := (RX4, TX4, 25)) rfl) rfl rfl hl.1 rfl (lv_room (Nat.le_of_ble_eq_true rfl)) dX4_far_2 ⟨Nat.zero_le _, Nat.zero_le _⟩) ?_
  refine lv_if_ne (tgt := 17) hx hb dX4_far_5 (by decide) (fun c5 => ?_) (fun c5 => ?_)
  · rw [if_neg c5] at hG
    refine lv_iconst (v := (-1)) hx hb dX4_far_17 (by decide) ?_
    refine lv_goto (tgt := 32) hx hb dX4_far_18 (by decide) ?_
    exact end0i S hr hlocks hG dX4_far_32
  · have t5 := bf_noPaper_z c5
    rw [if_pos c5] at hG
    refine lv_aload_n hx hb dX4_far_8 rfl (lv_at hl 0 rfl) ?_
    refine lv_iload_n hx hb dX4_far_9 rfl (lv_at hl 2 rfl) ?_
    refine lv_iload_n hx hb dX4_far_10 rfl (lv_at hl 3 rfl) ?_
    refine call0i (va_runV (As := [.int p2, .int p3]) (rest := []) S (c_X4_areTwo l ad D s.heap.size σ p2 p3) (cwV 2 S.2.2.2.2 gX4_far_X4_areTwo rfl rfl rfl ⟨rfl, hd_X4_areTwo⟩ ⟨Nat.le_of_ble_eq_true rfl, Nat.le_of_ble_eq_true rfl⟩) (preV hK hN w (k := 0) (by decide) (eM_0 ad _) (q := (RX4, TX4, 25)) rfl) rfl rfl hl.1 rfl (lv_room (Nat.le_of_ble_eq_true rfl)) dX4_far_11 ⟨Nat.zero_le _, Nat.zero_le _⟩) ?_
    refine lv_if_ne (tgt := 21) hx hb dX4_far_14 (by decide) (fun c14 => ?_) (fun c14 => ?_)
    · have t14 := bf_areTwo_n c14
      rw [if_neg c14] at hG
      refine lv_aload_n hx hb dX4_far_21 rfl (lv_at hl 0 rfl) ?_
      refine lv_iload_n hx hb dX4_far_22 rfl (lv_at hl 1 rfl) ?_
      refine lv_iload_n hx hb dX4_far_23 rfl (lv_at hl 2 rfl) ?_
      refine lv_iload_n hx hb dX4_far_24 rfl (lv_at hl 3 rfl) ?_
      refine lv_aload_n hx hb dX4_far_25 rfl (lv_at hl 0 rfl) ?_
      refine r_get (C := RX4) (T := TX4) (N := 25) S hK w (k := 0) (by decide) (eM_0 ad _) rfl hinX4 2 (by decide) (List.mem_of_getElem? (i := 1) rfl) rfl dX4_far_26 ?_
      refine call0i (va_runV (As := [.int p1, .int p2, .int p3, .int (σ 0 2)]) (rest := []) S (c_X4_farIn l ad D s.heap.size σ p1 p2 p3 (σ 0 2) hok (by omega) (by omega) (by omega) (by omega) (by omega)) (cwV 4 S.2.2.2.2 gX4_far_X4_farIn rfl rfl rfl ⟨rfl, hd_X4_farIn⟩ ⟨Nat.le_of_ble_eq_true rfl, Nat.le_of_ble_eq_true rfl⟩) (preV hK hN w (k := 0) (by decide) (eM_0 ad _) (q := (RX4, TX4, 25)) rfl) rfl rfl hl.1 rfl (lv_room (Nat.le_of_ble_eq_true rfl)) dX4_far_29 ⟨Nat.zero_le _, Nat.zero_le _⟩) ?_
      exact end0i S hr hlocks hG dX4_far_32
    · rw [if_pos c14] at hG
      refine lv_iconst (v := (-1)) hx hb dX4_far_17 (by decide) ?_
      refine lv_goto (tgt := 32) hx hb dX4_far_18 (by decide) ?_
      exact end0i S hr hlocks hG dX4_far_32
