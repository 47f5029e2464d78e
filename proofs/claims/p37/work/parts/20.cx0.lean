set_option maxHeartbeats 4000000 in
set_option maxRecDepth 100000 in
theorem c_J6_bitCount_0f7a4 (l : Launch) (p1 : Int32) : Met l yJ6_bitCount_0f7a4 wsJ6_bitCount_0f7a4 ({ frames := 0, cells := 0, slots := 0, locals := 0 }) (Pre0 ([.int p1] : List Value)) (Q0i (f_J6_bitCount_0f7a4 p1)) 0 0 N0 := by
  generalize hG : f_J6_bitCount_0f7a4 p1 = T
  refine head0 (cc := cJ6_bitCount_0f7a4) (maxL := 1) (ret := (some .int)) ([.int p1] : List Value) (by decide) rfl (Nat.le_of_ble_eq_true rfl) ?_
  intro p e s m below meth c S hr hlocks ls hl
  have S : CallFix p m c cJ6_bitCount_0f7a4 1 s ([.int p1] : List Value).toArray wsJ6_bitCount_0f7a4 RJ6 := S
  have hx := S.1
  have hb := S.2.1
  have z0 : (0 : Int32).toInt = 0 := by decide
  have z1 : (1 : Int32).toInt = 1 := by decide
  have hl : lv_has ls 1 [(0, .int p1)] := hl
  rw [f_J6_bitCount_0f7a4] at hG
  refine lv_iload_n hx hb dJ6_bitCount_0f7a4_0 rfl (lv_at hl 0 rfl) ?_
  refine lv_iload_n hx hb dJ6_bitCount_0f7a4_1 rfl (lv_at hl 0 rfl) ?_
  refine lv_iconst (v := 1) hx hb dJ6_bitCount_0f7a4_2 (by decide) ?_
  refine lv_iushr hx hb dJ6_bitCount_0f7a4_3 rfl ?_
  refine lv_ldcw hx hb S.2.2.2.1 (S.2.2.2.2 _ (List.mem_of_getElem? (i := 1) rfl)) dJ6_bitCount_0f7a4_4 ?_
  refine lv_iand hx hb dJ6_bitCount_0f7a4_7 ?_
  refine lv_isub hx hb dJ6_bitCount_0f7a4_8 ?_
  refine lv_istore_n (lv' := [(0, .int (p1 - (((p1.toUInt32 >>> ((1 : Int32).toUInt32 &&& Int32.toUInt32 31)).toInt32) &&& 1431655765)))]) hx hb dJ6_bitCount_0f7a4_9 rfl hl (by decide) rfl (fun ls hl => ?_)
  refine lv_iload_n hx hb dJ6_bitCount_0f7a4_10 rfl (lv_at hl 0 rfl) ?_
  refine lv_ldcw hx hb S.2.2.2.1 (S.2.2.2.2 _ (List.mem_of_getElem? (i := 2) rfl)) dJ6_bitCount_0f7a4_11 ?_
  refine lv_iand hx hb dJ6_bitCount_0f7a4_14 ?_
  refine lv_iload_n hx hb dJ6_bitCount_0f7a4_15 rfl (lv_at hl 0 rfl) ?_
  refine lv_iconst (v := 2) hx hb dJ6_bitCount_0f7a4_16 (by decide) ?_
  refine lv_iushr hx hb dJ6_bitCount_0f7a4_17 rfl ?_
  refine lv_ldcw hx hb S.2.2.2.1 (S.2.2.2.2 _ (List.mem_of_getElem? (i := 2) rfl)) dJ6_bitCount_0f7a4_18 ?_
  refine lv_iand hx hb dJ6_bitCount_0f7a4_21 ?_
  refine lv_iadd hx hb dJ6_bitCount_0f7a4_22 ?_
  refine lv_istore_n (lv' := [(0, .int (((p1 - (((p1.toUInt32 >>> ((1 : Int32).toUInt32 &&& Int32.toUInt32 31)).toInt32) &&& 1431655765)) &&& 858993459) + ((((p1 - (((p1.toUInt32 >>> ((1 : Int32).toUInt32 &&& Int32.toUInt32 31)).toInt32) &&& 1431655765)).toUInt32 >>> ((2 : Int32).toUInt32 &&& Int32.toUInt32 31)).toInt32) &&& 858993459)))]) hx hb dJ6_bitCount_0f7a4_23 rfl hl (by decide) rfl (fun ls hl => ?_)
  refine lv_iload_n hx hb dJ6_bitCount_0f7a4_24 rfl (lv_at hl 0 rfl) ?_
  refine lv_iload_n hx hb dJ6_bitCount_0f7a4_25 rfl (lv_at hl 0 rfl) ?_
  refine lv_iconst (v := 4) hx hb dJ6_bitCount_0f7a4_26 (by decide) ?_
  refine lv_iushr hx hb dJ6_bitCount_0f7a4_27 rfl ?_
  refine lv_iadd hx hb dJ6_bitCount_0f7a4_28 ?_
  refine lv_ldcw hx hb S.2.2.2.1 (S.2.2.2.2 _ (List.mem_of_getElem? (i := 3) rfl)) dJ6_bitCount_0f7a4_29 ?_
  refine lv_iand hx hb dJ6_bitCount_0f7a4_32 ?_
  refine lv_istore_n (lv' := [(0, .int (((((p1 - (((p1.toUInt32 >>> ((1 : Int32).toUInt32 &&& Int32.toUInt32 31)).toInt32) &&& 1431655765)) &&& 858993459) + ((((p1 - (((p1.toUInt32 >>> ((1 : Int32).toUInt32 &&& Int32.toUInt32 31)).toInt32) &&& 1431655765)).toUInt32 >>> ((2 : Int32).toUInt32 &&& Int32.toUInt32 31)).toInt32) &&& 858993459)) + (((((p1 - (((p1.toUInt32 >>> ((1 : Int32).toUInt32 &&& Int32.toUInt32 31)).toInt32) &&& 1431655765)) &&& 858993459) + ((((p1 - (((p1.toUInt32 >>> ((1 : Int32).toUInt32 &&& Int32.toUInt32 31)).toInt32) &&& 1431655765)).toUInt32 >>> ((2 : Int32).toUInt32 &&& Int32.toUInt32 31)).toInt32) &&& 858993459)).toUInt32 >>> ((4 : Int32).toUInt32 &&& Int32.toUInt32 31)).toInt32)) &&& 252645135))]) hx hb dJ6_bitCount_0f7a4_33 rfl hl (by decide) rfl (fun ls hl => ?_)
  refine lv_iload_n hx hb dJ6_bitCount_0f7a4_34 rfl (lv_at hl 0 rfl) ?_
  refine lv_iload_n hx hb dJ6_bitCount_0f7a4_35 rfl (lv_at hl 0 rfl) ?_
  refine lv_bipush (v := 8) hx hb dJ6_bitCount_0f7a4_36 (by decide) ?_
  refine lv_iushr hx hb dJ6_bitCount_0f7a4_38 rfl ?_
  refine lv_iadd hx hb dJ6_bitCount_0f7a4_39 ?_
  refine lv_istore_n (lv' := [(0, .int ((((((p1 - (((p1.toUInt32 >>> ((1 : Int32).toUInt32 &&& Int32.toUInt32 31)).toInt32) &&& 1431655765)) &&& 858993459) + ((((p1 - (((p1.toUInt32 >>> ((1 : Int32).toUInt32 &&& Int32.toUInt32 31)).toInt32) &&& 1431655765)).toUInt32 >>> ((2 : Int32).toUInt32 &&& Int32.toUInt32 31)).toInt32) &&& 858993459)) + (((((p1 - (((p1.toUInt32 >>> ((1 : Int32).toUInt32 &&& Int32.toUInt32 31)).toInt32) &&& 1431655765)) &&& 858993459) + ((((p1 - (((p1.toUInt32 >>> ((1 : Int32).toUInt32 &&& Int32.toUInt32 31)).toInt32) &&& 1431655765)).toUInt32 >>> ((2 : Int32).toUInt32 &&& Int32.toUInt32 31)).toInt32) &&& 858993459)).toUInt32 >>> ((4 : Int32).toUInt32 &&& Int32.toUInt32 31)).toInt32)) &&& 252645135) + (((((((p1 - (((p1.toUInt32 >>> ((1 : Int32).toUInt32 &&& Int32.toUInt32 31)).toInt32) &&& 1431655765)) &&& 858993459) + ((((p1 - (((p1.toUInt32 >>> ((1 : Int32).toUInt32 &&& Int32.toUInt32 31)).toInt32) &&& 1431655765)).toUInt32 >>> ((2 : Int32).toUInt32 &&& Int32.toUInt32 31)).toInt32) &&& 858993459)) + (((((p1 - (((p1.toUInt32 >>> ((1 : Int32).toUInt32 &&& Int32.toUInt32 31)).toInt32) &&& 1431655765)) &&& 858993459) + ((((p1 - (((p1.toUInt32 >>> ((1 : Int32).toUInt32 &&& Int32.toUInt32 31)).toInt32) &&& 1431655765)).toUInt32 >>> ((2 : Int32).toUInt32 &&& Int32.toUInt32 31)).toInt32) &&& 858993459)).toUInt32 >>> ((4 : Int32).toUInt32 &&& Int32.toUInt32 31)).toInt32)) &&& 252645135).toUInt32 >>> ((8 : Int32).toUInt32 &&& Int32.toUInt32 31)).toInt32)))]) hx hb dJ6_bitCount_0f7a4_40 rfl hl (by decide) rfl (fun ls hl => ?_)
  refine lv_iload_n hx hb dJ6_bitCount_0f7a4_41 rfl (lv_at hl 0 rfl) ?_
  refine lv_iload_n hx hb dJ6_bitCount_0f7a4_42 rfl (lv_at hl 0 rfl) ?_
  refine lv_bipush (v := 16) hx hb dJ6_bitCount_0f7a4_43 (by decide) ?_
  refine lv_iushr hx hb dJ6_bitCount_0f7a4_45 rfl ?_
  refine lv_iadd hx hb dJ6_bitCount_0f7a4_46 ?_
  refine lv_istore_n (lv' := [(0, .int (((((((p1 - (((p1.toUInt32 >>> ((1 : Int32).toUInt32 &&& Int32.toUInt32 31)).toInt32) &&& 1431655765)) &&& 858993459) + ((((p1 - (((p1.toUInt32 >>> ((1 : Int32).toUInt32 &&& Int32.toUInt32 31)).toInt32) &&& 1431655765)).toUInt32 >>> ((2 : Int32).toUInt32 &&& Int32.toUInt32 31)).toInt32) &&& 858993459)) + (((((p1 - (((p1.toUInt32 >>> ((1 : Int32).toUInt32 &&& Int32.toUInt32 31)).toInt32) &&& 1431655765)) &&& 858993459) + ((((p1 - (((p1.toUInt32 >>> ((1 : Int32).toUInt32 &&& Int32.toUInt32 31)).toInt32) &&& 1431655765)).toUInt32 >>> ((2 : Int32).toUInt32 &&& Int32.toUInt32 31)).toInt32) &&& 858993459)).toUInt32 >>> ((4 : Int32).toUInt32 &&& Int32.toUInt32 31)).toInt32)) &&& 252645135) + (((((((p1 - (((p1.toUInt32 >>> ((1 : Int32).toUInt32 &&& Int32.toUInt32 31)).toInt32) &&& 1431655765)) &&& 858993459) + ((((p1 - (((p1.toUInt32 >>> ((1 : Int32).toUInt32 &&& Int32.toUInt32 31)).toInt32) &&& 1431655765)).toUInt32 >>> ((2 : Int32).toUInt32 &&& Int32.toUInt32 31)).toInt32) &&& 858993459)) + (((((p1 - (((p1.toUInt32 >>> ((1 : Int32).toUInt32 &&& Int32.toUInt32 31)).toInt32) &&& 1431655765)) &&& 858993459) + ((((p1 - (((p1.toUInt32 >>> ((1 : Int32).toUInt32 &&& Int32.toUInt32 31)).toInt32) &&& 1431655765)).toUInt32 >>> ((2 : Int32).toUInt32 &&& Int32.toUInt32 31)).toInt32) &&& 858993459)).toUInt32 >>> ((4 : Int32).toUInt32 &&& Int32.toUInt32 31)).toInt32)) &&& 252645135).toUInt32 >>> ((8 : Int32).toUInt32 &&& Int32.toUInt32 31)).toInt32)) + ((((((((p1 - (((p1.toUInt32 >>> ((1 : Int32).toUInt32 &&& Int32.toUInt32 31)).toInt32) &&& 1431655765)) &&& 858993459) + ((((p1 - (((p1.toUInt32 >>> ((1 : Int32).toUInt32 &&& Int32.toUInt32 31)).toInt32) &&& 1431655765)).toUInt32 >>> ((2 : Int32).toUInt32 &&& Int32.toUInt32 31)).toInt32) &&& 858993459)) + (((((p1 - (((p1.toUInt32 >>> ((1 : Int32).toUInt32 &&& Int32.toUInt32 31)).toInt32) &&& 1431655765)) &&& 858993459) + ((((p1 - (((p1.toUInt32 >>> ((1 : Int32).toUInt32 &&& Int32.toUInt32 31)).toInt32) &&& 1431655765)).toUInt32 >>> ((2 : Int32).toUInt32 &&& Int32.toUInt32 31)).toInt32) &&& 858993459)).toUInt32 >>> ((4 : Int32).toUInt32 &&& Int32.toUInt32 31)).toInt32)) &&& 252645135) + (((((((p1 - (((p1.toUInt32 >>> ((1 : Int32).toUInt32 &&& Int32.toUInt32 31)).toInt32) &&& 1431655765)) &&& 858993459) + ((((p1 - (((p1.toUInt32 >>> ((1 : Int32).toUInt32 &&& Int32.toUInt32 31)).toInt32) &&& 1431655765)).toUInt32 >>> ((2 : Int32).toUInt32 &&& Int32.toUInt32 31)).toInt32) &&& 858993459)) + (((((p1 - (((p1.toUInt32 >>> ((1 : Int32).toUInt32 &&& Int32.toUInt32 31)).toInt32) &&& 1431655765)) &&& 858993459) + ((((p1 - (((p1.toUInt32 >>> ((1 : Int32).toUInt32 &&& Int32.toUInt32 31)).toInt32) &&& 1431655765)).toUInt32 >>> ((2 : Int32).toUInt32 &&& Int32.toUInt32 31)).toInt32) &&& 858993459)).toUInt32 >>> ((4 : Int32).toUInt32 &&& Int32.toUInt32 31)).toInt32)) &&& 252645135).toUInt32 >>> ((8 : Int32).toUInt32 &&& Int32.toUInt32 31)).toInt32)).toUInt32 >>> ((16 : Int32).toUInt32 &&& Int32.toUInt32 31)).toInt32)))]) hx hb dJ6_bitCount_0f7a4_47 rfl hl (by decide) rfl (fun ls hl => ?_)
  refine lv_iload_n hx hb dJ6_bitCount_0f7a4_48 rfl (lv_at hl 0 rfl) ?_
  refine lv_bipush (v := 63) hx hb dJ6_bitCount_0f7a4_49 (by decide) ?_
  refine lv_iand hx hb dJ6_bitCount_0f7a4_51 ?_
  exact end0i S hr hlocks hG dJ6_bitCount_0f7a4_52
set_option maxHeartbeats 4000000 in
set_option maxRecDepth 100000 in
theorem c_X1_renew (l : Launch) (ad : Nat → Nat) (D : va_G) (sz : Nat) (σ : St) (r0 : Nat) (p1 : Int32) (p2 : Int32) (hr0 : r0 < 4) : Met l yX1_renew wsX1_renew ({ frames := 1, cells := 0, slots := 0, locals := 23 }) (PreW 41 (eC ad) ad D (tyC ad) σ sz ([.ref (ad (9 + r0)), .int p1, .int p2] : List Value)) (QWv 41 (eC ad) ad D (f_X1_renew σ r0 p1 p2) (CA 41 ad sz)) 0 0 (CA 41 ad sz) := by
  generalize hG : f_X1_renew σ r0 p1 p2 = T
  refine headW (cc := cX1_renew) (maxL := 3) (ret := none) ([.ref (ad (9 + r0)), .int p1, .int p2] : List Value) (by decide) rfl (Nat.le_of_ble_eq_true rfl) ?_
  intro p e s m below meth c S hr hlocks hK hN hsz w ls hl
  have S : CallFix p m c cX1_renew 3 s ([.ref (ad (9 + r0)), .int p1, .int p2] : List Value).toArray wsX1_renew RX1 := S
  have hx := S.1
  have hb := S.2.1
  have z0 : (0 : Int32).toInt = 0 := by decide
  have z1 : (1 : Int32).toInt = 1 := by decide
  have hl : lv_has ls 3 [(0, .ref (ad (9 + r0))), (1, .int p1), (2, .int p2)] := hl
  have hinX1 : ∀ w ∈ wsX10, w ∈ wsX1_renew := (fun _ h => List.mem_cons_of_mem _ (List.mem_append_right _ h))
  rw [f_X1_renew] at hG
  refine lv_aload_n hx hb dX1_renew_0 rfl (lv_at hl 0 rfl) ?_
  refine lv_iconst (v := 1) hx hb dX1_renew_1 (by decide) ?_
  refine r_put (C := RX1) (T := TX1) (N := 4) S hK w (k := (9 + r0)) (Nat.lt_of_lt_of_le (Nat.add_lt_add_left hr0 9) (by decide)) (eC_sh ad hr0 _) rfl hinX1 tyX1 tyX1_ok nmX1 0 (by decide) (List.mem_of_getElem? (i := 1) rfl) rfl (x := 1) (ty := .boolean) (by decide +kernel) (by first | rfl | decide) (by first | rfl | decide) (by show _ < List.length _; exact Nat.le_of_ble_eq_true rfl) (sSh ad hr0 _ _ 0 (by decide)) dX1_renew_2 (fun H locs w => ?_)
  refine lv_aload_n hx hb dX1_renew_5 rfl (lv_at hl 0 rfl) ?_
  refine lv_iload_n hx hb dX1_renew_6 rfl (lv_at hl 1 rfl) ?_
  refine r_put (C := RX1) (T := TX1) (N := 4) S hK w (k := (9 + r0)) (Nat.lt_of_lt_of_le (Nat.add_lt_add_left hr0 9) (by decide)) (eC_sh ad hr0 _) rfl hinX1 tyX1 tyX1_ok nmX1 1 (by decide) (List.mem_of_getElem? (i := 2) rfl) rfl (x := p1) (ty := .int) (by decide +kernel) rfl rfl (by show _ < List.length _; exact Nat.le_of_ble_eq_true rfl) (sSh ad hr0 _ _ 1 (by decide)) dX1_renew_7 (fun H locs w => ?_)
  refine lv_aload_n hx hb dX1_renew_10 rfl (lv_at hl 0 rfl) ?_
  refine lv_iload_n hx hb dX1_renew_11 rfl (lv_at hl 2 rfl) ?_
  refine r_put (C := RX1) (T := TX1) (N := 4) S hK w (k := (9 + r0)) (Nat.lt_of_lt_of_le (Nat.add_lt_add_left hr0 9) (by decide)) (eC_sh ad hr0 _) rfl hinX1 tyX1 tyX1_ok nmX1 2 (by decide) (List.mem_of_getElem? (i := 3) rfl) rfl (x := p2) (ty := .int) (by decide +kernel) rfl rfl (by show _ < List.length _; exact Nat.le_of_ble_eq_true rfl) (sSh ad hr0 _ _ 2 (by decide)) dX1_renew_12 (fun H locs w => ?_)
  refine lv_aload_n hx hb dX1_renew_15 rfl (lv_at hl 0 rfl) ?_
  refine r_get (C := RX1) (T := TX1) (N := 4) S hK w (k := (9 + r0)) (Nat.lt_of_lt_of_le (Nat.add_lt_add_left hr0 9) (by decide)) (eC_sh ad hr0 _) rfl hinX1 3 (by decide) (List.mem_of_getElem? (i := 4) rfl) rfl dX1_renew_16 ?_
  refine lv_iconst (v := 0) hx hb dX1_renew_19 (by decide) ?_
  refine callFill (cA := ad 100) (N := 90) (by decide) S hl.1 hK hN w (k := (13 + r0)) (Nat.lt_of_lt_of_le (Nat.add_lt_add_left hr0 13) (by decide)) (fun f => eC_sc ad hr0 f) rfl gX1_renew_J7_fill_53178 (Nat.le_of_ble_eq_true rfl) (Nat.le_of_ble_eq_true rfl) dX1_renew_20 ⟨Nat.zero_le _, Nat.zero_le _⟩ (fun H locs w => ?_)
  exact endWv S hr hlocks w hG dX1_renew_23
set_option maxHeartbeats 4000000 in
set_option maxRecDepth 100000 in
theorem c_X1_cut (l : Launch) (ad : Nat → Nat) (D : va_G) (sz : Nat) (σ : St) (r0 : Nat) (p1 : Int32) (hr0 : r0 < 4) : Met l yX1_cut wsX1_cut ({ frames := 0, cells := 0, slots := 0, locals := 0 }) (PreW 41 (eC ad) ad D (tyC ad) σ sz ([.ref (ad (9 + r0)), .int p1] : List Value)) (Q0i (f_X1_cut σ r0 p1)) 0 0 N0 := by
  generalize hG : f_X1_cut σ r0 p1 = T
  refine headW (cc := cX1_cut) (maxL := 2) (ret := (some .int)) ([.ref (ad (9 + r0)), .int p1] : List Value) (by decide) rfl (Nat.le_of_ble_eq_true rfl) ?_
  intro p e s m below meth c S hr hlocks hK hN hsz w ls hl
  have S : CallFix p m c cX1_cut 2 s ([.ref (ad (9 + r0)), .int p1] : List Value).toArray wsX1_cut RX1 := S
  have hx := S.1
  have hb := S.2.1
  have z0 : (0 : Int32).toInt = 0 := by decide
  have z1 : (1 : Int32).toInt = 1 := by decide
  have hl : lv_has ls 2 [(0, .ref (ad (9 + r0))), (1, .int p1)] := hl
  have hinX1 : ∀ w ∈ wsX10, w ∈ wsX1_cut := (fun _ h => List.mem_cons_of_mem _ (List.mem_append_right _ h))
  rw [f_X1_cut] at hG
  refine lv_aload_n hx hb dX1_cut_0 rfl (lv_at hl 0 rfl) ?_
  refine r_get (C := RX1) (T := TX1) (N := 4) S hK w (k := (9 + r0)) (Nat.lt_of_lt_of_le (Nat.add_lt_add_left hr0 9) (by decide)) (eC_sh ad hr0 _) rfl hinX1 1 (by decide) (List.mem_of_getElem? (i := 1) rfl) rfl dX1_cut_1 ?_
  refine lv_if_ne (tgt := 10) hx hb dX1_cut_4 (by decide) (fun c4 => ?_) (fun c4 => ?_)
  · have t4 : (σ (9 + r0) 1).toInt ≠ 0 := qt_ne c4
    rw [if_neg c4] at hG
    refine lv_aload_n hx hb dX1_cut_10 rfl (lv_at hl 0 rfl) ?_
    refine r_get (C := RX1) (T := TX1) (N := 4) S hK w (k := (9 + r0)) (Nat.lt_of_lt_of_le (Nat.add_lt_add_left hr0 9) (by decide)) (eC_sh ad hr0 _) rfl hinX1 1 (by decide) (List.mem_of_getElem? (i := 1) rfl) rfl dX1_cut_11 ?_
    refine lv_iconst (v := 1) hx hb dX1_cut_14 (by decide) ?_
    refine lv_icmp_ne (tgt := 23) hx hb dX1_cut_15 (by decide) (fun c15 => ?_) (fun c15 => ?_)
    · have t15 : (σ (9 + r0) 1).toInt ≠ 1 := qt_ne c15
      rw [if_neg c15] at hG
      refine lv_iload_n hx hb dX1_cut_23 rfl (lv_at hl 1 rfl) ?_
      exact end0i S hr hlocks hG dX1_cut_24
    · have t15 : (σ (9 + r0) 1).toInt = 1 := qt_eq c15
      rw [if_pos c15] at hG
      refine lv_iload_n hx hb dX1_cut_18 rfl (lv_at hl 1 rfl) ?_
      refine lv_i2s hx hb dX1_cut_19 rfl ?_
      refine lv_goto (tgt := 24) hx hb dX1_cut_20 (by decide) ?_
      exact end0i S hr hlocks hG dX1_cut_24
  · have t4 : (σ (9 + r0) 1).toInt = 0 := qt_eq c4
    rw [if_pos c4] at hG
    refine lv_iload_n hx hb dX1_cut_7 rfl (lv_at hl 1 rfl) ?_
    refine lv_i2b hx hb dX1_cut_8 rfl ?_
    exact end0i S hr hlocks hG dX1_cut_9
set_option maxHeartbeats 4000000 in
set_option maxRecDepth 100000 in
theorem c_X1_lacks (l : Launch) (ad : Nat → Nat) (D : va_G) (sz : Nat) (σ : St) (r0 : Nat) (p1 : Int32) (p2 : Int64) (hr0 : r0 < 4) : Met l yX1_lacks wsX1_lacks ({ frames := 0, cells := 0, slots := 0, locals := 0 }) (PreW 41 (eC ad) ad D (tyC ad) σ sz ([.ref (ad (9 + r0)), .int p1, .long p2] : List Value)) (Q0i (f_X1_lacks σ r0 p1 p2)) 0 0 N0 := by
  generalize hG : f_X1_lacks σ r0 p1 p2 = T
  refine headW (cc := cX1_lacks) (maxL := 4) (ret := (some .boolean)) ([.ref (ad (9 + r0)), .int p1, .long p2] : List Value) (by decide) rfl (Nat.le_of_ble_eq_true rfl) ?_
  intro p e s m below meth c S hr hlocks hK hN hsz w ls hl
  have S : CallFix p m c cX1_lacks 4 s ([.ref (ad (9 + r0)), .int p1, .long p2] : List Value).toArray wsX1_lacks RX1 := S
  have hx := S.1
  have hb := S.2.1
  have z0 : (0 : Int32).toInt = 0 := by decide
  have z1 : (1 : Int32).toInt = 1 := by decide
  have hl : lv_has ls 4 [(0, .ref (ad (9 + r0))), (1, .int p1), (2, .long p2)] := hl
  have hinX1 : ∀ w ∈ wsX10, w ∈ wsX1_lacks := (fun _ h => List.mem_cons_of_mem _ (List.mem_append_right _ h))
  rw [f_X1_lacks] at hG
  refine lv_iload_n hx hb dX1_lacks_0 rfl (lv_at hl 1 rfl) ?_
  refine lv_if_lt (tgt := 17) hx hb dX1_lacks_1 (by decide) (fun c1 => ?_) (fun c1 => ?_)
  · have t1 : p1.toInt < 0 := qt_lt c1
    rw [if_pos c1] at hG
    refine lv_iconst (v := 1) hx hb dX1_lacks_17 (by decide) ?_
    refine lv_goto (tgt := 22) hx hb dX1_lacks_18 (by decide) ?_
    exact end0z S hr hlocks (Or.inr rfl) hG dX1_lacks_22
  · have t1 : 0 ≤ p1.toInt := qt_nlt c1
    rw [if_neg c1] at hG
    refine lv_iload_n hx hb dX1_lacks_4 rfl (lv_at hl 1 rfl) ?_
    refine lv_i2l hx hb dX1_lacks_5 rfl ?_
    refine lv_lload_n hx hb dX1_lacks_6 rfl (lv_at hl 2 rfl) ?_
    refine lv_ladd hx hb dX1_lacks_7 ?_
    refine lv_aload_n hx hb dX1_lacks_8 rfl (lv_at hl 0 rfl) ?_
    refine r_get (C := RX1) (T := TX1) (N := 4) S hK w (k := (9 + r0)) (Nat.lt_of_lt_of_le (Nat.add_lt_add_left hr0 9) (by decide)) (eC_sh ad hr0 _) rfl hinX1 2 (by decide) (List.mem_of_getElem? (i := 1) rfl) rfl dX1_lacks_9 ?_
    refine lv_i2l hx hb dX1_lacks_12 rfl ?_
    refine W.lcmp hx hb dX1_lacks_13 ?_
    refine lv_if_le (tgt := 21) hx hb dX1_lacks_14 (by decide) (fun c14 => ?_) (fun c14 => ?_)
    · rw [if_pos c14] at hG
      refine lv_iconst (v := 0) hx hb dX1_lacks_21 (by decide) ?_
      exact end0z S hr hlocks (Or.inl rfl) hG dX1_lacks_22
    · rw [if_neg c14] at hG
      refine lv_iconst (v := 1) hx hb dX1_lacks_17 (by decide) ?_
      refine lv_goto (tgt := 22) hx hb dX1_lacks_18 (by decide) ?_
      exact end0z S hr hlocks (Or.inr rfl) hG dX1_lacks_22
set_option maxHeartbeats 4000000 in
set_option maxRecDepth 100000 in
theorem c_X3_isSheet (l : Launch) (p1 : Int32) : Met l yX3_isSheet wsX3_isSheet ({ frames := 0, cells := 0, slots := 0, locals := 0 }) (Pre0 ([.int p1] : List Value)) (Q0i (f_X3_isSheet p1)) 0 0 N0 := by
  generalize hG : f_X3_isSheet p1 = T
  refine head0 (cc := cX3_isSheet) (maxL := 1) (ret := (some .boolean)) ([.int p1] : List Value) (by decide) rfl (Nat.le_of_ble_eq_true rfl) ?_
  intro p e s m below meth c S hr hlocks ls hl
  have S : CallFix p m c cX3_isSheet 1 s ([.int p1] : List Value).toArray wsX3_isSheet RX3 := S
  have hx := S.1
  have hb := S.2.1
  have z0 : (0 : Int32).toInt = 0 := by decide
  have z1 : (1 : Int32).toInt = 1 := by decide
  have hl : lv_has ls 1 [(0, .int p1)] := hl
  rw [f_X3_isSheet] at hG
  refine lv_iload_n hx hb dX3_isSheet_0 rfl (lv_at hl 0 rfl) ?_
  refine lv_if_lt (tgt := 13) hx hb dX3_isSheet_1 (by decide) (fun c1 => ?_) (fun c1 => ?_)
  · have t1 : p1.toInt < 0 := qt_lt c1
    rw [if_pos c1] at hG
    refine lv_iconst (v := 0) hx hb dX3_isSheet_13 (by decide) ?_
    exact end0z S hr hlocks (Or.inl rfl) hG dX3_isSheet_14
  · have t1 : 0 ≤ p1.toInt := qt_nlt c1
    rw [if_neg c1] at hG
    refine lv_iload_n hx hb dX3_isSheet_4 rfl (lv_at hl 0 rfl) ?_
    refine lv_iconst (v := 4) hx hb dX3_isSheet_5 (by decide) ?_
    refine lv_icmp_ge (tgt := 13) hx hb dX3_isSheet_6 (by decide) (fun c6 => ?_) (fun c6 => ?_)
    · have t6 : 4 ≤ p1.toInt := qt_le c6
      rw [if_pos c6] at hG
      refine lv_iconst (v := 0) hx hb dX3_isSheet_13 (by decide) ?_
      exact end0z S hr hlocks (Or.inl rfl) hG dX3_isSheet_14
    · have t6 : p1.toInt < 4 := qt_nle c6
      rw [if_neg c6] at hG
      refine lv_iconst (v := 1) hx hb dX3_isSheet_9 (by decide) ?_
      refine lv_goto (tgt := 14) hx hb dX3_isSheet_10 (by decide) ?_
      exact end0z S hr hlocks (Or.inr rfl) hG dX3_isSheet_14
set_option maxHeartbeats 4000000 in
set_option maxRecDepth 100000 in
theorem c_X3_refused (l : Launch) (ad : Nat → Nat) (D : va_G) (sz : Nat) (σ : St) (p1 : Int32) : Met l yX3_refused wsX3_refused ({ frames := 0, cells := 0, slots := 0, locals := 0 }) (PreW 41 (eC ad) ad D (tyC ad) σ sz ([.ref (ad 0), .int p1] : List Value)) (QWi 41 (eC ad) ad D (f_X3_refused σ p1) (CA 41 ad sz)) 0 0 (CA 41 ad sz) := by
  generalize hG : f_X3_refused σ p1 = T
  refine headW (cc := cX3_refused) (maxL := 2) (ret := (some .int)) ([.ref (ad 0), .int p1] : List Value) (by decide) rfl (Nat.le_of_ble_eq_true rfl) ?_
  intro p e s m below meth c S hr hlocks hK hN hsz w ls hl
  have S : CallFix p m c cX3_refused 2 s ([.ref (ad 0), .int p1] : List Value).toArray wsX3_refused RX3 := S
  have hx := S.1
  have hb := S.2.1
  have z0 : (0 : Int32).toInt = 0 := by decide
  have z1 : (1 : Int32).toInt = 1 := by decide
  have hl : lv_has ls 2 [(0, .ref (ad 0)), (1, .int p1)] := hl
  have hinX3 : ∀ w ∈ wsX30, w ∈ wsX3_refused := (fun _ h => List.mem_cons_of_mem _ (List.mem_append_right _ h))
  rw [f_X3_refused] at hG
  refine lv_aload_n hx hb dX3_refused_0 rfl (lv_at hl 0 rfl) ?_
  refine lv_iconst (v := 0) hx hb dX3_refused_1 (by decide) ?_
  refine r_put (C := RX3) (T := TX3) (N := 14) S hK w (k := 0) (by decide) (eC_0 ad _) rfl hinX3 tyX3 tyX3_ok nmX3 9 (by decide) (List.mem_of_getElem? (i := 1) rfl) rfl (x := 0) (ty := .int) (by decide +kernel) rfl rfl (by show _ < List.length _; exact Nat.le_of_ble_eq_true rfl) (sO ad _ _ 9 (by decide)) dX3_refused_2 (fun H locs w => ?_)
  refine lv_iload_n hx hb dX3_refused_5 rfl (lv_at hl 1 rfl) ?_
  exact endWi S hr hlocks w hG dX3_refused_6
set_option maxHeartbeats 4000000 in
set_option maxRecDepth 100000 in
theorem c_X3_isLane (l : Launch) (p1 : Int32) : Met l yX3_isLane wsX3_isLane ({ frames := 0, cells := 0, slots := 0, locals := 0 }) (Pre0 ([.int p1] : List Value)) (Q0i (f_X3_isLane p1)) 0 0 N0 := by
  generalize hG : f_X3_isLane p1 = T
  refine head0 (cc := cX3_isLane) (maxL := 1) (ret := (some .boolean)) ([.int p1] : List Value) (by decide) rfl (Nat.le_of_ble_eq_true rfl) ?_
  intro p e s m below meth c S hr hlocks ls hl
  have S : CallFix p m c cX3_isLane 1 s ([.int p1] : List Value).toArray wsX3_isLane RX3 := S
  have hx := S.1
  have hb := S.2.1
  have z0 : (0 : Int32).toInt = 0 := by decide
  have z1 : (1 : Int32).toInt = 1 := by decide
  have hl : lv_has ls 1 [(0, .int p1)] := hl
  rw [f_X3_isLane] at hG
  refine lv_iload_n hx hb dX3_isLane_0 rfl (lv_at hl 0 rfl) ?_
  refine lv_if_lt (tgt := 13) hx hb dX3_isLane_1 (by decide) (fun c1 => ?_) (fun c1 => ?_)
  · have t1 : p1.toInt < 0 := qt_lt c1
    rw [if_pos c1] at hG
    refine lv_iconst (v := 0) hx hb dX3_isLane_13 (by decide) ?_
    exact end0z S hr hlocks (Or.inl rfl) hG dX3_isLane_14
  · have t1 : 0 ≤ p1.toInt := qt_nlt c1
    rw [if_neg c1] at hG
    refine lv_iload_n hx hb dX3_isLane_4 rfl (lv_at hl 0 rfl) ?_
    refine lv_iconst (v := 3) hx hb dX3_isLane_5 (by decide) ?_
    refine lv_icmp_ge (tgt := 13) hx hb dX3_isLane_6 (by decide) (fun c6 => ?_) (fun c6 => ?_)
    · have t6 : 3 ≤ p1.toInt := qt_le c6
      rw [if_pos c6] at hG
      refine lv_iconst (v := 0) hx hb dX3_isLane_13 (by decide) ?_
      exact end0z S hr hlocks (Or.inl rfl) hG dX3_isLane_14
    · have t6 : p1.toInt < 3 := qt_nle c6
      rw [if_neg c6] at hG
      refine lv_iconst (v := 1) hx hb dX3_isLane_9 (by decide) ?_
      refine lv_goto (tgt := 14) hx hb dX3_isLane_10 (by decide) ?_
      exact end0z S hr hlocks (Or.inr rfl) hG dX3_isLane_14
set_option maxHeartbeats 4000000 in
set_option maxRecDepth 100000 in
theorem c_X3_faulted (l : Launch) (ad : Nat → Nat) (D : va_G) (sz : Nat) (σ : St) (p1 : Int32) : Met l yX3_faulted wsX3_faulted ({ frames := 0, cells := 0, slots := 0, locals := 0 }) (PreW 41 (eC ad) ad D (tyC ad) σ sz ([.ref (ad 0), .int p1] : List Value)) (QWi 41 (eC ad) ad D (f_X3_faulted σ p1) (CA 41 ad sz)) 0 0 (CA 41 ad sz) := by
  generalize hG : f_X3_faulted σ p1 = T
  refine headW (cc := cX3_faulted) (maxL := 2) (ret := (some .int)) ([.ref (ad 0), .int p1] : List Value) (by decide) rfl (Nat.le_of_ble_eq_true rfl) ?_
  intro p e s m below meth c S hr hlocks hK hN hsz w ls hl
  have S : CallFix p m c cX3_faulted 2 s ([.ref (ad 0), .int p1] : List Value).toArray wsX3_faulted RX3 := S
  have hx := S.1
  have hb := S.2.1
  have z0 : (0 : Int32).toInt = 0 := by decide
  have z1 : (1 : Int32).toInt = 1 := by decide
  have hl : lv_has ls 2 [(0, .ref (ad 0)), (1, .int p1)] := hl
  have hinX3 : ∀ w ∈ wsX30, w ∈ wsX3_faulted := (fun _ h => List.mem_cons_of_mem _ (List.mem_append_right _ h))
  rw [f_X3_faulted] at hG
  refine lv_aload_n hx hb dX3_faulted_0 rfl (lv_at hl 0 rfl) ?_
  refine lv_iload_n hx hb dX3_faulted_1 rfl (lv_at hl 1 rfl) ?_
  refine r_put (C := RX3) (T := TX3) (N := 14) S hK w (k := 0) (by decide) (eC_0 ad _) rfl hinX3 tyX3 tyX3_ok nmX3 9 (by decide) (List.mem_of_getElem? (i := 1) rfl) rfl (x := p1) (ty := .int) (by decide +kernel) rfl rfl (by show _ < List.length _; exact Nat.le_of_ble_eq_true rfl) (sO ad _ _ 9 (by decide)) dX3_faulted_2 (fun H locs w => ?_)
  refine lv_bipush (v := (-10)) hx hb dX3_faulted_5 (by decide) ?_
  refine lv_iload_n hx hb dX3_faulted_7 rfl (lv_at hl 1 rfl) ?_
  refine lv_isub hx hb dX3_faulted_8 ?_
  exact endWi S hr hlocks w hG dX3_faulted_9
set_option maxHeartbeats 4000000 in
set_option maxRecDepth 100000 in
theorem c_X3_spanRefusal (l : Launch) (ad : Nat → Nat) (D : va_G) (sz : Nat) (σ : St) (p1 : Int32) (p2 : Int32) (p3 : Int32) (p4 : Int64) : Met l yX3_spanRefusal wsX3_spanRefusal ({ frames := 1, cells := 0, slots := 0, locals := 23 }) (PreW 41 (eC ad) ad D (tyC ad) σ sz ([.ref (ad 0), .int p1, .int p2, .int p3, .long p4] : List Value)) (QWi 41 (eC ad) ad D (f_X3_spanRefusal σ p1 p2 p3 p4) (CA 41 ad sz)) 0 0 (CA 41 ad sz) := by
  generalize hG : f_X3_spanRefusal σ p1 p2 p3 p4 = T
  refine headW (cc := cX3_spanRefusal) (maxL := 7) (ret := (some .int)) ([.ref (ad 0), .int p1, .int p2, .int p3, .long p4] : List Value) (by decide) rfl (Nat.le_of_ble_eq_true rfl) ?_
  intro p e s m below meth c S hr hlocks hK hN hsz w ls hl
  have S : CallFix p m c cX3_spanRefusal 7 s ([.ref (ad 0), .int p1, .int p2, .int p3, .long p4] : List Value).toArray wsX3_spanRefusal RX3 := S
  have hx := S.1
  have hb := S.2.1
  have z0 : (0 : Int32).toInt = 0 := by decide
  have z1 : (1 : Int32).toInt = 1 := by decide
  have hl : lv_has ls 7 [(0, .ref (ad 0)), (1, .int p1), (2, .int p2), (3, .int p3), (4, .long p4)] := hl
  have hinX3 : ∀ w ∈ wsX30, w ∈ wsX3_spanRefusal := (fun _ h => List.mem_cons_of_mem _ (List.mem_append_left _ (List.mem_append_right _ h)))
  have hinX1 : ∀ w ∈ wsX10, w ∈ wsX3_spanRefusal := (fun _ h => List.mem_cons_of_mem _ (List.mem_append_right _ h))
  rw [f_X3_spanRefusal] at hG
  refine lv_iload_n hx hb dX3_spanRefusal_0 rfl (lv_at hl 1 rfl) ?_
  refine call0i (va_runS (As := [.int p1]) (rest := []) S (c_X3_isSheet l p1) (va_cwS 1 S.2.2.2.2 gX3_spanRefusal_X3_isSheet rfl rfl rfl hd_X3_isSheet ⟨Nat.le_of_ble_eq_true rfl, Nat.le_of_ble_eq_true rfl⟩) pre0S rfl rfl hl.1 rfl (lv_room (Nat.le_of_ble_eq_true rfl)) dX3_spanRefusal_1 ⟨Nat.zero_le _, Nat.zero_le _⟩) ?_
  refine lv_if_ne (tgt := 13) hx hb dX3_spanRefusal_4 (by decide) (fun c4 => ?_) (fun c4 => ?_)
  · have t4 := bf_isSheet_n c4
    rw [if_neg c4] at hG
    refine lv_iload_n hx hb dX3_spanRefusal_13 rfl (lv_at hl 2 rfl) ?_
    refine call0i (va_runS (As := [.int p2]) (rest := []) S (c_X3_isLane l p2) (va_cwS 1 S.2.2.2.2 gX3_spanRefusal_X3_isLane rfl rfl rfl hd_X3_isLane ⟨Nat.le_of_ble_eq_true rfl, Nat.le_of_ble_eq_true rfl⟩) pre0S rfl rfl hl.1 rfl (lv_room (Nat.le_of_ble_eq_true rfl)) dX3_spanRefusal_14 ⟨Nat.zero_le _, Nat.zero_le _⟩) ?_
    refine lv_if_ne (tgt := 27) hx hb dX3_spanRefusal_17 (by decide) (fun c17 => ?_) (fun c17 => ?_)
    · rw [if_neg c17] at hG
      refine lv_aload_n hx hb dX3_spanRefusal_27 rfl (lv_at hl 0 rfl) ?_
      refine r_get (C := RX3) (T := TX3) (N := 14) S hK w (k := 0) (by decide) (eC_0 ad _) rfl hinX3 0 (by decide) (List.mem_of_getElem? (i := 1) rfl) rfl dX3_spanRefusal_28 ?_
      refine lv_iload_n hx hb dX3_spanRefusal_31 rfl (lv_at hl 1 rfl) ?_
      have g32 : vp_in p1 4 := vpi (by omega) (by omega)
      refine r_aald S hK w (k := 1) (by decide) (eC_1 ad _) (t0 := 1) rfl g32 dX3_spanRefusal_32 ?_
      refine lv_astore (lv' := [(6, .ref (ad (9 + (ix p1)))), (0, .ref (ad 0)), (1, .int p1), (2, .int p2), (3, .int p3), (4, .long p4)]) hx hb dX3_spanRefusal_33 hl (by decide) rfl (fun ls hl => ?_)
      refine lv_aload hx hb dX3_spanRefusal_35 (lv_at hl 0 rfl) ?_
      refine r_getN (C := RX1) (T := TX1) (N := 4) S hK hN w (k := (9 + (ix p1))) (Nat.lt_of_lt_of_le (Nat.add_lt_add_left (vpl g32) 9) (by decide)) (eC_sh ad (vpl g32) _) rfl hinX1 0 (by decide) 0 rfl rfl dX3_spanRefusal_37 ?_
      refine lv_if_eq (tgt := 58) hx hb dX3_spanRefusal_40 (by decide) (fun c40 => ?_) (fun c40 => ?_)
      · have t40 : (σ (9 + (ix p1)) 0).toInt = 0 := qt_eq c40
        rw [if_pos c40] at hG
        refine lv_aload hx hb dX3_spanRefusal_58 (lv_at hl 0 rfl) ?_
        refine r_getN (C := RX1) (T := TX1) (N := 4) S hK hN w (k := (9 + (ix p1))) (Nat.lt_of_lt_of_le (Nat.add_lt_add_left (vpl g32) 9) (by decide)) (eC_sh ad (vpl g32) _) rfl hinX1 0 (by decide) 0 rfl rfl dX3_spanRefusal_60 ?_
        refine lv_if_ne (tgt := 72) hx hb dX3_spanRefusal_63 (by decide) (fun c63 => ?_) (fun c63 => ?_)
        · have t63 : (σ (9 + (ix p1)) 0).toInt ≠ 0 := qt_ne c63
          rw [if_neg c63] at hG
          refine lv_lload hx hb dX3_spanRefusal_72 (lv_at hl 5 rfl) ?_
          refine lv_lconst (v := 0) hx hb dX3_spanRefusal_74 (by decide) ?_
          refine W.lcmp hx hb dX3_spanRefusal_75 ?_
          refine lv_if_ge (tgt := 85) hx hb dX3_spanRefusal_76 (by decide) (fun c76 => ?_) (fun c76 => ?_)
          · rw [if_pos c76] at hG
            refine lv_aload hx hb dX3_spanRefusal_85 (lv_at hl 0 rfl) ?_
            refine lv_iload_n hx hb dX3_spanRefusal_87 rfl (lv_at hl 4 rfl) ?_
            refine lv_lload hx hb dX3_spanRefusal_88 (lv_at hl 5 rfl) ?_
            refine call0i (va_runVN (As := [.int p3, .long p4]) (rest := []) S (c_X1_lacks l ad D s.heap.size σ (ix p1) p3 p4 (vpl g32)) ⟨va_cnB 2 S.2.2.2.2 gX3_spanRefusal_X1_lacks_n254 rfl rfl rfl (hN.m 3 rfl) (S.2.2.2.2 _ (List.mem_of_getElem? (i := 19) rfl)) hd_X1_lacks ⟨Nat.le_of_ble_eq_true rfl, Nat.le_of_ble_eq_true rfl⟩, S.2.2.2.2 _ (List.mem_of_getElem? (i := 18) rfl), S.2.2.2.2 _ (List.mem_of_getElem? (i := 20) rfl)⟩ (preV hK hN w (k := (9 + (ix p1))) (Nat.lt_of_lt_of_le (Nat.add_lt_add_left (vpl g32) 9) (by decide)) (eC_sh ad (vpl g32) _) (q := (RX1, TX1, 4)) rfl) rfl rfl hl.1 rfl (lv_room (Nat.le_of_ble_eq_true rfl)) dX3_spanRefusal_90 ⟨Nat.zero_le _, Nat.zero_le _⟩) ?_
            refine lv_if_eq (tgt := 102) hx hb dX3_spanRefusal_93 (by decide) (fun c93 => ?_) (fun c93 => ?_)
            · have t93 := bf_lacks_z c93
              rw [if_pos c93] at hG
              refine lv_aload_n hx hb dX3_spanRefusal_102 rfl (lv_at hl 1 rfl) ?_
              refine lv_iconst (v := 0) hx hb dX3_spanRefusal_103 (by decide) ?_
              refine r_put (C := RX3) (T := TX3) (N := 14) S hK w (k := 0) (by decide) (eC_0 ad _) rfl hinX3 tyX3 tyX3_ok nmX3 9 (by decide) (List.mem_of_getElem? (i := 2) rfl) rfl (x := 0) (ty := .int) (by decide +kernel) rfl rfl (by show _ < List.length _; exact Nat.le_of_ble_eq_true rfl) (sO ad _ _ 9 (by decide)) dX3_spanRefusal_104 (fun H locs w => ?_)
              refine lv_iconst (v := 0) hx hb dX3_spanRefusal_107 (by decide) ?_
              exact endWi S hr hlocks w hG dX3_spanRefusal_108
            · rw [if_neg c93] at hG
              refine lv_aload_n hx hb dX3_spanRefusal_96 rfl (lv_at hl 1 rfl) ?_
              refine lv_iconst (v := 3) hx hb dX3_spanRefusal_97 (by decide) ?_
              refine callWi w (va_runV (As := [.int 3]) (rest := []) S (c_X3_faulted l ad D s.heap.size σ 3) (cwV 1 S.2.2.2.2 gX3_spanRefusal_X3_faulted rfl rfl rfl ⟨rfl, hd_X3_faulted⟩ ⟨Nat.le_of_ble_eq_true rfl, Nat.le_of_ble_eq_true rfl⟩) (preV hK hN w (k := 0) (by decide) (eC_0 ad _) (q := (RX3, TX3, 14)) rfl) rfl rfl hl.1 rfl (lv_room (Nat.le_of_ble_eq_true rfl)) dX3_spanRefusal_98 ⟨Nat.zero_le _, Nat.zero_le _⟩) (fun H locs w => ?_)
              exact endWi S hr hlocks w hG dX3_spanRefusal_101
          · rw [if_neg c76] at hG
            refine lv_aload_n hx hb dX3_spanRefusal_79 rfl (lv_at hl 1 rfl) ?_
            refine lv_iconst (v := 4) hx hb dX3_spanRefusal_80 (by decide) ?_
            refine callWi w (va_runV (As := [.int 4]) (rest := []) S (c_X3_faulted l ad D s.heap.size σ 4) (cwV 1 S.2.2.2.2 gX3_spanRefusal_X3_faulted rfl rfl rfl ⟨rfl, hd_X3_faulted⟩ ⟨Nat.le_of_ble_eq_true rfl, Nat.le_of_ble_eq_true rfl⟩) (preV hK hN w (k := 0) (by decide) (eC_0 ad _) (q := (RX3, TX3, 14)) rfl) rfl rfl hl.1 rfl (lv_room (Nat.le_of_ble_eq_true rfl)) dX3_spanRefusal_81 ⟨Nat.zero_le _, Nat.zero_le _⟩) (fun H locs w => ?_)
            exact endWi S hr hlocks w hG dX3_spanRefusal_84
        · have t63 : (σ (9 + (ix p1)) 0).toInt = 0 := qt_eq c63
          rw [if_pos c63] at hG
          refine lv_aload_n hx hb dX3_spanRefusal_66 rfl (lv_at hl 1 rfl) ?_
          refine lv_iconst (v := 1) hx hb dX3_spanRefusal_67 (by decide) ?_
          refine callWi w (va_runV (As := [.int 1]) (rest := []) S (c_X3_faulted l ad D s.heap.size σ 1) (cwV 1 S.2.2.2.2 gX3_spanRefusal_X3_faulted rfl rfl rfl ⟨rfl, hd_X3_faulted⟩ ⟨Nat.le_of_ble_eq_true rfl, Nat.le_of_ble_eq_true rfl⟩) (preV hK hN w (k := 0) (by decide) (eC_0 ad _) (q := (RX3, TX3, 14)) rfl) rfl rfl hl.1 rfl (lv_room (Nat.le_of_ble_eq_true rfl)) dX3_spanRefusal_68 ⟨Nat.zero_le _, Nat.zero_le _⟩) (fun H locs w => ?_)
          exact endWi S hr hlocks w hG dX3_spanRefusal_71
      · have t40 : (σ (9 + (ix p1)) 0).toInt ≠ 0 := qt_ne c40
        rw [if_neg c40] at hG
        refine lv_aload hx hb dX3_spanRefusal_43 (lv_at hl 0 rfl) ?_
        refine r_getN (C := RX1) (T := TX1) (N := 4) S hK hN w (k := (9 + (ix p1))) (Nat.lt_of_lt_of_le (Nat.add_lt_add_left (vpl g32) 9) (by decide)) (eC_sh ad (vpl g32) _) rfl hinX1 1 (by decide) 1 rfl rfl dX3_spanRefusal_45 ?_
        refine lv_iload_n hx hb dX3_spanRefusal_48 rfl (lv_at hl 3 rfl) ?_
        refine lv_icmp_eq (tgt := 58) hx hb dX3_spanRefusal_49 (by decide) (fun c49 => ?_) (fun c49 => ?_)
        · have t49 : (σ (9 + (ix p1)) 1).toInt = p2.toInt := qt_eq c49
          rw [if_pos c49] at hG
          refine lv_aload hx hb dX3_spanRefusal_58 (lv_at hl 0 rfl) ?_
          refine r_getN (C := RX1) (T := TX1) (N := 4) S hK hN w (k := (9 + (ix p1))) (Nat.lt_of_lt_of_le (Nat.add_lt_add_left (vpl g32) 9) (by decide)) (eC_sh ad (vpl g32) _) rfl hinX1 0 (by decide) 0 rfl rfl dX3_spanRefusal_60 ?_
          refine lv_if_ne (tgt := 72) hx hb dX3_spanRefusal_63 (by decide) (fun c63 => ?_) (fun c63 => ?_)
          · have t63 : (σ (9 + (ix p1)) 0).toInt ≠ 0 := qt_ne c63
            rw [if_neg c63] at hG
            refine lv_lload hx hb dX3_spanRefusal_72 (lv_at hl 5 rfl) ?_
            refine lv_lconst (v := 0) hx hb dX3_spanRefusal_74 (by decide) ?_
            refine W.lcmp hx hb dX3_spanRefusal_75 ?_
            refine lv_if_ge (tgt := 85) hx hb dX3_spanRefusal_76 (by decide) (fun c76 => ?_) (fun c76 => ?_)
            · rw [if_pos c76] at hG
              refine lv_aload hx hb dX3_spanRefusal_85 (lv_at hl 0 rfl) ?_
              refine lv_iload_n hx hb dX3_spanRefusal_87 rfl (lv_at hl 4 rfl) ?_
              refine lv_lload hx hb dX3_spanRefusal_88 (lv_at hl 5 rfl) ?_
              refine call0i (va_runVN (As := [.int p3, .long p4]) (rest := []) S (c_X1_lacks l ad D s.heap.size σ (ix p1) p3 p4 (vpl g32)) ⟨va_cnB 2 S.2.2.2.2 gX3_spanRefusal_X1_lacks_n254 rfl rfl rfl (hN.m 3 rfl) (S.2.2.2.2 _ (List.mem_of_getElem? (i := 19) rfl)) hd_X1_lacks ⟨Nat.le_of_ble_eq_true rfl, Nat.le_of_ble_eq_true rfl⟩, S.2.2.2.2 _ (List.mem_of_getElem? (i := 18) rfl), S.2.2.2.2 _ (List.mem_of_getElem? (i := 20) rfl)⟩ (preV hK hN w (k := (9 + (ix p1))) (Nat.lt_of_lt_of_le (Nat.add_lt_add_left (vpl g32) 9) (by decide)) (eC_sh ad (vpl g32) _) (q := (RX1, TX1, 4)) rfl) rfl rfl hl.1 rfl (lv_room (Nat.le_of_ble_eq_true rfl)) dX3_spanRefusal_90 ⟨Nat.zero_le _, Nat.zero_le _⟩) ?_
              refine lv_if_eq (tgt := 102) hx hb dX3_spanRefusal_93 (by decide) (fun c93 => ?_) (fun c93 => ?_)
              · have t93 := bf_lacks_z c93
                rw [if_pos c93] at hG
                refine lv_aload_n hx hb dX3_spanRefusal_102 rfl (lv_at hl 1 rfl) ?_
                refine lv_iconst (v := 0) hx hb dX3_spanRefusal_103 (by decide) ?_
                refine r_put (C := RX3) (T := TX3) (N := 14) S hK w (k := 0) (by decide) (eC_0 ad _) rfl hinX3 tyX3 tyX3_ok nmX3 9 (by decide) (List.mem_of_getElem? (i := 2) rfl) rfl (x := 0) (ty := .int) (by decide +kernel) rfl rfl (by show _ < List.length _; exact Nat.le_of_ble_eq_true rfl) (sO ad _ _ 9 (by decide)) dX3_spanRefusal_104 (fun H locs w => ?_)
                refine lv_iconst (v := 0) hx hb dX3_spanRefusal_107 (by decide) ?_
                exact endWi S hr hlocks w hG dX3_spanRefusal_108
              · rw [if_neg c93] at hG
                refine lv_aload_n hx hb dX3_spanRefusal_96 rfl (lv_at hl 1 rfl) ?_
                refine lv_iconst (v := 3) hx hb dX3_spanRefusal_97 (by decide) ?_
                refine callWi w (va_runV (As := [.int 3]) (rest := []) S (c_X3_faulted l ad D s.heap.size σ 3) (cwV 1 S.2.2.2.2 gX3_spanRefusal_X3_faulted rfl rfl rfl ⟨rfl, hd_X3_faulted⟩ ⟨Nat.le_of_ble_eq_true rfl, Nat.le_of_ble_eq_true rfl⟩) (preV hK hN w (k := 0) (by decide) (eC_0 ad _) (q := (RX3, TX3, 14)) rfl) rfl rfl hl.1 rfl (lv_room (Nat.le_of_ble_eq_true rfl)) dX3_spanRefusal_98 ⟨Nat.zero_le _, Nat.zero_le _⟩) (fun H locs w => ?_)
                exact endWi S hr hlocks w hG dX3_spanRefusal_101
            · rw [if_neg c76] at hG
              refine lv_aload_n hx hb dX3_spanRefusal_79 rfl (lv_at hl 1 rfl) ?_
              refine lv_iconst (v := 4) hx hb dX3_spanRefusal_80 (by decide) ?_
              refine callWi w (va_runV (As := [.int 4]) (rest := []) S (c_X3_faulted l ad D s.heap.size σ 4) (cwV 1 S.2.2.2.2 gX3_spanRefusal_X3_faulted rfl rfl rfl ⟨rfl, hd_X3_faulted⟩ ⟨Nat.le_of_ble_eq_true rfl, Nat.le_of_ble_eq_true rfl⟩) (preV hK hN w (k := 0) (by decide) (eC_0 ad _) (q := (RX3, TX3, 14)) rfl) rfl rfl hl.1 rfl (lv_room (Nat.le_of_ble_eq_true rfl)) dX3_spanRefusal_81 ⟨Nat.zero_le _, Nat.zero_le _⟩) (fun H locs w => ?_)
              exact endWi S hr hlocks w hG dX3_spanRefusal_84
          · have t63 : (σ (9 + (ix p1)) 0).toInt = 0 := qt_eq c63
            rw [if_pos c63] at hG
            refine lv_aload_n hx hb dX3_spanRefusal_66 rfl (lv_at hl 1 rfl) ?_
            refine lv_iconst (v := 1) hx hb dX3_spanRefusal_67 (by decide) ?_
            refine callWi w (va_runV (As := [.int 1]) (rest := []) S (c_X3_faulted l ad D s.heap.size σ 1) (cwV 1 S.2.2.2.2 gX3_spanRefusal_X3_faulted rfl rfl rfl ⟨rfl, hd_X3_faulted⟩ ⟨Nat.le_of_ble_eq_true rfl, Nat.le_of_ble_eq_true rfl⟩) (preV hK hN w (k := 0) (by decide) (eC_0 ad _) (q := (RX3, TX3, 14)) rfl) rfl rfl hl.1 rfl (lv_room (Nat.le_of_ble_eq_true rfl)) dX3_spanRefusal_68 ⟨Nat.zero_le _, Nat.zero_le _⟩) (fun H locs w => ?_)
            exact endWi S hr hlocks w hG dX3_spanRefusal_71
        · have t49 : (σ (9 + (ix p1)) 1).toInt ≠ p2.toInt := qt_ne c49
          rw [if_neg c49] at hG
          refine lv_aload_n hx hb dX3_spanRefusal_52 rfl (lv_at hl 1 rfl) ?_
          refine lv_iconst (v := 2) hx hb dX3_spanRefusal_53 (by decide) ?_
          refine callWi w (va_runV (As := [.int 2]) (rest := []) S (c_X3_faulted l ad D s.heap.size σ 2) (cwV 1 S.2.2.2.2 gX3_spanRefusal_X3_faulted rfl rfl rfl ⟨rfl, hd_X3_faulted⟩ ⟨Nat.le_of_ble_eq_true rfl, Nat.le_of_ble_eq_true rfl⟩) (preV hK hN w (k := 0) (by decide) (eC_0 ad _) (q := (RX3, TX3, 14)) rfl) rfl rfl hl.1 rfl (lv_room (Nat.le_of_ble_eq_true rfl)) dX3_spanRefusal_54 ⟨Nat.zero_le _, Nat.zero_le _⟩) (fun H locs w => ?_)
          exact endWi S hr hlocks w hG dX3_spanRefusal_57
    · rw [if_pos c17] at hG
      refine lv_aload_n hx hb dX3_spanRefusal_20 rfl (lv_at hl 0 rfl) ?_
      refine lv_bipush (v := (-2)) hx hb dX3_spanRefusal_21 (by decide) ?_
      refine callWi w (va_runV (As := [.int (-2)]) (rest := []) S (c_X3_refused l ad D s.heap.size σ (-2)) (cwV 1 S.2.2.2.2 gX3_spanRefusal_X3_refused rfl rfl rfl ⟨rfl, hd_X3_refused⟩ ⟨Nat.le_of_ble_eq_true rfl, Nat.le_of_ble_eq_true rfl⟩) (preV hK hN w (k := 0) (by decide) (eC_0 ad _) (q := (RX3, TX3, 14)) rfl) rfl rfl hl.1 rfl (lv_room (Nat.le_of_ble_eq_true rfl)) dX3_spanRefusal_23 ⟨Nat.zero_le _, Nat.zero_le _⟩) (fun H locs w => ?_)
      exact endWi S hr hlocks w hG dX3_spanRefusal_26
  · rw [if_pos c4] at hG
    refine lv_aload_n hx hb dX3_spanRefusal_7 rfl (lv_at hl 0 rfl) ?_
    refine lv_iconst (v := (-1)) hx hb dX3_spanRefusal_8 (by decide) ?_
    refine callWi w (va_runV (As := [.int (-1)]) (rest := []) S (c_X3_refused l ad D s.heap.size σ (-1)) (cwV 1 S.2.2.2.2 gX3_spanRefusal_X3_refused rfl rfl rfl ⟨rfl, hd_X3_refused⟩ ⟨Nat.le_of_ble_eq_true rfl, Nat.le_of_ble_eq_true rfl⟩) (preV hK hN w (k := 0) (by decide) (eC_0 ad _) (q := (RX3, TX3, 14)) rfl) rfl rfl hl.1 rfl (lv_room (Nat.le_of_ble_eq_true rfl)) dX3_spanRefusal_9 ⟨Nat.zero_le _, Nat.zero_le _⟩) (fun H locs w => ?_)
    exact endWi S hr hlocks w hG dX3_spanRefusal_12
set_option maxHeartbeats 4000000 in
set_option maxRecDepth 100000 in
theorem c_X3_kindOf (l : Launch) (p1 : Int32) : Met l yX3_kindOf wsX3_kindOf ({ frames := 0, cells := 0, slots := 0, locals := 0 }) (Pre0 ([.int p1] : List Value)) (Q0i (f_X3_kindOf p1)) 0 0 N0 := by
  generalize hG : f_X3_kindOf p1 = T
  refine head0 (cc := cX3_kindOf) (maxL := 1) (ret := (some .int)) ([.int p1] : List Value) (by decide) rfl (Nat.le_of_ble_eq_true rfl) ?_
  intro p e s m below meth c S hr hlocks ls hl
  have S : CallFix p m c cX3_kindOf 1 s ([.int p1] : List Value).toArray wsX3_kindOf RX3 := S
  have hx := S.1
  have hb := S.2.1
  have z0 : (0 : Int32).toInt = 0 := by decide
  have z1 : (1 : Int32).toInt = 1 := by decide
  have hl : lv_has ls 1 [(0, .int p1)] := hl
  rw [f_X3_kindOf] at hG
  refine lv_iload_n hx hb dX3_kindOf_0 rfl (lv_at hl 0 rfl) ?_
  by_cases c1_0 : p1 = 102
  · rw [if_pos c1_0] at hG
    refine lv_lookup (tgt := 38) hx hb dX3_kindOf_1 (by decide) (off := 37) (by rw [c1_0]; decide) (by decide) ?_
    refine lv_iconst (v := 1) hx hb dX3_kindOf_38 (by decide) ?_
    exact end0i S hr hlocks hG dX3_kindOf_39
  rw [if_neg c1_0] at hG
  by_cases c1_1 : p1 = 112
  · rw [if_pos c1_1] at hG
    refine lv_lookup (tgt := 36) hx hb dX3_kindOf_1 (by decide) (off := 35) (by rw [c1_1]; decide) (by decide) ?_
    refine lv_iconst (v := 0) hx hb dX3_kindOf_36 (by decide) ?_
    exact end0i S hr hlocks hG dX3_kindOf_37
  rw [if_neg c1_1] at hG
  by_cases c1_2 : p1 = 115
  · rw [if_pos c1_2] at hG
    refine lv_lookup (tgt := 40) hx hb dX3_kindOf_1 (by decide) (off := 39) (by rw [c1_2]; decide) (by decide) ?_
    refine lv_iconst (v := 2) hx hb dX3_kindOf_40 (by decide) ?_
    exact end0i S hr hlocks hG dX3_kindOf_41
  rw [if_neg c1_2] at hG
  refine lv_lookup (tgt := 42) hx hb dX3_kindOf_1 (by decide) (off := 41) (by show Op.lookupswitch.offset [(102, 37), (112, 35), (115, 39)] 41 p1.toInt = 41; rw [lv_osw (a := 102) c1_0 (by decide), lv_osw (a := 112) c1_1 (by decide), lv_osw (a := 115) c1_2 (by decide)]; rfl) (by decide) ?_
  refine lv_iconst (v := (-1)) hx hb dX3_kindOf_42 (by decide) ?_
  exact end0i S hr hlocks hG dX3_kindOf_43
set_option maxHeartbeats 4000000 in
set_option maxRecDepth 100000 in
theorem c_X3_goesOn (l : Launch) (p1 : Int32) (p2 : Int32) : Met l yX3_goesOn wsX3_goesOn ({ frames := 1, cells := 0, slots := 0, locals := 20 }) (Pre0 ([.int p1, .int p2] : List Value)) (Q0i (f_X3_goesOn p1 p2)) 0 0 N0 := by
  generalize hG : f_X3_goesOn p1 p2 = T
  refine head0 (cc := cX3_goesOn) (maxL := 3) (ret := (some .boolean)) ([.int p1, .int p2] : List Value) (by decide) rfl (Nat.le_of_ble_eq_true rfl) ?_
  intro p e s m below meth c S hr hlocks ls hl
  have S : CallFix p m c cX3_goesOn 3 s ([.int p1, .int p2] : List Value).toArray wsX3_goesOn RX3 := S
  have hx := S.1
  have hb := S.2.1
  have z0 : (0 : Int32).toInt = 0 := by decide
  have z1 : (1 : Int32).toInt = 1 := by decide
  have hl : lv_has ls 3 [(0, .int p1), (1, .int p2)] := hl
  rw [f_X3_goesOn] at hG
  refine lv_iload_n hx hb dX3_goesOn_0 rfl (lv_at hl 1 rfl) ?_
  refine lv_bipush (v := 11) hx hb dX3_goesOn_1 (by decide) ?_
  refine lv_irem hx hb dX3_goesOn_3 (by decide) ?_
  refine lv_istore_n (lv' := [(2, .int (p2 - (p2 / 11) * 11)), (0, .int p1), (1, .int p2)]) hx hb dX3_goesOn_4 rfl hl (by decide) rfl (fun ls hl => ?_)
  refine lv_iload_n hx hb dX3_goesOn_5 rfl (lv_at hl 0 rfl) ?_
  refine lv_if_ne (tgt := 22) hx hb dX3_goesOn_6 (by decide) (fun c6 => ?_) (fun c6 => ?_)
  · have t6 : (p2 - (p2 / 11) * 11).toInt ≠ 0 := qt_ne c6
    rw [if_neg c6] at hG
    refine lv_iload_n hx hb dX3_goesOn_22 rfl (lv_at hl 0 rfl) ?_
    refine lv_bipush (v := 10) hx hb dX3_goesOn_23 (by decide) ?_
    refine lv_icmp_ne (tgt := 51) hx hb dX3_goesOn_25 (by decide) (fun c25 => ?_) (fun c25 => ?_)
    · have t25 : (p2 - (p2 / 11) * 11).toInt ≠ 10 := qt_ne c25
      rw [if_neg c25] at hG
      refine lv_iload_n hx hb dX3_goesOn_51 rfl (lv_at hl 1 rfl) ?_
      refine lv_bipush (v := 48) hx hb dX3_goesOn_52 (by decide) ?_
      refine lv_icmp_lt (tgt := 67) hx hb dX3_goesOn_54 (by decide) (fun c54 => ?_) (fun c54 => ?_)
      · have t54 : p1.toInt < 48 := qt_lt c54
        rw [if_pos c54] at hG
        refine lv_iconst (v := 0) hx hb dX3_goesOn_67 (by decide) ?_
        exact end0z S hr hlocks (Or.inl rfl) hG dX3_goesOn_68
      · have t54 : 48 ≤ p1.toInt := qt_nlt c54
        rw [if_neg c54] at hG
        refine lv_iload_n hx hb dX3_goesOn_57 rfl (lv_at hl 1 rfl) ?_
        refine lv_bipush (v := 57) hx hb dX3_goesOn_58 (by decide) ?_
        refine lv_icmp_gt (tgt := 67) hx hb dX3_goesOn_60 (by decide) (fun c60 => ?_) (fun c60 => ?_)
        · have t60 : 57 < p1.toInt := qt_lt c60
          rw [if_pos c60] at hG
          refine lv_iconst (v := 0) hx hb dX3_goesOn_67 (by decide) ?_
          exact end0z S hr hlocks (Or.inl rfl) hG dX3_goesOn_68
        · have t60 : p1.toInt ≤ 57 := qt_nlt c60
          rw [if_neg c60] at hG
          refine lv_iconst (v := 1) hx hb dX3_goesOn_63 (by decide) ?_
          refine lv_goto (tgt := 68) hx hb dX3_goesOn_64 (by decide) ?_
          exact end0z S hr hlocks (Or.inr rfl) hG dX3_goesOn_68
    · have t25 : (p2 - (p2 / 11) * 11).toInt = 10 := qt_eq c25
      rw [if_pos c25] at hG
      refine lv_iload_n hx hb dX3_goesOn_28 rfl (lv_at hl 1 rfl) ?_
      refine lv_bipush (v := 59) hx hb dX3_goesOn_29 (by decide) ?_
      refine lv_icmp_ne (tgt := 49) hx hb dX3_goesOn_31 (by decide) (fun c31 => ?_) (fun c31 => ?_)
      · have t31 : p1.toInt ≠ 59 := qt_ne c31
        rw [if_neg c31] at hG
        refine lv_iconst (v := 0) hx hb dX3_goesOn_49 (by decide) ?_
        exact end0z S hr hlocks (Or.inl rfl) hG dX3_goesOn_50
      · have t31 : p1.toInt = 59 := qt_eq c31
        rw [if_pos c31] at hG
        refine lv_iload_n hx hb dX3_goesOn_34 rfl (lv_at hl 2 rfl) ?_
        refine lv_bipush (v := 11) hx hb dX3_goesOn_35 (by decide) ?_
        refine lv_idiv hx hb dX3_goesOn_37 (by decide) ?_
        refine lv_iconst (v := 1) hx hb dX3_goesOn_38 (by decide) ?_
        refine lv_iadd hx hb dX3_goesOn_39 ?_
        refine lv_bipush (v := 8) hx hb dX3_goesOn_40 (by decide) ?_
        refine lv_icmp_ge (tgt := 49) hx hb dX3_goesOn_42 (by decide) (fun c42 => ?_) (fun c42 => ?_)
        · have t42 : 8 ≤ ((p2 / 11) + 1).toInt := qt_le c42
          rw [if_pos c42] at hG
          refine lv_iconst (v := 0) hx hb dX3_goesOn_49 (by decide) ?_
          exact end0z S hr hlocks (Or.inl rfl) hG dX3_goesOn_50
        · have t42 : ((p2 / 11) + 1).toInt < 8 := qt_nle c42
          rw [if_neg c42] at hG
          refine lv_iconst (v := 1) hx hb dX3_goesOn_45 (by decide) ?_
          refine lv_goto (tgt := 50) hx hb dX3_goesOn_46 (by decide) ?_
          exact end0z S hr hlocks (Or.inr rfl) hG dX3_goesOn_50
  · have t6 : (p2 - (p2 / 11) * 11).toInt = 0 := qt_eq c6
    rw [if_pos c6] at hG
    refine lv_iload_n hx hb dX3_goesOn_9 rfl (lv_at hl 1 rfl) ?_
    refine call0i (va_runS (As := [.int p1]) (rest := []) S (c_X3_kindOf l p1) (va_cwS 1 S.2.2.2.2 gX3_goesOn_X3_kindOf rfl rfl rfl hd_X3_kindOf ⟨Nat.le_of_ble_eq_true rfl, Nat.le_of_ble_eq_true rfl⟩) pre0S rfl rfl hl.1 rfl (lv_room (Nat.le_of_ble_eq_true rfl)) dX3_goesOn_10 ⟨Nat.zero_le _, Nat.zero_le _⟩) ?_
    refine lv_if_lt (tgt := 20) hx hb dX3_goesOn_13 (by decide) (fun c13 => ?_) (fun c13 => ?_)
    · have t13 : (f_X3_kindOf p1).toInt < 0 := qt_lt c13
      rw [if_pos c13] at hG
      refine lv_iconst (v := 0) hx hb dX3_goesOn_20 (by decide) ?_
      exact end0z S hr hlocks (Or.inl rfl) hG dX3_goesOn_21
    · have t13 : 0 ≤ (f_X3_kindOf p1).toInt := qt_nlt c13
      rw [if_neg c13] at hG
      refine lv_iconst (v := 1) hx hb dX3_goesOn_16 (by decide) ?_
      refine lv_goto (tgt := 21) hx hb dX3_goesOn_17 (by decide) ?_
      exact end0z S hr hlocks (Or.inr rfl) hG dX3_goesOn_21
set_option maxHeartbeats 4000000 in
set_option maxRecDepth 100000 in
theorem c_X3_textFault (l : Launch) (ad : Nat → Nat) (D : va_G) (sz : Nat) (σ : St) (p1 : Nat) (p2 : Int32) (p3 : Int32) (hp1 : p1 < 4) (hb1 : 0 ≤ p2.toInt) (hb2 : 0 ≤ p3.toInt) (hb3 : p2.toInt + p3.toInt ≤ 90) : Met l yX3_textFault wsX3_textFault ({ frames := 2, cells := 0, slots := 0, locals := 42 }) (PreW 41 (eC ad) ad D (tyC ad) σ sz ([.ref (ad (9 + p1)), .int p2, .int p3] : List Value)) (Q0i (f_X3_textFault σ p1 p2 p3)) 0 0 N0 := by
  generalize hG : f_X3_textFault σ p1 p2 p3 = T
  refine headW (cc := cX3_textFault) (maxL := 4) (ret := (some .int)) ([.ref (ad (9 + p1)), .int p2, .int p3] : List Value) (by decide) rfl (Nat.le_of_ble_eq_true rfl) ?_
  intro p e s m below meth c S hr hlocks hK hN hsz w ls hl
  have S : CallFix p m c cX3_textFault 4 s ([.ref (ad (9 + p1)), .int p2, .int p3] : List Value).toArray wsX3_textFault RX3 := S
  have hx := S.1
  have hb := S.2.1
  have z0 : (0 : Int32).toInt = 0 := by decide
  have z1 : (1 : Int32).toInt = 1 := by decide
  have hl : lv_has ls 4 [(0, .ref (ad (9 + p1))), (1, .int p2), (2, .int p3)] := hl
  have hinX1 : ∀ w ∈ wsX10, w ∈ wsX3_textFault := (fun _ h => List.mem_cons_of_mem _ (List.mem_append_right _ h))
  rw [f_X3_textFault] at hG
  refine lv_iconst (v := 0) hx hb dX3_textFault_0 (by decide) ?_
  refine lv_istore_n (lv' := [(3, .int 0), (0, .ref (ad (9 + p1))), (1, .int p2), (2, .int p3)]) hx hb dX3_textFault_1 rfl hl (by decide) rfl (fun ls hl => ?_)
  have L2 : ∀ (n : Nat) (res2 : (Int32) ⊕ (Unit)), ∀ (v3_2 : Int32), ((0 ≤ v3_2.toInt ∧ v3_2.toInt ≤ p3.toInt)) → (p3.toInt - v3_2.toInt).toNat < n → (lp_X3_textFault_2 σ p1 p2 p3 n v3_2) = res2 → (∀ r : Int32, res2 = Sum.inl r → r = T) → (res2 = Sum.inr () → ∀ ls : Array Slot, lv_has ls 4 [(2, .int p3)] → W p l e (headSpec wsX3_textFault ({ frames := 2, cells := 0, slots := 0, locals := 42 })).room s m ([.ref (ad (9 + p1)), .int p2, .int p3] : List Value).toArray below meth c s.heap [] 0 0 (MQ below (Q0i T) ([.ref (ad (9 + p1)), .int p2, .int p3] : List Value).toArray s 0 0 N0) (F0 m 30 ls [])) → ∀ ls : Array Slot, lv_has ls 4 [(0, .ref (ad (9 + p1))), (1, .int p2), (2, .int p3), (3, .int v3_2)] → W p l e (headSpec wsX3_textFault ({ frames := 2, cells := 0, slots := 0, locals := 42 })).room s m ([.ref (ad (9 + p1)), .int p2, .int p3] : List Value).toArray below meth c s.heap [] 0 0 (MQ below (Q0i T) ([.ref (ad (9 + p1)), .int p2, .int p3] : List Value).toArray s 0 0 N0) (F0 m 2 ls []) := by
    intro n
    induction n with
    | zero => intro _ _ _ hm; exact absurd hm (Nat.not_lt_zero _)
    | succ n ih2 =>
      intro res2 v3_2 hI2 hm2 hG hret2 hex2 ls hl
      have i2_0 := hI2
      rw [lp_X3_textFault_2] at hG
      refine lv_iload_n hx hb dX3_textFault_2 rfl (lv_at hl 3 rfl) ?_
      refine lv_iload_n hx hb dX3_textFault_3 rfl (lv_at hl 2 rfl) ?_
      refine lv_icmp_ge (tgt := 30) hx hb dX3_textFault_4 (by decide) (fun c4 => ?_) (fun c4 => ?_)
      · have t4 : p3.toInt ≤ v3_2.toInt := qt_le c4
        rw [if_pos c4] at hG
        exact hex2  hG.symm ls (lv_sub hl [2] rfl)
      · have t4 : v3_2.toInt < p3.toInt := qt_nle c4
        rw [if_neg c4] at hG
        refine lv_aload_n hx hb dX3_textFault_7 rfl (lv_at hl 0 rfl) ?_
        refine r_getN (C := RX1) (T := TX1) (N := 4) S hK hN w (k := (9 + p1)) (Nat.lt_of_lt_of_le (Nat.add_lt_add_left hp1 9) (by decide)) (eC_sh ad hp1 _) rfl hinX1 3 (by decide) 2 rfl rfl dX3_textFault_8 ?_
        refine lv_iload_n hx hb dX3_textFault_11 rfl (lv_at hl 1 rfl) ?_
        refine lv_iload_n hx hb dX3_textFault_12 rfl (lv_at hl 3 rfl) ?_
        refine lv_iadd hx hb dX3_textFault_13 ?_
        have e14 := a_toInt (a := p2) (b := v3_2) (by omega) (by omega)
        have g14 : vp_in (p2 + v3_2) 90 := vpi (by omega) (by omega)
        refine r_iald (cA := ad 100) (N := 90) S hK w (k := (13 + p1)) (Nat.lt_of_lt_of_le (Nat.add_lt_add_left hp1 13) (by decide)) (fun f => eC_sc ad hp1 f) rfl g14 dX3_textFault_14 ?_
        refine lv_iload_n hx hb dX3_textFault_15 rfl (lv_at hl 3 rfl) ?_
        refine call0i (va_runS (As := [.int (σ (13 + p1) (ix (p2 + v3_2))), .int v3_2]) (rest := []) S (c_X3_goesOn l (σ (13 + p1) (ix (p2 + v3_2))) v3_2) (va_cwS 2 S.2.2.2.2 gX3_textFault_X3_goesOn rfl rfl rfl hd_X3_goesOn ⟨Nat.le_of_ble_eq_true rfl, Nat.le_of_ble_eq_true rfl⟩) pre0S rfl rfl hl.1 rfl (lv_room (Nat.le_of_ble_eq_true rfl)) dX3_textFault_16 ⟨Nat.zero_le _, Nat.zero_le _⟩) ?_
        refine lv_if_ne (tgt := 24) hx hb dX3_textFault_19 (by decide) (fun c19 => ?_) (fun c19 => ?_)
        · rw [if_neg c19] at hG
          refine lv_iinc (v := (v3_2 + 1)) (lv' := [(3, .int (v3_2 + 1)), (0, .ref (ad (9 + p1))), (1, .int p2), (2, .int p3)]) hx hb dX3_textFault_24 hl (k := 3) rfl rfl (by decide) rfl (fun ls hl => ?_)
          refine lv_goto (tgt := 2) hx hb dX3_textFault_27 (by decide) ?_
          have b3_2 : (v3_2 + 1).toInt = v3_2.toInt + 1 := inc_toInt (by omega) (by omega)
          exact ih2 _ (v3_2 + 1) (by omega) (by omega) hG hret2 hex2 ls (lv_sub hl [1, 2, 3, 0] rfl)
        · rw [if_pos c19] at hG
          refine lv_iload_n hx hb dX3_textFault_22 rfl (lv_at hl 3 rfl) ?_
          exact end0i S hr hlocks (hret2 _ hG.symm) dX3_textFault_23
  refine L2 200 _ 0 (by omega) (by omega) rfl (fun r hr2 => by rw [hr2] at hG; exact hG) (fun hr2 ls hl => ?_) ls (lv_sub hl [1, 2, 3, 0] rfl)
  rw [hr2] at hG
  dsimp only at hG
  refine lv_iload_n hx hb dX3_textFault_30 rfl (lv_at hl 0 rfl) ?_
  refine lv_bipush (v := 11) hx hb dX3_textFault_31 (by decide) ?_
  refine lv_irem hx hb dX3_textFault_33 (by decide) ?_
  refine lv_bipush (v := 10) hx hb dX3_textFault_34 (by decide) ?_
  have J36_54 : ∀ (k0_36_54 : Int32), (if k0_36_54 = 0 then p3 else (-1)) = T → ∀ ls : Array Slot, lv_has ls 4 [(2, .int p3)] → W p l e (headSpec wsX3_textFault ({ frames := 2, cells := 0, slots := 0, locals := 42 })).room s m ([.ref (ad (9 + p1)), .int p2, .int p3] : List Value).toArray below meth c s.heap [] 0 0 (MQ below (Q0i T) ([.ref (ad (9 + p1)), .int p2, .int p3] : List Value).toArray s 0 0 N0) (F0 m 54 ls [.int k0_36_54]) := by
    intro k0_36_54 hG ls hl
    refine lv_istore_n (lv' := [(3, .int k0_36_54), (2, .int p3)]) hx hb dX3_textFault_54 rfl hl (by decide) rfl (fun ls hl => ?_)
    refine lv_iload_n hx hb dX3_textFault_55 rfl (lv_at hl 0 rfl) ?_
    refine lv_if_eq (tgt := 63) hx hb dX3_textFault_56 (by decide) (fun c56 => ?_) (fun c56 => ?_)
    · have t56 : k0_36_54.toInt = 0 := qt_eq c56
      rw [if_pos c56] at hG
      refine lv_iload_n hx hb dX3_textFault_63 rfl (lv_at hl 1 rfl) ?_
      exact end0i S hr hlocks hG dX3_textFault_64
    · have t56 : k0_36_54.toInt ≠ 0 := qt_ne c56
      rw [if_neg c56] at hG
      refine lv_iconst (v := (-1)) hx hb dX3_textFault_59 (by decide) ?_
      refine lv_goto (tgt := 64) hx hb dX3_textFault_60 (by decide) ?_
      exact end0i S hr hlocks hG dX3_textFault_64
  refine lv_icmp_ne (tgt := 53) hx hb dX3_textFault_36 (by decide) (fun c36 => ?_) (fun c36 => ?_)
  · have t36 : (p3 - (p3 / 11) * 11).toInt ≠ 10 := qt_ne c36
    simp only [if_neg c36] at hG
    refine lv_iconst (v := 0) hx hb dX3_textFault_53 (by decide) ?_
    exact J36_54 0 hG ls (lv_sub hl [0] rfl)
  · have t36 : (p3 - (p3 / 11) * 11).toInt = 10 := qt_eq c36
    simp only [if_pos c36] at hG
    refine lv_iload_n hx hb dX3_textFault_39 rfl (lv_at hl 0 rfl) ?_
    refine lv_bipush (v := 11) hx hb dX3_textFault_40 (by decide) ?_
    refine lv_idiv hx hb dX3_textFault_42 (by decide) ?_
    refine lv_iconst (v := 1) hx hb dX3_textFault_43 (by decide) ?_
    refine lv_iadd hx hb dX3_textFault_44 ?_
    refine lv_iconst (v := 2) hx hb dX3_textFault_45 (by decide) ?_
    refine lv_icmp_lt (tgt := 53) hx hb dX3_textFault_46 (by decide) (fun c46 => ?_) (fun c46 => ?_)
    · have t46 : ((p3 / 11) + 1).toInt < 2 := qt_lt c46
      simp only [if_pos c46] at hG
      refine lv_iconst (v := 0) hx hb dX3_textFault_53 (by decide) ?_
      exact J36_54 0 hG ls (lv_sub hl [0] rfl)
    · have t46 : 2 ≤ ((p3 / 11) + 1).toInt := qt_nlt c46
      simp only [if_neg c46] at hG
      refine lv_iconst (v := 1) hx hb dX3_textFault_49 (by decide) ?_
      refine lv_goto (tgt := 54) hx hb dX3_textFault_50 (by decide) ?_
      exact J36_54 1 hG ls (lv_sub hl [0] rfl)
set_option maxHeartbeats 4000000 in
set_option maxRecDepth 100000 in
theorem c_X3_takeText (l : Launch) (ad : Nat → Nat) (D : va_G) (sz : Nat) (σ : St) (p1 : Nat) (p2 : Int32) (p3 : Int32) (hp1 : p1 < 4) (hb1 : 0 ≤ p2.toInt) (hb2 : 0 ≤ (p3 / 11 + 1).toInt ∧ (p3 / 11 + 1).toInt ≤ 8) (hb3 : p2.toInt + 11 * (p3 / 11 + 1).toInt ≤ 91) : Met l yX3_takeText wsX3_takeText ({ frames := 1, cells := 0, slots := 0, locals := 20 }) (PreW 41 (eC ad) ad D (tyC ad) σ sz ([.ref (ad 0), .ref (ad (9 + p1)), .int p2, .int p3] : List Value)) (QWv 41 (eC ad) ad D (f_X3_takeText σ p1 p2 p3) (CA 41 ad sz)) 0 0 (CA 41 ad sz) := by
  generalize hG : f_X3_takeText σ p1 p2 p3 = T
  refine headW (cc := cX3_takeText) (maxL := 8) (ret := none) ([.ref (ad 0), .ref (ad (9 + p1)), .int p2, .int p3] : List Value) (by decide) rfl (Nat.le_of_ble_eq_true rfl) ?_
  intro p e s m below meth c S hr hlocks hK hN hsz w ls hl
  have S : CallFix p m c cX3_takeText 8 s ([.ref (ad 0), .ref (ad (9 + p1)), .int p2, .int p3] : List Value).toArray wsX3_takeText RX3 := S
  have hx := S.1
  have hb := S.2.1
  have z0 : (0 : Int32).toInt = 0 := by decide
  have z1 : (1 : Int32).toInt = 1 := by decide
  have hl : lv_has ls 8 [(0, .ref (ad 0)), (1, .ref (ad (9 + p1))), (2, .int p2), (3, .int p3)] := hl
  have hinX3 : ∀ w ∈ wsX30, w ∈ wsX3_takeText := (fun _ h => List.mem_cons_of_mem _ (List.mem_append_left _ (List.mem_append_left _ (List.mem_append_right _ h))))
  have hinX1 : ∀ w ∈ wsX10, w ∈ wsX3_takeText := (fun _ h => List.mem_cons_of_mem _ (List.mem_append_left _ (List.mem_append_right _ h)))
  have hinX2 : ∀ w ∈ wsX20, w ∈ wsX3_takeText := (fun _ h => List.mem_cons_of_mem _ (List.mem_append_right _ h))
  rw [f_X3_takeText] at hG
  refine lv_aload_n hx hb dX3_takeText_0 rfl (lv_at hl 0 rfl) ?_
  refine lv_iload_n hx hb dX3_takeText_1 rfl (lv_at hl 3 rfl) ?_
  refine lv_bipush (v := 11) hx hb dX3_takeText_2 (by decide) ?_
  refine lv_idiv hx hb dX3_takeText_4 (by decide) ?_
  refine lv_iconst (v := 1) hx hb dX3_takeText_5 (by decide) ?_
  refine lv_iadd hx hb dX3_takeText_6 ?_
  refine r_put (C := RX3) (T := TX3) (N := 14) S hK w (k := 0) (by decide) (eC_0 ad _) rfl hinX3 tyX3 tyX3_ok nmX3 4 (by decide) (List.mem_of_getElem? (i := 1) rfl) rfl (x := ((p3 / 11) + 1)) (ty := .int) (by decide +kernel) rfl rfl (by show _ < List.length _; exact Nat.le_of_ble_eq_true rfl) (sO ad _ _ 4 (by decide)) dX3_takeText_7 (fun H locs w => ?_)
  refine lv_iconst (v := 0) hx hb dX3_takeText_10 (by decide) ?_
  refine lv_istore (lv' := [(4, .int 0), (0, .ref (ad 0)), (1, .ref (ad (9 + p1))), (2, .int p2), (3, .int p3)]) hx hb dX3_takeText_11 hl (by decide) rfl (fun ls hl => ?_)
  have L13 : ∀ (n : Nat) (res13 : St), ∀ (v4_13 : Int32), ∀ (S_13 : St), ((0 ≤ v4_13.toInt ∧ v4_13.toInt ≤ 8) ∧ (S_13 0 4 = p3 / 11 + 1)) → (8 - v4_13.toInt).toNat < n → (lp_X3_takeText_13 p1 p2 n v4_13 S_13) = res13 → (∀ (S_13e : St), res13 = S_13e → ∀ (H : Heap) (locs : List Loc), CW 41 (eC ad) ad D (CA 41 ad sz) s.heap S_13e H locs → ∀ ls : Array Slot, lv_has ls 8 [(0, .ref (ad 0))] → W p l e (headSpec wsX3_takeText ({ frames := 1, cells := 0, slots := 0, locals := 20 })).room s m ([.ref (ad 0), .ref (ad (9 + p1)), .int p2, .int p3] : List Value).toArray below meth c H locs 0 0 (MQ below (QWv 41 (eC ad) ad D T (CA 41 ad sz)) ([.ref (ad 0), .ref (ad (9 + p1)), .int p2, .int p3] : List Value).toArray s 0 0 (CA 41 ad sz)) (F0 m 133 ls [])) → ∀ (H : Heap) (locs : List Loc), CW 41 (eC ad) ad D (CA 41 ad sz) s.heap S_13 H locs → ∀ ls : Array Slot, lv_has ls 8 [(0, .ref (ad 0)), (1, .ref (ad (9 + p1))), (2, .int p2), (4, .int v4_13)] → W p l e (headSpec wsX3_takeText ({ frames := 1, cells := 0, slots := 0, locals := 20 })).room s m ([.ref (ad 0), .ref (ad (9 + p1)), .int p2, .int p3] : List Value).toArray below meth c H locs 0 0 (MQ below (QWv 41 (eC ad) ad D T (CA 41 ad sz)) ([.ref (ad 0), .ref (ad (9 + p1)), .int p2, .int p3] : List Value).toArray s 0 0 (CA 41 ad sz)) (F0 m 13 ls []) := by
    intro n
    induction n with
    | zero => intro _ _ _ _ hm; exact absurd hm (Nat.not_lt_zero _)
    | succ n ih13 =>
      intro res13 v4_13 S_13 hI13 hm13 hG hex13 H locs w ls hl
      obtain ⟨i13_0, i13_1⟩ := id hI13
      rw [lp_X3_takeText_13] at hG
      have q13 : (S_13 0 4).toInt = (p3 / 11 + 1).toInt := by rw [i13_1]
      refine lv_iload hx hb dX3_takeText_13 (lv_at hl 3 rfl) ?_
      refine lv_aload_n hx hb dX3_takeText_15 rfl (lv_at hl 0 rfl) ?_
      refine r_get (C := RX3) (T := TX3) (N := 14) S hK w (k := 0) (by decide) (eC_0 ad _) rfl hinX3 4 (by decide) (List.mem_of_getElem? (i := 1) rfl) rfl dX3_takeText_16 ?_
      refine lv_icmp_ge (tgt := 133) hx hb dX3_takeText_19 (by decide) (fun c19 => ?_) (fun c19 => ?_)
      · have t19 : (S_13 0 4).toInt ≤ v4_13.toInt := qt_le c19
        rw [if_pos c19] at hG
        exact hex13 S_13 hG.symm _ _ w ls (lv_sub hl [0] rfl)
      · have t19 : v4_13.toInt < (S_13 0 4).toInt := qt_nle c19
        rw [if_neg c19] at hG
        refine lv_iload_n hx hb dX3_takeText_22 rfl (lv_at hl 2 rfl) ?_
        refine lv_iload hx hb dX3_takeText_23 (lv_at hl 3 rfl) ?_
        refine lv_bipush (v := 11) hx hb dX3_takeText_25 (by decide) ?_
        refine lv_imul hx hb dX3_takeText_27 ?_
        refine lv_iadd hx hb dX3_takeText_28 ?_
        refine lv_istore (lv' := [(5, .int (p2 + (v4_13 * 11))), (0, .ref (ad 0)), (1, .ref (ad (9 + p1))), (2, .int p2), (4, .int v4_13)]) hx hb dX3_takeText_29 hl (by decide) rfl (fun ls hl => ?_)
        refine lv_aload_n hx hb dX3_takeText_31 rfl (lv_at hl 1 rfl) ?_
        refine r_get (C := RX3) (T := TX3) (N := 14) S hK w (k := 0) (by decide) (eC_0 ad _) rfl hinX3 1 (by decide) (List.mem_of_getElem? (i := 2) rfl) rfl dX3_takeText_32 ?_
        refine lv_iload hx hb dX3_takeText_35 (lv_at hl 4 rfl) ?_
        have g37 : vp_in v4_13 8 := vpi (by omega) (by omega)
        refine r_aald S hK w (k := 2) (by decide) (eC_2 ad _) (t0 := 2) rfl g37 dX3_takeText_37 ?_
        refine lv_aload_n hx hb dX3_takeText_38 rfl (lv_at hl 2 rfl) ?_
        refine r_getN (C := RX1) (T := TX1) (N := 4) S hK hN w (k := (9 + p1)) (Nat.lt_of_lt_of_le (Nat.add_lt_add_left hp1 9) (by decide)) (eC_sh ad hp1 _) rfl hinX1 3 (by decide) 2 rfl rfl dX3_takeText_39 ?_
        refine lv_iload hx hb dX3_takeText_42 (lv_at hl 0 rfl) ?_
        have e43 := mk_toInt (a := v4_13) (k := 11) (z := 11) (by decide) (by omega) (by omega)
        have e44 := a_toInt (a := p2) (b := v4_13 * 11) (by omega) (by omega)
        have g44 : vp_in (p2 + (v4_13 * 11)) 90 := vpi (by omega) (by omega)
        refine r_iald (cA := ad 100) (N := 90) S hK w (k := (13 + p1)) (Nat.lt_of_lt_of_le (Nat.add_lt_add_left hp1 13) (by decide)) (fun f => eC_sc ad hp1 f) rfl g44 dX3_takeText_44 ?_
        refine call0i (va_runS (As := [.int (S_13 (13 + p1) (ix (p2 + (v4_13 * 11))))]) (rest := [.ref (ad (17 + (ix v4_13)))]) S (c_X3_kindOf l (S_13 (13 + p1) (ix (p2 + (v4_13 * 11))))) (va_cwS 1 S.2.2.2.2 gX3_takeText_X3_kindOf rfl rfl rfl hd_X3_kindOf ⟨Nat.le_of_ble_eq_true rfl, Nat.le_of_ble_eq_true rfl⟩) pre0S rfl rfl hl.1 rfl (lv_room (Nat.le_of_ble_eq_true rfl)) dX3_takeText_45 ⟨Nat.zero_le _, Nat.zero_le _⟩) ?_
        refine r_putN (C := RX2) (T := TX2) (N := 3) S hK hN w (k := (17 + (ix v4_13))) (Nat.lt_of_lt_of_le (Nat.add_lt_add_left (vpl g37) 17) (by decide)) (eC_sg ad (vpl g37) _) rfl hinX2 tyX2 tyX2_ok nmX2 0 (by decide) 3 rfl rfl (x := (f_X3_kindOf (S_13 (13 + p1) (ix (p2 + (v4_13 * 11)))))) (ty := .int) (by decide +kernel) rfl rfl (by show _ < List.length _; exact Nat.le_of_ble_eq_true rfl) (sSg ad (vpl g37) _ _ 0 (by decide)) dX3_takeText_48 (fun H locs w => ?_)
        refine lv_aload_n hx hb dX3_takeText_51 rfl (lv_at hl 1 rfl) ?_
        refine r_get (C := RX3) (T := TX3) (N := 14) S hK w (k := 0) (by decide) (eC_0 ad _) rfl hinX3 1 (by decide) (List.mem_of_getElem? (i := 2) rfl) rfl dX3_takeText_52 ?_
        refine lv_iload hx hb dX3_takeText_55 (lv_at hl 4 rfl) ?_
        have g57 : vp_in v4_13 8 := vpi (by omega) (by omega)
        refine r_aald S hK w (k := 2) (by decide) (eC_2 ad _) (t0 := 2) rfl g57 dX3_takeText_57 ?_
        refine lv_iconst (v := 0) hx hb dX3_takeText_58 (by decide) ?_
        refine r_putN (C := RX2) (T := TX2) (N := 3) S hK hN w (k := (17 + (ix v4_13))) (Nat.lt_of_lt_of_le (Nat.add_lt_add_left (vpl g57) 17) (by decide)) (eC_sg ad (vpl g57) _) rfl hinX2 tyX2 tyX2_ok nmX2 1 (by decide) 4 rfl rfl (x := 0) (ty := .int) (by decide +kernel) rfl rfl (by show _ < List.length _; exact Nat.le_of_ble_eq_true rfl) (sSg ad (vpl g57) _ _ 1 (by decide)) dX3_takeText_59 (fun H locs w => ?_)
        refine lv_iconst (v := 0) hx hb dX3_takeText_62 (by decide) ?_
        refine lv_istore (lv' := [(6, .int 0), (5, .int (p2 + (v4_13 * 11))), (0, .ref (ad 0)), (1, .ref (ad (9 + p1))), (2, .int p2), (4, .int v4_13)]) hx hb dX3_takeText_63 hl (by decide) rfl (fun ls hl => ?_)
        have L65 : ∀ (n : Nat) (res65 : St), ∀ (v6_65 : Int32), ∀ (S_65 : St), ((0 ≤ v6_65.toInt ∧ v6_65.toInt ≤ 9) ∧ (S_65 0 4 = p3 / 11 + 1)) → (9 - v6_65.toInt).toNat < n → (lp_X3_takeText_65 p1 p2 v4_13 (p2 + (v4_13 * 11)) n v6_65 S_65) = res65 → (∀ (S_65e : St), (S_65e 0 4 = p3 / 11 + 1) → res65 = S_65e → ∀ (H : Heap) (locs : List Loc), CW 41 (eC ad) ad D (CA 41 ad sz) s.heap S_65e H locs → ∀ ls : Array Slot, lv_has ls 8 [(0, .ref (ad 0)), (1, .ref (ad (9 + p1))), (2, .int p2), (4, .int v4_13)] → W p l e (headSpec wsX3_takeText ({ frames := 1, cells := 0, slots := 0, locals := 20 })).room s m ([.ref (ad 0), .ref (ad (9 + p1)), .int p2, .int p3] : List Value).toArray below meth c H locs 0 0 (MQ below (QWv 41 (eC ad) ad D T (CA 41 ad sz)) ([.ref (ad 0), .ref (ad (9 + p1)), .int p2, .int p3] : List Value).toArray s 0 0 (CA 41 ad sz)) (F0 m 127 ls [])) → ∀ (H : Heap) (locs : List Loc), CW 41 (eC ad) ad D (CA 41 ad sz) s.heap S_65 H locs → ∀ ls : Array Slot, lv_has ls 8 [(0, .ref (ad 0)), (1, .ref (ad (9 + p1))), (2, .int p2), (4, .int v4_13), (5, .int (p2 + (v4_13 * 11))), (6, .int v6_65)] → W p l e (headSpec wsX3_takeText ({ frames := 1, cells := 0, slots := 0, locals := 20 })).room s m ([.ref (ad 0), .ref (ad (9 + p1)), .int p2, .int p3] : List Value).toArray below meth c H locs 0 0 (MQ below (QWv 41 (eC ad) ad D T (CA 41 ad sz)) ([.ref (ad 0), .ref (ad (9 + p1)), .int p2, .int p3] : List Value).toArray s 0 0 (CA 41 ad sz)) (F0 m 65 ls []) := by
          intro n
          induction n with
          | zero => intro _ _ _ _ hm; exact absurd hm (Nat.not_lt_zero _)
          | succ n ih65 =>
            intro res65 v6_65 S_65 hI65 hm65 hG hex65 H locs w ls hl
            obtain ⟨i65_0, i65_1⟩ := id hI65
            rw [lp_X3_takeText_65] at hG
            refine lv_iload hx hb dX3_takeText_65 (lv_at hl 5 rfl) ?_
            refine lv_bipush (v := 9) hx hb dX3_takeText_67 (by decide) ?_
            refine lv_icmp_ge (tgt := 127) hx hb dX3_takeText_69 (by decide) (fun c69 => ?_) (fun c69 => ?_)
            · have t69 : 9 ≤ v6_65.toInt := qt_le c69
              rw [if_pos c69] at hG
              exact hex65 S_65 i65_1 hG.symm _ _ w ls (lv_sub hl [0, 1, 2, 3] rfl)
            · have t69 : v6_65.toInt < 9 := qt_nle c69
              rw [if_neg c69] at hG
              refine lv_aload_n hx hb dX3_takeText_72 rfl (lv_at hl 1 rfl) ?_
              refine r_getN (C := RX1) (T := TX1) (N := 4) S hK hN w (k := (9 + p1)) (Nat.lt_of_lt_of_le (Nat.add_lt_add_left hp1 9) (by decide)) (eC_sh ad hp1 _) rfl hinX1 3 (by decide) 2 rfl rfl dX3_takeText_73 ?_
              refine lv_iload hx hb dX3_takeText_76 (lv_at hl 4 rfl) ?_
              refine lv_iconst (v := 1) hx hb dX3_takeText_78 (by decide) ?_
              refine lv_iadd hx hb dX3_takeText_79 ?_
              refine lv_iload hx hb dX3_takeText_80 (lv_at hl 5 rfl) ?_
              refine lv_iadd hx hb dX3_takeText_82 ?_
              have e81 := inc_toInt (a := p2 + v4_13 * 11) (by omega) (by omega)
              have e82 := a_toInt (a := p2 + v4_13 * 11 + 1) (b := v6_65) (by omega) (by omega)
              have g83 : vp_in (((p2 + (v4_13 * 11)) + 1) + v6_65) 90 := vpi (by omega) (by omega)
              refine r_iald (cA := ad 100) (N := 90) S hK w (k := (13 + p1)) (Nat.lt_of_lt_of_le (Nat.add_lt_add_left hp1 13) (by decide)) (fun f => eC_sc ad hp1 f) rfl g83 dX3_takeText_83 ?_
              refine lv_bipush (v := 48) hx hb dX3_takeText_84 (by decide) ?_
              refine lv_isub hx hb dX3_takeText_86 ?_
              refine lv_istore (lv' := [(7, .int ((S_65 (13 + p1) (ix (((p2 + (v4_13 * 11)) + 1) + v6_65))) - 48)), (0, .ref (ad 0)), (1, .ref (ad (9 + p1))), (2, .int p2), (4, .int v4_13), (5, .int (p2 + (v4_13 * 11))), (6, .int v6_65)]) hx hb dX3_takeText_87 hl (by decide) rfl (fun ls hl => ?_)
              refine lv_aload_n hx hb dX3_takeText_89 rfl (lv_at hl 1 rfl) ?_
              refine r_get (C := RX3) (T := TX3) (N := 14) S hK w (k := 0) (by decide) (eC_0 ad _) rfl hinX3 1 (by decide) (List.mem_of_getElem? (i := 2) rfl) rfl dX3_takeText_90 ?_
              refine lv_iload hx hb dX3_takeText_93 (lv_at hl 4 rfl) ?_
              have g95 : vp_in v4_13 8 := vpi (by omega) (by omega)
              refine r_aald S hK w (k := 2) (by decide) (eC_2 ad _) (t0 := 2) rfl g95 dX3_takeText_95 ?_
              refine r_getN (C := RX2) (T := TX2) (N := 3) S hK hN w (k := (17 + (ix v4_13))) (Nat.lt_of_lt_of_le (Nat.add_lt_add_left (vpl g95) 17) (by decide)) (eC_sg ad (vpl g95) _) rfl hinX2 2 (by decide) 5 rfl rfl dX3_takeText_96 ?_
              refine lv_iload hx hb dX3_takeText_99 (lv_at hl 6 rfl) ?_
              refine lv_iload hx hb dX3_takeText_101 (lv_at hl 0 rfl) ?_
              have g103 : vp_in v6_65 9 := vpi (by omega) (by omega)
              refine r_iast (cA := ad 100) (N := 9) S hK w (k := (25 + (ix v4_13))) (Nat.lt_of_lt_of_le (Nat.add_lt_add_left (vpl g95) 25) (by decide)) (fun f => eC_st ad (vpl g95) f) rfl g103 dX3_takeText_103 (fun H locs w => ?_)
              refine lv_aload_n hx hb dX3_takeText_104 rfl (lv_at hl 1 rfl) ?_
              refine r_get (C := RX3) (T := TX3) (N := 14) S hK w (k := 0) (by decide) (eC_0 ad _) rfl hinX3 1 (by decide) (List.mem_of_getElem? (i := 2) rfl) rfl dX3_takeText_105 ?_
              refine lv_iload hx hb dX3_takeText_108 (lv_at hl 4 rfl) ?_
              have g110 : vp_in v4_13 8 := vpi (by omega) (by omega)
              refine r_aald S hK w (k := 2) (by decide) (eC_2 ad _) (t0 := 2) rfl g110 dX3_takeText_110 ?_
              refine lv_dup hx hb dX3_takeText_111 rfl ?_
              refine r_getN (C := RX2) (T := TX2) (N := 3) S hK hN w (k := (17 + (ix v4_13))) (Nat.lt_of_lt_of_le (Nat.add_lt_add_left (vpl g110) 17) (by decide)) (eC_sg ad (vpl g110) _) rfl hinX2 1 (by decide) 4 rfl rfl dX3_takeText_112 ?_
              refine lv_iload hx hb dX3_takeText_115 (lv_at hl 0 rfl) ?_
              refine lv_iadd hx hb dX3_takeText_117 ?_
              refine r_putN (C := RX2) (T := TX2) (N := 3) S hK hN w (k := (17 + (ix v4_13))) (Nat.lt_of_lt_of_le (Nat.add_lt_add_left (vpl g110) 17) (by decide)) (eC_sg ad (vpl g110) _) rfl hinX2 tyX2 tyX2_ok nmX2 1 (by decide) 4 rfl rfl (x := (((u2 S_65 (25 + (ix v4_13)) (ix v6_65) ((S_65 (13 + p1) (ix (((p2 + (v4_13 * 11)) + 1) + v6_65))) - 48)) (17 + (ix v4_13)) 1) + ((S_65 (13 + p1) (ix (((p2 + (v4_13 * 11)) + 1) + v6_65))) - 48))) (ty := .int) (by decide +kernel) rfl rfl (by show _ < List.length _; exact Nat.le_of_ble_eq_true rfl) (sSg ad (vpl g110) _ _ 1 (by decide)) dX3_takeText_118 (fun H locs w => ?_)
              refine lv_iinc (v := (v6_65 + 1)) (lv' := [(6, .int (v6_65 + 1)), (7, .int ((S_65 (13 + p1) (ix (((p2 + (v4_13 * 11)) + 1) + v6_65))) - 48)), (0, .ref (ad 0)), (1, .ref (ad (9 + p1))), (2, .int p2), (4, .int v4_13), (5, .int (p2 + (v4_13 * 11)))]) hx hb dX3_takeText_121 hl (k := 6) rfl rfl (by decide) rfl (fun ls hl => ?_)
              refine lv_goto (tgt := 65) hx hb dX3_takeText_124 (by decide) ?_
              have b6_65 : (v6_65 + 1).toInt = v6_65.toInt + 1 := inc_toInt (by omega) (by omega)
              exact ih65 _ (v6_65 + 1) (u2 (u2 S_65 (25 + (ix v4_13)) (ix v6_65) ((S_65 (13 + p1) (ix (((p2 + (v4_13 * 11)) + 1) + v6_65))) - 48)) (17 + (ix v4_13)) 1 (((u2 S_65 (25 + (ix v4_13)) (ix v6_65) ((S_65 (13 + p1) (ix (((p2 + (v4_13 * 11)) + 1) + v6_65))) - 48)) (17 + (ix v4_13)) 1) + ((S_65 (13 + p1) (ix (((p2 + (v4_13 * 11)) + 1) + v6_65))) - 48))) ⟨(by omega), (by rw [u2_o (by omega), u2_o (by omega)]; exact i65_1)⟩ (by omega) hG hex65 _ _ w ls (lv_sub hl [2, 3, 4, 5, 6, 0] rfl)
        refine L65 200 _ 0 (u2 (u2 S_13 (17 + (ix v4_13)) 0 (f_X3_kindOf (S_13 (13 + p1) (ix (p2 + (v4_13 * 11)))))) (17 + (ix v4_13)) 1 0) ⟨(by omega), (by rw [u2_o (by omega), u2_o (by omega)]; exact i13_1)⟩ (by omega) rfl (fun S_65e x65_0 hr65 H locs w ls hl => ?_) _ _ w ls (lv_sub hl [2, 3, 4, 5, 1, 0] rfl)
        rw [hr65] at hG
        refine lv_iinc (v := (v4_13 + 1)) (lv' := [(4, .int (v4_13 + 1)), (0, .ref (ad 0)), (1, .ref (ad (9 + p1))), (2, .int p2)]) hx hb dX3_takeText_127 hl (k := 3) rfl rfl (by decide) rfl (fun ls hl => ?_)
        refine lv_goto (tgt := 13) hx hb dX3_takeText_130 (by decide) ?_
        have b4_13 : (v4_13 + 1).toInt = v4_13.toInt + 1 := inc_toInt (by omega) (by omega)
        exact ih13 _ (v4_13 + 1) S_65e ⟨(by omega), x65_0⟩ (by omega) hG hex13 _ _ w ls (lv_sub hl [1, 2, 3, 0] rfl)
  refine L13 200 _ 0 (u2 σ 0 4 ((p3 / 11) + 1)) ⟨(by omega), rfl⟩ (by omega) rfl (fun S_13e hr13 H locs w ls hl => ?_) _ _ w ls (lv_sub hl [1, 2, 3, 0] rfl)
  rw [hr13] at hG
  exact endWv S hr hlocks w hG dX3_takeText_133
set_option maxHeartbeats 4000000 in
set_option maxRecDepth 100000 in
theorem c_X3_startAnew (l : Launch) (ad : Nat → Nat) (D : va_G) (sz : Nat) (σ : St) : Met l yX3_startAnew wsX3_startAnew ({ frames := 1, cells := 0, slots := 0, locals := 23 }) (PreW 41 (eC ad) ad D (tyC ad) σ sz ([.ref (ad 0)] : List Value)) (QWv 41 (eC ad) ad D (f_X3_startAnew σ) (CA 41 ad sz)) 0 0 (CA 41 ad sz) := by
  generalize hG : f_X3_startAnew σ = T
  refine headW (cc := cX3_startAnew) (maxL := 1) (ret := none) ([.ref (ad 0)] : List Value) (by decide) rfl (Nat.le_of_ble_eq_true rfl) ?_
  intro p e s m below meth c S hr hlocks hK hN hsz w ls hl
  have S : CallFix p m c cX3_startAnew 1 s ([.ref (ad 0)] : List Value).toArray wsX3_startAnew RX3 := S
  have hx := S.1
  have hb := S.2.1
  have z0 : (0 : Int32).toInt = 0 := by decide
  have z1 : (1 : Int32).toInt = 1 := by decide
  have hl : lv_has ls 1 [(0, .ref (ad 0))] := hl
  have hinX3 : ∀ w ∈ wsX30, w ∈ wsX3_startAnew := (fun _ h => List.mem_cons_of_mem _ (List.mem_append_right _ h))
  rw [f_X3_startAnew] at hG
  refine lv_aload_n hx hb dX3_startAnew_0 rfl (lv_at hl 0 rfl) ?_
  refine lv_iconst (v := 0) hx hb dX3_startAnew_1 (by decide) ?_
  refine r_put (C := RX3) (T := TX3) (N := 14) S hK w (k := 0) (by decide) (eC_0 ad _) rfl hinX3 tyX3 tyX3_ok nmX3 5 (by decide) (List.mem_of_getElem? (i := 1) rfl) rfl (x := 0) (ty := .int) (by decide +kernel) rfl rfl (by show _ < List.length _; exact Nat.le_of_ble_eq_true rfl) (sO ad _ _ 5 (by decide)) dX3_startAnew_2 (fun H locs w => ?_)
  refine lv_aload_n hx hb dX3_startAnew_5 rfl (lv_at hl 0 rfl) ?_
  refine lv_iconst (v := 0) hx hb dX3_startAnew_6 (by decide) ?_
  refine r_put (C := RX3) (T := TX3) (N := 14) S hK w (k := 0) (by decide) (eC_0 ad _) rfl hinX3 tyX3 tyX3_ok nmX3 6 (by decide) (List.mem_of_getElem? (i := 2) rfl) rfl (x := 0) (ty := .int) (by decide +kernel) rfl rfl (by show _ < List.length _; exact Nat.le_of_ble_eq_true rfl) (sO ad _ _ 6 (by decide)) dX3_startAnew_7 (fun H locs w => ?_)
  refine lv_aload_n hx hb dX3_startAnew_10 rfl (lv_at hl 0 rfl) ?_
  refine lv_bipush (v := 40) hx hb dX3_startAnew_11 (by decide) ?_
  refine r_put (C := RX3) (T := TX3) (N := 14) S hK w (k := 0) (by decide) (eC_0 ad _) rfl hinX3 tyX3 tyX3_ok nmX3 7 (by decide) (List.mem_of_getElem? (i := 3) rfl) rfl (x := 40) (ty := .int) (by decide +kernel) rfl rfl (by show _ < List.length _; exact Nat.le_of_ble_eq_true rfl) (sO ad _ _ 7 (by decide)) dX3_startAnew_13 (fun H locs w => ?_)
  refine lv_aload_n hx hb dX3_startAnew_16 rfl (lv_at hl 0 rfl) ?_
  refine r_get (C := RX3) (T := TX3) (N := 14) S hK w (k := 0) (by decide) (eC_0 ad _) rfl hinX3 3 (by decide) (List.mem_of_getElem? (i := 4) rfl) rfl dX3_startAnew_17 ?_
  refine lv_iconst (v := 5) hx hb dX3_startAnew_20 (by decide) ?_
  refine callFill (cA := ad 100) (N := 9) (by decide) S hl.1 hK hN w (k := 4) (by decide) (fun f => eC_4 ad f) rfl gX3_startAnew_J7_fill_53178 (Nat.le_of_ble_eq_true rfl) (Nat.le_of_ble_eq_true rfl) dX3_startAnew_21 ⟨Nat.zero_le _, Nat.zero_le _⟩ (fun H locs w => ?_)
  refine lv_aload_n hx hb dX3_startAnew_24 rfl (lv_at hl 0 rfl) ?_
  refine r_get (C := RX3) (T := TX3) (N := 14) S hK w (k := 0) (by decide) (eC_0 ad _) rfl hinX3 13 (by decide) (List.mem_of_getElem? (i := 5) rfl) rfl dX3_startAnew_25 ?_
  refine lv_iconst (v := 0) hx hb dX3_startAnew_28 (by decide) ?_
  refine lv_iconst (v := (-1)) hx hb dX3_startAnew_29 (by decide) ?_
  have g30 : vp_in 0 5 := vpi (by decide) (by decide)
  refine r_iast (cA := ad 100) (N := 5) S hK w (k := 8) (by decide) (fun f => eC_8 ad f) rfl g30 dX3_startAnew_30 (fun H locs w => ?_)
  exact endWv S hr hlocks w hG dX3_startAnew_31
set_option maxHeartbeats 4000000 in
set_option maxRecDepth 100000 in
theorem c_X3_register (l : Launch) (ad : Nat → Nat) (D : va_G) (sz : Nat) (σ : St) (p1 : Int32) (p2 : Int32) (p3 : Int32) (p4 : Int32) (hok : OkC σ) : Met l yX3_register wsX3_register ({ frames := 3, cells := 0, slots := 0, locals := 65 }) (PreW 41 (eC ad) ad D (tyC ad) σ sz ([.ref (ad 0), .int p1, .int p2, .int p3, .int p4] : List Value)) (QWi 41 (eC ad) ad D (f_X3_register σ p1 p2 p3 p4) (CA 41 ad sz)) 0 0 (CA 41 ad sz) := by
  generalize hG : f_X3_register σ p1 p2 p3 p4 = T
  refine headW (cc := cX3_register) (maxL := 7) (ret := (some .int)) ([.ref (ad 0), .int p1, .int p2, .int p3, .int p4] : List Value) (by decide) rfl (Nat.le_of_ble_eq_true rfl) ?_
  intro p e s m below meth c S hr hlocks hK hN hsz w ls hl
  have S : CallFix p m c cX3_register 7 s ([.ref (ad 0), .int p1, .int p2, .int p3, .int p4] : List Value).toArray wsX3_register RX3 := S
  have hx := S.1
  have hb := S.2.1
  have z0 : (0 : Int32).toInt = 0 := by decide
  have z1 : (1 : Int32).toInt = 1 := by decide
  have hl : lv_has ls 7 [(0, .ref (ad 0)), (1, .int p1), (2, .int p2), (3, .int p3), (4, .int p4)] := hl
  have hinX3 : ∀ w ∈ wsX30, w ∈ wsX3_register := (fun _ h => List.mem_cons_of_mem _ (List.mem_append_left _ (List.mem_append_left _ (List.mem_append_right _ h))))
  have hinX1 : ∀ w ∈ wsX10, w ∈ wsX3_register := (fun _ h => List.mem_cons_of_mem _ (List.mem_append_left _ (List.mem_append_right _ h)))
  have hinX2 : ∀ w ∈ wsX20, w ∈ wsX3_register := (fun _ h => List.mem_cons_of_mem _ (List.mem_append_right _ h))
  have okf0 := hok.1
  have okf1 := hok.2.1
  have okf2 := hok.2.2.1
  have okf3 := hok.2.2.2.1
  have okf4 := hok.2.2.2.2.1
  have okf5 := hok.2.2.2.2.2
  rw [f_X3_register] at hG
  refine lv_aload_n hx hb dX3_register_0 rfl (lv_at hl 0 rfl) ?_
  refine lv_iload_n hx hb dX3_register_1 rfl (lv_at hl 1 rfl) ?_
  refine lv_iload_n hx hb dX3_register_2 rfl (lv_at hl 2 rfl) ?_
  refine lv_iload_n hx hb dX3_register_3 rfl (lv_at hl 3 rfl) ?_
  refine lv_iload hx hb dX3_register_4 (lv_at hl 4 rfl) ?_
  refine lv_i2l hx hb dX3_register_6 rfl ?_
  have ok3 := okf3
  refine callWi w (va_runV (As := [.int p1, .int p2, .int p3, .long p4.toInt64]) (rest := []) S (c_X3_spanRefusal l ad D s.heap.size σ p1 p2 p3 p4.toInt64) (cwV 4 S.2.2.2.2 gX3_register_X3_spanRefusal rfl rfl rfl ⟨rfl, hd_X3_spanRefusal⟩ ⟨Nat.le_of_ble_eq_true rfl, Nat.le_of_ble_eq_true rfl⟩) (preV hK hN w (k := 0) (by decide) (eC_0 ad _) (q := (RX3, TX3, 14)) rfl) rfl rfl hl.1 rfl (lv_room (Nat.le_of_ble_eq_true rfl)) dX3_register_7 ⟨Nat.zero_le _, Nat.zero_le _⟩) (fun H locs w => ?_)
  have hok : OkC ((f_X3_spanRefusal σ p1 p2 p3 p4.toInt64).2) := ok_X3_spanRefusal hok
  have okf0 := hok.1
  have okf1 := hok.2.1
  have okf2 := hok.2.2.1
  have okf3 := hok.2.2.2.1
  have okf4 := hok.2.2.2.2.1
  have okf5 := hok.2.2.2.2.2
  refine lv_istore (lv' := [(5, .int ((f_X3_spanRefusal σ p1 p2 p3 p4.toInt64).1)), (0, .ref (ad 0)), (1, .int p1), (2, .int p2), (3, .int p3), (4, .int p4)]) hx hb dX3_register_10 hl (by decide) rfl (fun ls hl => ?_)
  refine lv_iload hx hb dX3_register_12 (lv_at hl 0 rfl) ?_
  refine lv_if_eq (tgt := 20) hx hb dX3_register_14 (by decide) (fun c14 => ?_) (fun c14 => ?_)
  · have t14 : ((f_X3_spanRefusal σ p1 p2 p3 p4.toInt64).1).toInt = 0 := qt_eq c14
    rw [if_pos c14] at hG
    have z := sp_z c14
    have zl : p4.toInt64.toInt = p4.toInt := Int32.toInt_toInt64 p4
    have zb : p4.toInt < 2147483648 := Int32.toInt_lt p4
    have z3 := ok3 (ix p1) (vpl (vpi (by omega) (by omega)))
    refine lv_aload_n hx hb dX3_register_20 rfl (lv_at hl 1 rfl) ?_
    refine r_get (C := RX3) (T := TX3) (N := 14) S hK w (k := 0) (by decide) (eC_0 ad _) rfl hinX3 0 (by decide) (List.mem_of_getElem? (i := 1) rfl) rfl dX3_register_21 ?_
    refine lv_iload_n hx hb dX3_register_24 rfl (lv_at hl 2 rfl) ?_
    have g25 : vp_in p1 4 := vpi (by omega) (by omega)
    refine r_aald S hK w (k := 1) (by decide) (eC_1 ad _) (t0 := 1) rfl g25 dX3_register_25 ?_
    refine lv_iload_n hx hb dX3_register_26 rfl (lv_at hl 4 rfl) ?_
    refine lv_iload hx hb dX3_register_27 (lv_at hl 5 rfl) ?_
    refine call0i (va_runS (As := [.ref (ad (9 + (ix p1))), .int p3, .int p4]) (rest := []) S (c_X3_textFault l ad D H.size ((f_X3_spanRefusal σ p1 p2 p3 p4.toInt64).2) (ix p1) p3 p4 (vpl g25) (by omega) (by omega) (by omega)) (va_cwS 3 S.2.2.2.2 gX3_register_X3_textFault rfl rfl rfl hd_X3_textFault ⟨Nat.le_of_ble_eq_true rfl, Nat.le_of_ble_eq_true rfl⟩) (preS hK hN w) rfl rfl hl.1 rfl (lv_room (Nat.le_of_ble_eq_true rfl)) dX3_register_29 ⟨Nat.zero_le _, Nat.zero_le _⟩) ?_
    refine lv_istore (lv' := [(6, .int (f_X3_textFault ((f_X3_spanRefusal σ p1 p2 p3 p4.toInt64).2) (ix p1) p3 p4)), (5, .int ((f_X3_spanRefusal σ p1 p2 p3 p4.toInt64).1)), (0, .ref (ad 0)), (1, .int p1), (2, .int p2), (3, .int p3), (4, .int p4)]) hx hb dX3_register_32 hl (by decide) rfl (fun ls hl => ?_)
    refine lv_iload hx hb dX3_register_34 (lv_at hl 0 rfl) ?_
    refine lv_if_lt (tgt := 45) hx hb dX3_register_36 (by decide) (fun c36 => ?_) (fun c36 => ?_)
    · have t36 : (f_X3_textFault ((f_X3_spanRefusal σ p1 p2 p3 p4.toInt64).2) (ix p1) p3 p4).toInt < 0 := qt_lt c36
      rw [if_pos c36] at hG
      have zt := tf_neg (by omega) (by omega) t36
      refine lv_aload_n hx hb dX3_register_45 rfl (lv_at hl 2 rfl) ?_
      refine lv_aload_n hx hb dX3_register_46 rfl (lv_at hl 2 rfl) ?_
      refine r_get (C := RX3) (T := TX3) (N := 14) S hK w (k := 0) (by decide) (eC_0 ad _) rfl hinX3 0 (by decide) (List.mem_of_getElem? (i := 1) rfl) rfl dX3_register_47 ?_
      refine lv_iload_n hx hb dX3_register_50 rfl (lv_at hl 3 rfl) ?_
      have g51 : vp_in p1 4 := vpi (by omega) (by omega)
      refine r_aald S hK w (k := 1) (by decide) (eC_1 ad _) (t0 := 1) rfl g51 dX3_register_51 ?_
      refine lv_iload_n hx hb dX3_register_52 rfl (lv_at hl 5 rfl) ?_
      refine lv_iload hx hb dX3_register_53 (lv_at hl 6 rfl) ?_
      refine callWv w (va_runV (As := [.ref (ad (9 + (ix p1))), .int p3, .int p4]) (rest := []) S (c_X3_takeText l ad D H.size ((f_X3_spanRefusal σ p1 p2 p3 p4.toInt64).2) (ix p1) p3 p4 (vpl g51) (by omega) zt.1 (by have := zt.2; omega)) (cwV 3 S.2.2.2.2 gX3_register_X3_takeText rfl rfl rfl ⟨rfl, hd_X3_takeText⟩ ⟨Nat.le_of_ble_eq_true rfl, Nat.le_of_ble_eq_true rfl⟩) (preV hK hN w (k := 0) (by decide) (eC_0 ad _) (q := (RX3, TX3, 14)) rfl) rfl rfl hl.1 rfl (lv_room (Nat.le_of_ble_eq_true rfl)) dX3_register_55 ⟨Nat.zero_le _, Nat.zero_le _⟩) (fun H locs w => ?_)
      refine lv_aload_n hx hb dX3_register_58 rfl (lv_at hl 2 rfl) ?_
      refine callWv w (va_runV (As := []) (rest := []) S (c_X3_startAnew l ad D H.size (f_X3_takeText ((f_X3_spanRefusal σ p1 p2 p3 p4.toInt64).2) (ix p1) p3 p4)) (cwV 0 S.2.2.2.2 gX3_register_X3_startAnew rfl rfl rfl ⟨rfl, hd_X3_startAnew⟩ ⟨Nat.le_of_ble_eq_true rfl, Nat.le_of_ble_eq_true rfl⟩) (preV hK hN w (k := 0) (by decide) (eC_0 ad _) (q := (RX3, TX3, 14)) rfl) rfl rfl hl.1 rfl (lv_room (Nat.le_of_ble_eq_true rfl)) dX3_register_59 ⟨Nat.zero_le _, Nat.zero_le _⟩) (fun H locs w => ?_)
      refine lv_aload_n hx hb dX3_register_62 rfl (lv_at hl 2 rfl) ?_
      refine r_get (C := RX3) (T := TX3) (N := 14) S hK w (k := 0) (by decide) (eC_0 ad _) rfl hinX3 4 (by decide) (List.mem_of_getElem? (i := 2) rfl) rfl dX3_register_63 ?_
      exact endWi S hr hlocks w hG dX3_register_66
    · have t36 : 0 ≤ (f_X3_textFault ((f_X3_spanRefusal σ p1 p2 p3 p4.toInt64).2) (ix p1) p3 p4).toInt := qt_nlt c36
      rw [if_neg c36] at hG
      refine lv_bipush (v := (-100)) hx hb dX3_register_39 (by decide) ?_
      refine lv_iload hx hb dX3_register_41 (lv_at hl 0 rfl) ?_
      refine lv_isub hx hb dX3_register_43 ?_
      exact endWi S hr hlocks w hG dX3_register_44
  · have t14 : ((f_X3_spanRefusal σ p1 p2 p3 p4.toInt64).1).toInt ≠ 0 := qt_ne c14
    rw [if_neg c14] at hG
    refine lv_iload hx hb dX3_register_17 (lv_at hl 0 rfl) ?_
    exact endWi S hr hlocks w hG dX3_register_19
set_option maxHeartbeats 4000000 in
set_option maxRecDepth 100000 in
theorem c_X3_isSmell (l : Launch) (p1 : Int32) : Met l yX3_isSmell wsX3_isSmell ({ frames := 0, cells := 0, slots := 0, locals := 0 }) (Pre0 ([.int p1] : List Value)) (Q0i (f_X3_isSmell p1)) 0 0 N0 := by
  generalize hG : f_X3_isSmell p1 = T
  refine head0 (cc := cX3_isSmell) (maxL := 1) (ret := (some .boolean)) ([.int p1] : List Value) (by decide) rfl (Nat.le_of_ble_eq_true rfl) ?_
  intro p e s m below meth c S hr hlocks ls hl
  have S : CallFix p m c cX3_isSmell 1 s ([.int p1] : List Value).toArray wsX3_isSmell RX3 := S
  have hx := S.1
  have hb := S.2.1
  have z0 : (0 : Int32).toInt = 0 := by decide
  have z1 : (1 : Int32).toInt = 1 := by decide
  have hl : lv_has ls 1 [(0, .int p1)] := hl
  rw [f_X3_isSmell] at hG
  refine lv_iload_n hx hb dX3_isSmell_0 rfl (lv_at hl 0 rfl) ?_
  refine lv_if_lt (tgt := 14) hx hb dX3_isSmell_1 (by decide) (fun c1 => ?_) (fun c1 => ?_)
  · have t1 : p1.toInt < 0 := qt_lt c1
    rw [if_pos c1] at hG
    refine lv_iconst (v := 0) hx hb dX3_isSmell_14 (by decide) ?_
    exact end0z S hr hlocks (Or.inl rfl) hG dX3_isSmell_15
  · have t1 : 0 ≤ p1.toInt := qt_nlt c1
    rw [if_neg c1] at hG
    refine lv_iload_n hx hb dX3_isSmell_4 rfl (lv_at hl 0 rfl) ?_
    refine lv_bipush (v := 9) hx hb dX3_isSmell_5 (by decide) ?_
    refine lv_icmp_ge (tgt := 14) hx hb dX3_isSmell_7 (by decide) (fun c7 => ?_) (fun c7 => ?_)
    · have t7 : 9 ≤ p1.toInt := qt_le c7
      rw [if_pos c7] at hG
      refine lv_iconst (v := 0) hx hb dX3_isSmell_14 (by decide) ?_
      exact end0z S hr hlocks (Or.inl rfl) hG dX3_isSmell_15
    · have t7 : p1.toInt < 9 := qt_nle c7
      rw [if_neg c7] at hG
      refine lv_iconst (v := 1) hx hb dX3_isSmell_10 (by decide) ?_
      refine lv_goto (tgt := 15) hx hb dX3_isSmell_11 (by decide) ?_
      exact end0z S hr hlocks (Or.inr rfl) hG dX3_isSmell_15
set_option maxHeartbeats 4000000 in
set_option maxRecDepth 100000 in
theorem c_X3_half (l : Launch) (ad : Nat → Nat) (D : va_G) (sz : Nat) (σ : St) (p1 : Int32) (p2 : Int32) : Met l yX3_half wsX3_half ({ frames := 1, cells := 0, slots := 0, locals := 20 }) (PreW 41 (eC ad) ad D (tyC ad) σ sz ([.ref (ad 0), .int p1, .int p2] : List Value)) (QWi 41 (eC ad) ad D (f_X3_half σ p1 p2) (CA 41 ad sz)) 0 0 (CA 41 ad sz) := by
  generalize hG : f_X3_half σ p1 p2 = T
  refine headW (cc := cX3_half) (maxL := 4) (ret := (some .int)) ([.ref (ad 0), .int p1, .int p2] : List Value) (by decide) rfl (Nat.le_of_ble_eq_true rfl) ?_
  intro p e s m below meth c S hr hlocks hK hN hsz w ls hl
  have S : CallFix p m c cX3_half 4 s ([.ref (ad 0), .int p1, .int p2] : List Value).toArray wsX3_half RX3 := S
  have hx := S.1
  have hb := S.2.1
  have z0 : (0 : Int32).toInt = 0 := by decide
  have z1 : (1 : Int32).toInt = 1 := by decide
  have hl : lv_has ls 4 [(0, .ref (ad 0)), (1, .int p1), (2, .int p2)] := hl
  have hinX3 : ∀ w ∈ wsX30, w ∈ wsX3_half := (fun _ h => List.mem_cons_of_mem _ (List.mem_append_right _ h))
  rw [f_X3_half] at hG
  refine lv_iload_n hx hb dX3_half_0 rfl (lv_at hl 1 rfl) ?_
  refine call0i (va_runS (As := [.int p1]) (rest := []) S (c_X3_isSmell l p1) (va_cwS 1 S.2.2.2.2 gX3_half_X3_isSmell rfl rfl rfl hd_X3_isSmell ⟨Nat.le_of_ble_eq_true rfl, Nat.le_of_ble_eq_true rfl⟩) pre0S rfl rfl hl.1 rfl (lv_room (Nat.le_of_ble_eq_true rfl)) dX3_half_1 ⟨Nat.zero_le _, Nat.zero_le _⟩) ?_
  refine lv_if_ne (tgt := 9) hx hb dX3_half_4 (by decide) (fun c4 => ?_) (fun c4 => ?_)
  · have t4 := bf_isSmell_n c4
    rw [if_neg c4] at hG
    refine lv_iload_n hx hb dX3_half_9 rfl (lv_at hl 2 rfl) ?_
    refine lv_iconst (v := 1) hx hb dX3_half_10 (by decide) ?_
    refine lv_icmp_lt (tgt := 20) hx hb dX3_half_11 (by decide) (fun c11 => ?_) (fun c11 => ?_)
    · have t11 : p2.toInt < 1 := qt_lt c11
      rw [if_pos c11] at hG
      refine lv_bipush (v := (-2)) hx hb dX3_half_20 (by decide) ?_
      exact endWi S hr hlocks w hG dX3_half_22
    · have t11 : 1 ≤ p2.toInt := qt_nlt c11
      rw [if_neg c11] at hG
      refine lv_iload_n hx hb dX3_half_14 rfl (lv_at hl 2 rfl) ?_
      refine lv_bipush (v := 9) hx hb dX3_half_15 (by decide) ?_
      refine lv_icmp_le (tgt := 23) hx hb dX3_half_17 (by decide) (fun c17 => ?_) (fun c17 => ?_)
      · have t17 : p2.toInt ≤ 9 := qt_le c17
        rw [if_pos c17] at hG
        refine lv_aload_n hx hb dX3_half_23 rfl (lv_at hl 0 rfl) ?_
        refine r_get (C := RX3) (T := TX3) (N := 14) S hK w (k := 0) (by decide) (eC_0 ad _) rfl hinX3 4 (by decide) (List.mem_of_getElem? (i := 1) rfl) rfl dX3_half_24 ?_
        refine lv_if_ne (tgt := 33) hx hb dX3_half_27 (by decide) (fun c27 => ?_) (fun c27 => ?_)
        · have t27 : (σ 0 4).toInt ≠ 0 := qt_ne c27
          rw [if_neg c27] at hG
          refine lv_aload_n hx hb dX3_half_33 rfl (lv_at hl 0 rfl) ?_
          refine r_get (C := RX3) (T := TX3) (N := 14) S hK w (k := 0) (by decide) (eC_0 ad _) rfl hinX3 3 (by decide) (List.mem_of_getElem? (i := 2) rfl) rfl dX3_half_34 ?_
          refine lv_iload_n hx hb dX3_half_37 rfl (lv_at hl 1 rfl) ?_
          have g38 : vp_in p1 9 := vpi (by omega) (by omega)
          refine r_iald (cA := ad 100) (N := 9) S hK w (k := 4) (by decide) (fun f => eC_4 ad f) rfl g38 dX3_half_38 ?_
          refine lv_istore_n (lv' := [(3, .int (σ 4 (ix p1))), (0, .ref (ad 0)), (1, .int p1), (2, .int p2)]) hx hb dX3_half_39 rfl hl (by decide) rfl (fun ls hl => ?_)
          refine lv_aload_n hx hb dX3_half_40 rfl (lv_at hl 1 rfl) ?_
          refine r_get (C := RX3) (T := TX3) (N := 14) S hK w (k := 0) (by decide) (eC_0 ad _) rfl hinX3 3 (by decide) (List.mem_of_getElem? (i := 2) rfl) rfl dX3_half_41 ?_
          refine lv_iload_n hx hb dX3_half_44 rfl (lv_at hl 2 rfl) ?_
          refine lv_iload_n hx hb dX3_half_45 rfl (lv_at hl 3 rfl) ?_
          have g46 : vp_in p1 9 := vpi (by omega) (by omega)
          refine r_iast (cA := ad 100) (N := 9) S hK w (k := 4) (by decide) (fun f => eC_4 ad f) rfl g46 dX3_half_46 (fun H locs w => ?_)
          refine lv_iload_n hx hb dX3_half_47 rfl (lv_at hl 0 rfl) ?_
          exact endWi S hr hlocks w hG dX3_half_48
        · have t27 : (σ 0 4).toInt = 0 := qt_eq c27
          rw [if_pos c27] at hG
          refine lv_bipush (v := (-3)) hx hb dX3_half_30 (by decide) ?_
          exact endWi S hr hlocks w hG dX3_half_32
      · have t17 : 9 < p2.toInt := qt_nle c17
        rw [if_neg c17] at hG
        refine lv_bipush (v := (-2)) hx hb dX3_half_20 (by decide) ?_
        exact endWi S hr hlocks w hG dX3_half_22
  · rw [if_pos c4] at hG
    refine lv_iconst (v := (-1)) hx hb dX3_half_7 (by decide) ?_
    exact endWi S hr hlocks w hG dX3_half_8
set_option maxHeartbeats 4000000 in
set_option maxRecDepth 100000 in
theorem c_X3_bound (l : Launch) (ad : Nat → Nat) (D : va_G) (sz : Nat) (σ : St) (p1 : Int32) : Met l yX3_bound wsX3_bound ({ frames := 0, cells := 0, slots := 0, locals := 0 }) (PreW 41 (eC ad) ad D (tyC ad) σ sz ([.ref (ad 0), .int p1] : List Value)) (QWi 41 (eC ad) ad D (f_X3_bound σ p1) (CA 41 ad sz)) 0 0 (CA 41 ad sz) := by
  generalize hG : f_X3_bound σ p1 = T
  refine headW (cc := cX3_bound) (maxL := 3) (ret := (some .int)) ([.ref (ad 0), .int p1] : List Value) (by decide) rfl (Nat.le_of_ble_eq_true rfl) ?_
  intro p e s m below meth c S hr hlocks hK hN hsz w ls hl
  have S : CallFix p m c cX3_bound 3 s ([.ref (ad 0), .int p1] : List Value).toArray wsX3_bound RX3 := S
  have hx := S.1
  have hb := S.2.1
  have z0 : (0 : Int32).toInt = 0 := by decide
  have z1 : (1 : Int32).toInt = 1 := by decide
  have hl : lv_has ls 3 [(0, .ref (ad 0)), (1, .int p1)] := hl
  have hinX3 : ∀ w ∈ wsX30, w ∈ wsX3_bound := (fun _ h => List.mem_cons_of_mem _ (List.mem_append_right _ h))
  rw [f_X3_bound] at hG
  refine lv_iload_n hx hb dX3_bound_0 rfl (lv_at hl 1 rfl) ?_
  refine lv_if_lt (tgt := 11) hx hb dX3_bound_1 (by decide) (fun c1 => ?_) (fun c1 => ?_)
  · have t1 : p1.toInt < 0 := qt_lt c1
    rw [if_pos c1] at hG
    refine lv_bipush (v := (-2)) hx hb dX3_bound_11 (by decide) ?_
    exact endWi S hr hlocks w hG dX3_bound_13
  · have t1 : 0 ≤ p1.toInt := qt_nlt c1
    rw [if_neg c1] at hG
    refine lv_iload_n hx hb dX3_bound_4 rfl (lv_at hl 1 rfl) ?_
    refine lv_sipush (v := 999) hx hb dX3_bound_5 (by decide) ?_
    refine lv_icmp_le (tgt := 14) hx hb dX3_bound_8 (by decide) (fun c8 => ?_) (fun c8 => ?_)
    · have t8 : p1.toInt ≤ 999 := qt_le c8
      rw [if_pos c8] at hG
      refine lv_aload_n hx hb dX3_bound_14 rfl (lv_at hl 0 rfl) ?_
      refine r_get (C := RX3) (T := TX3) (N := 14) S hK w (k := 0) (by decide) (eC_0 ad _) rfl hinX3 4 (by decide) (List.mem_of_getElem? (i := 1) rfl) rfl dX3_bound_15 ?_
      refine lv_if_ne (tgt := 24) hx hb dX3_bound_18 (by decide) (fun c18 => ?_) (fun c18 => ?_)
      · have t18 : (σ 0 4).toInt ≠ 0 := qt_ne c18
        rw [if_neg c18] at hG
        refine lv_aload_n hx hb dX3_bound_24 rfl (lv_at hl 0 rfl) ?_
        refine r_get (C := RX3) (T := TX3) (N := 14) S hK w (k := 0) (by decide) (eC_0 ad _) rfl hinX3 7 (by decide) (List.mem_of_getElem? (i := 2) rfl) rfl dX3_bound_25 ?_
        refine lv_istore_n (lv' := [(2, .int (σ 0 7)), (0, .ref (ad 0)), (1, .int p1)]) hx hb dX3_bound_28 rfl hl (by decide) rfl (fun ls hl => ?_)
        refine lv_aload_n hx hb dX3_bound_29 rfl (lv_at hl 1 rfl) ?_
        refine lv_iload_n hx hb dX3_bound_30 rfl (lv_at hl 2 rfl) ?_
        refine r_put (C := RX3) (T := TX3) (N := 14) S hK w (k := 0) (by decide) (eC_0 ad _) rfl hinX3 tyX3 tyX3_ok nmX3 7 (by decide) (List.mem_of_getElem? (i := 2) rfl) rfl (x := p1) (ty := .int) (by decide +kernel) rfl rfl (by show _ < List.length _; exact Nat.le_of_ble_eq_true rfl) (sO ad _ _ 7 (by decide)) dX3_bound_31 (fun H locs w => ?_)
        refine lv_iload_n hx hb dX3_bound_34 rfl (lv_at hl 0 rfl) ?_
        exact endWi S hr hlocks w hG dX3_bound_35
      · have t18 : (σ 0 4).toInt = 0 := qt_eq c18
        rw [if_pos c18] at hG
        refine lv_bipush (v := (-3)) hx hb dX3_bound_21 (by decide) ?_
        exact endWi S hr hlocks w hG dX3_bound_23
    · have t8 : 999 < p1.toInt := qt_nle c8
      rw [if_neg c8] at hG
      refine lv_bipush (v := (-2)) hx hb dX3_bound_11 (by decide) ?_
      exact endWi S hr hlocks w hG dX3_bound_13
set_option maxHeartbeats 4000000 in
set_option maxRecDepth 100000 in
theorem c_X3_fade (l : Launch) (ad : Nat → Nat) (D : va_G) (sz : Nat) (σ : St) (p1 : Nat) (p2 : Int32) (p3 : Int32) (p4 : Int32) (hok : OkC σ) (hp1 : p1 < 8) (hsm : 0 ≤ p2.toInt ∧ p2.toInt < 9) : Met l yX3_fade wsX3_fade ({ frames := 1, cells := 0, slots := 0, locals := 21 }) (PreW 41 (eC ad) ad D (tyC ad) σ sz ([.ref (ad 0), .ref (ad (17 + p1)), .int p2, .int p3, .int p4] : List Value)) (Q0i (f_X3_fade σ p1 p2 p3 p4)) 0 0 N0 := by
  generalize hG : f_X3_fade σ p1 p2 p3 p4 = T
  refine headW (cc := cX3_fade) (maxL := 8) (ret := (some .int)) ([.ref (ad 0), .ref (ad (17 + p1)), .int p2, .int p3, .int p4] : List Value) (by decide) rfl (Nat.le_of_ble_eq_true rfl) ?_
  intro p e s m below meth c S hr hlocks hK hN hsz w ls hl
  have S : CallFix p m c cX3_fade 8 s ([.ref (ad 0), .ref (ad (17 + p1)), .int p2, .int p3, .int p4] : List Value).toArray wsX3_fade RX3 := S
  have hx := S.1
  have hb := S.2.1
  have z0 : (0 : Int32).toInt = 0 := by decide
  have z1 : (1 : Int32).toInt = 1 := by decide
  have hl : lv_has ls 8 [(0, .ref (ad 0)), (1, .ref (ad (17 + p1))), (2, .int p2), (3, .int p3), (4, .int p4)] := hl
  have hinX3 : ∀ w ∈ wsX30, w ∈ wsX3_fade := (fun _ h => List.mem_cons_of_mem _ (List.mem_append_left _ (List.mem_append_right _ h)))
  have hinX2 : ∀ w ∈ wsX20, w ∈ wsX3_fade := (fun _ h => List.mem_cons_of_mem _ (List.mem_append_right _ h))
  have okf0 := hok.1
  have okf1 := hok.2.1
  have okf2 := hok.2.2.1
  have okf3 := hok.2.2.2.1
  have okf4 := hok.2.2.2.2.1
  have okf5 := hok.2.2.2.2.2
  rw [f_X3_fade] at hG
  refine lv_aload_n hx hb dX3_fade_0 rfl (lv_at hl 0 rfl) ?_
  refine r_get (C := RX3) (T := TX3) (N := 14) S hK w (k := 0) (by decide) (eC_0 ad _) rfl hinX3 3 (by decide) (List.mem_of_getElem? (i := 1) rfl) rfl dX3_fade_1 ?_
  refine lv_iload_n hx hb dX3_fade_4 rfl (lv_at hl 2 rfl) ?_
  have g5 : vp_in p2 9 := vpi (by omega) (by omega)
  refine r_iald (cA := ad 100) (N := 9) S hK w (k := 4) (by decide) (fun f => eC_4 ad f) rfl g5 dX3_fade_5 ?_
  refine lv_istore (lv' := [(5, .int (σ 4 (ix p2))), (0, .ref (ad 0)), (1, .ref (ad (17 + p1))), (2, .int p2), (3, .int p3), (4, .int p4)]) hx hb dX3_fade_6 hl (by decide) rfl (fun ls hl => ?_)
  refine lv_aload_n hx hb dX3_fade_8 rfl (lv_at hl 2 rfl) ?_
  refine r_getN (C := RX2) (T := TX2) (N := 3) S hK hN w (k := (17 + p1)) (Nat.lt_of_lt_of_le (Nat.add_lt_add_left hp1 17) (by decide)) (eC_sg ad hp1 _) rfl hinX2 0 (by decide) 3 rfl rfl dX3_fade_9 ?_
  refine lv_iconst (v := 2) hx hb dX3_fade_12 (by decide) ?_
  refine lv_icmp_eq (tgt := 22) hx hb dX3_fade_13 (by decide) (fun c13 => ?_) (fun c13 => ?_)
  · have t13 : (σ (17 + p1) 0).toInt = 2 := qt_eq c13
    rw [if_pos c13] at hG
    refine lv_iload_n hx hb dX3_fade_22 rfl (lv_at hl 4 rfl) ?_
    exact end0i S hr hlocks hG dX3_fade_23
  · have t13 : (σ (17 + p1) 0).toInt ≠ 2 := qt_ne c13
    rw [if_neg c13] at hG
    refine lv_iload hx hb dX3_fade_16 (lv_at hl 0 rfl) ?_
    refine lv_iconst (v := 1) hx hb dX3_fade_18 (by decide) ?_
    refine lv_icmp_ge (tgt := 24) hx hb dX3_fade_19 (by decide) (fun c19 => ?_) (fun c19 => ?_)
    · have t19 : 1 ≤ (σ 4 (ix p2)).toInt := qt_le c19
      rw [if_pos c19] at hG
      refine lv_iload hx hb dX3_fade_24 (lv_at hl 5 rfl) ?_
      refine lv_iload hx hb dX3_fade_26 (lv_at hl 0 rfl) ?_
      refine lv_idiv hx hb dX3_fade_28 (nz_of t19) ?_
      refine lv_istore (lv' := [(6, .int (p4 / (σ 4 (ix p2)))), (5, .int (σ 4 (ix p2))), (0, .ref (ad 0)), (1, .ref (ad (17 + p1))), (2, .int p2), (3, .int p3), (4, .int p4)]) hx hb dX3_fade_29 hl (by decide) rfl (fun ls hl => ?_)
      refine lv_aload_n hx hb dX3_fade_31 rfl (lv_at hl 3 rfl) ?_
      refine r_getN (C := RX2) (T := TX2) (N := 3) S hK hN w (k := (17 + p1)) (Nat.lt_of_lt_of_le (Nat.add_lt_add_left hp1 17) (by decide)) (eC_sg ad hp1 _) rfl hinX2 0 (by decide) 3 rfl rfl dX3_fade_32 ?_
      refine lv_iconst (v := 1) hx hb dX3_fade_35 (by decide) ?_
      have J36_48 : ∀ (k0_36_48 : Int32), (p3 >>> ((jmin k0_36_48 31) &&& 31)) = T → ∀ ls : Array Slot, lv_has ls 8 [(0, .ref (ad 0)), (3, .int p3)] → W p l e (headSpec wsX3_fade ({ frames := 1, cells := 0, slots := 0, locals := 21 })).room s m ([.ref (ad 0), .ref (ad (17 + p1)), .int p2, .int p3, .int p4] : List Value).toArray below meth c s.heap [] 0 0 (MQ below (Q0i T) ([.ref (ad 0), .ref (ad (17 + p1)), .int p2, .int p3, .int p4] : List Value).toArray s 0 0 N0) (F0 m 48 ls [.int k0_36_48]) := by
        intro k0_36_48 hG ls hl
        refine lv_istore (lv' := [(7, .int k0_36_48), (0, .ref (ad 0)), (3, .int p3)]) hx hb dX3_fade_48 hl (by decide) rfl (fun ls hl => ?_)
        refine lv_iload_n hx hb dX3_fade_50 rfl (lv_at hl 2 rfl) ?_
        refine lv_iload hx hb dX3_fade_51 (lv_at hl 0 rfl) ?_
        refine lv_bipush (v := 31) hx hb dX3_fade_53 (by decide) ?_
        refine r_min S hl.1 (List.mem_of_getElem? (i := 2) rfl) (List.mem_of_getElem? (i := 3) rfl) (List.mem_of_getElem? (i := 4) rfl) (List.mem_of_getElem? (i := 5) rfl) ⟨Nat.le_of_ble_eq_true rfl, Nat.le_of_ble_eq_true rfl, Nat.zero_le _, Nat.zero_le _⟩ dX3_fade_55 ?_
        refine lv_ishr hx hb dX3_fade_58 ?_
        exact end0i S hr hlocks hG dX3_fade_59
      refine lv_icmp_ne (tgt := 46) hx hb dX3_fade_36 (by decide) (fun c36 => ?_) (fun c36 => ?_)
      · have t36 : (σ (17 + p1) 0).toInt ≠ 1 := qt_ne c36
        simp only [if_neg c36] at hG
        refine lv_iload hx hb dX3_fade_46 (lv_at hl 0 rfl) ?_
        exact J36_48 (p4 / (σ 4 (ix p2))) hG ls (lv_sub hl [2, 5] rfl)
      · have t36 : (σ (17 + p1) 0).toInt = 1 := qt_eq c36
        simp only [if_pos c36] at hG
        refine lv_iload hx hb dX3_fade_39 (lv_at hl 0 rfl) ?_
        refine lv_iconst (v := 2) hx hb dX3_fade_41 (by decide) ?_
        refine lv_idiv hx hb dX3_fade_42 (by decide) ?_
        refine lv_goto (tgt := 48) hx hb dX3_fade_43 (by decide) ?_
        exact J36_48 ((p4 / (σ 4 (ix p2))) / 2) hG ls (lv_sub hl [2, 5] rfl)
    · have t19 : (σ 4 (ix p2)).toInt < 1 := qt_nle c19
      rw [if_neg c19] at hG
      refine lv_iload_n hx hb dX3_fade_22 rfl (lv_at hl 4 rfl) ?_
      exact end0i S hr hlocks hG dX3_fade_23
set_option maxHeartbeats 4000000 in
set_option maxRecDepth 100000 in
theorem c_X3_isSign (l : Launch) (ad : Nat → Nat) (D : va_G) (sz : Nat) (σ : St) (p1 : Int32) : Met l yX3_isSign wsX3_isSign ({ frames := 0, cells := 0, slots := 0, locals := 0 }) (PreW 41 (eC ad) ad D (tyC ad) σ sz ([.ref (ad 0), .int p1] : List Value)) (Q0i (f_X3_isSign σ p1)) 0 0 N0 := by
  generalize hG : f_X3_isSign σ p1 = T
  refine headW (cc := cX3_isSign) (maxL := 2) (ret := (some .boolean)) ([.ref (ad 0), .int p1] : List Value) (by decide) rfl (Nat.le_of_ble_eq_true rfl) ?_
  intro p e s m below meth c S hr hlocks hK hN hsz w ls hl
  have S : CallFix p m c cX3_isSign 2 s ([.ref (ad 0), .int p1] : List Value).toArray wsX3_isSign RX3 := S
  have hx := S.1
  have hb := S.2.1
  have z0 : (0 : Int32).toInt = 0 := by decide
  have z1 : (1 : Int32).toInt = 1 := by decide
  have hl : lv_has ls 2 [(0, .ref (ad 0)), (1, .int p1)] := hl
  have hinX3 : ∀ w ∈ wsX30, w ∈ wsX3_isSign := (fun _ h => List.mem_cons_of_mem _ (List.mem_append_right _ h))
  rw [f_X3_isSign] at hG
  refine lv_iload_n hx hb dX3_isSign_0 rfl (lv_at hl 1 rfl) ?_
  refine lv_if_lt (tgt := 16) hx hb dX3_isSign_1 (by decide) (fun c1 => ?_) (fun c1 => ?_)
  · have t1 : p1.toInt < 0 := qt_lt c1
    rw [if_pos c1] at hG
    refine lv_iconst (v := 0) hx hb dX3_isSign_16 (by decide) ?_
    exact end0z S hr hlocks (Or.inl rfl) hG dX3_isSign_17
  · have t1 : 0 ≤ p1.toInt := qt_nlt c1
    rw [if_neg c1] at hG
    refine lv_iload_n hx hb dX3_isSign_4 rfl (lv_at hl 1 rfl) ?_
    refine lv_aload_n hx hb dX3_isSign_5 rfl (lv_at hl 0 rfl) ?_
    refine r_get (C := RX3) (T := TX3) (N := 14) S hK w (k := 0) (by decide) (eC_0 ad _) rfl hinX3 4 (by decide) (List.mem_of_getElem? (i := 1) rfl) rfl dX3_isSign_6 ?_
    refine lv_icmp_ge (tgt := 16) hx hb dX3_isSign_9 (by decide) (fun c9 => ?_) (fun c9 => ?_)
    · have t9 : (σ 0 4).toInt ≤ p1.toInt := qt_le c9
      rw [if_pos c9] at hG
      refine lv_iconst (v := 0) hx hb dX3_isSign_16 (by decide) ?_
      exact end0z S hr hlocks (Or.inl rfl) hG dX3_isSign_17
    · have t9 : p1.toInt < (σ 0 4).toInt := qt_nle c9
      rw [if_neg c9] at hG
      refine lv_iconst (v := 1) hx hb dX3_isSign_12 (by decide) ?_
      refine lv_goto (tgt := 17) hx hb dX3_isSign_13 (by decide) ?_
      exact end0z S hr hlocks (Or.inr rfl) hG dX3_isSign_17
set_option maxHeartbeats 4000000 in
set_option maxRecDepth 100000 in
theorem c_X3_areTwoSigns (l : Launch) (ad : Nat → Nat) (D : va_G) (sz : Nat) (σ : St) (p1 : Int32) (p2 : Int32) : Met l yX3_areTwoSigns wsX3_areTwoSigns ({ frames := 1, cells := 0, slots := 0, locals := 21 }) (PreW 41 (eC ad) ad D (tyC ad) σ sz ([.ref (ad 0), .int p1, .int p2] : List Value)) (Q0i (f_X3_areTwoSigns σ p1 p2)) 0 0 N0 := by
  generalize hG : f_X3_areTwoSigns σ p1 p2 = T
  refine headW (cc := cX3_areTwoSigns) (maxL := 3) (ret := (some .boolean)) ([.ref (ad 0), .int p1, .int p2] : List Value) (by decide) rfl (Nat.le_of_ble_eq_true rfl) ?_
  intro p e s m below meth c S hr hlocks hK hN hsz w ls hl
  have S : CallFix p m c cX3_areTwoSigns 3 s ([.ref (ad 0), .int p1, .int p2] : List Value).toArray wsX3_areTwoSigns RX3 := S
  have hx := S.1
  have hb := S.2.1
  have z0 : (0 : Int32).toInt = 0 := by decide
  have z1 : (1 : Int32).toInt = 1 := by decide
  have hl : lv_has ls 3 [(0, .ref (ad 0)), (1, .int p1), (2, .int p2)] := hl
  have hinX3 : ∀ w ∈ wsX30, w ∈ wsX3_areTwoSigns := (fun _ h => List.mem_cons_of_mem _ (List.mem_append_right _ h))
  rw [f_X3_areTwoSigns] at hG
  refine lv_aload_n hx hb dX3_areTwoSigns_0 rfl (lv_at hl 0 rfl) ?_
  refine lv_iload_n hx hb dX3_areTwoSigns_1 rfl (lv_at hl 1 rfl) ?_
  refine call0i (va_runV (As := [.int p1]) (rest := []) S (c_X3_isSign l ad D s.heap.size σ p1) (cwV 1 S.2.2.2.2 gX3_areTwoSigns_X3_isSign rfl rfl rfl ⟨rfl, hd_X3_isSign⟩ ⟨Nat.le_of_ble_eq_true rfl, Nat.le_of_ble_eq_true rfl⟩) (preV hK hN w (k := 0) (by decide) (eC_0 ad _) (q := (RX3, TX3, 14)) rfl) rfl rfl hl.1 rfl (lv_room (Nat.le_of_ble_eq_true rfl)) dX3_areTwoSigns_2 ⟨Nat.zero_le _, Nat.zero_le _⟩) ?_
  refine lv_if_eq (tgt := 25) hx hb dX3_areTwoSigns_5 (by decide) (fun c5 => ?_) (fun c5 => ?_)
  · rw [if_pos c5] at hG
    refine lv_iconst (v := 0) hx hb dX3_areTwoSigns_25 (by decide) ?_
    exact end0z S hr hlocks (Or.inl rfl) hG dX3_areTwoSigns_26
  · have t5 := bf_isSign_n c5
    rw [if_neg c5] at hG
    refine lv_aload_n hx hb dX3_areTwoSigns_8 rfl (lv_at hl 0 rfl) ?_
    refine lv_iload_n hx hb dX3_areTwoSigns_9 rfl (lv_at hl 2 rfl) ?_
    refine call0i (va_runV (As := [.int p2]) (rest := []) S (c_X3_isSign l ad D s.heap.size σ p2) (cwV 1 S.2.2.2.2 gX3_areTwoSigns_X3_isSign rfl rfl rfl ⟨rfl, hd_X3_isSign⟩ ⟨Nat.le_of_ble_eq_true rfl, Nat.le_of_ble_eq_true rfl⟩) (preV hK hN w (k := 0) (by decide) (eC_0 ad _) (q := (RX3, TX3, 14)) rfl) rfl rfl hl.1 rfl (lv_room (Nat.le_of_ble_eq_true rfl)) dX3_areTwoSigns_10 ⟨Nat.zero_le _, Nat.zero_le _⟩) ?_
    refine lv_if_eq (tgt := 25) hx hb dX3_areTwoSigns_13 (by decide) (fun c13 => ?_) (fun c13 => ?_)
    · rw [if_pos c13] at hG
      refine lv_iconst (v := 0) hx hb dX3_areTwoSigns_25 (by decide) ?_
      exact end0z S hr hlocks (Or.inl rfl) hG dX3_areTwoSigns_26
    · have t13 := bf_isSign_n c13
      rw [if_neg c13] at hG
      refine lv_iload_n hx hb dX3_areTwoSigns_16 rfl (lv_at hl 1 rfl) ?_
      refine lv_iload_n hx hb dX3_areTwoSigns_17 rfl (lv_at hl 2 rfl) ?_
      refine lv_icmp_eq (tgt := 25) hx hb dX3_areTwoSigns_18 (by decide) (fun c18 => ?_) (fun c18 => ?_)
      · have t18 : p1.toInt = p2.toInt := qt_eq c18
        rw [if_pos c18] at hG
        refine lv_iconst (v := 0) hx hb dX3_areTwoSigns_25 (by decide) ?_
        exact end0z S hr hlocks (Or.inl rfl) hG dX3_areTwoSigns_26
      · have t18 : p1.toInt ≠ p2.toInt := qt_ne c18
        rw [if_neg c18] at hG
        refine lv_iconst (v := 1) hx hb dX3_areTwoSigns_21 (by decide) ?_
        refine lv_goto (tgt := 26) hx hb dX3_areTwoSigns_22 (by decide) ?_
        exact end0z S hr hlocks (Or.inr rfl) hG dX3_areTwoSigns_26
set_option maxHeartbeats 4000000 in
set_option maxRecDepth 100000 in
theorem c_X3_pairNumber (l : Launch) (p1 : Int32) (p2 : Int32) : Met l yX3_pairNumber wsX3_pairNumber ({ frames := 0, cells := 0, slots := 0, locals := 0 }) (Pre0 ([.int p1, .int p2] : List Value)) (Q0i (f_X3_pairNumber p1 p2)) 0 0 N0 := by
  generalize hG : f_X3_pairNumber p1 p2 = T
  refine head0 (cc := cX3_pairNumber) (maxL := 2) (ret := (some .int)) ([.int p1, .int p2] : List Value) (by decide) rfl (Nat.le_of_ble_eq_true rfl) ?_
  intro p e s m below meth c S hr hlocks ls hl
  have S : CallFix p m c cX3_pairNumber 2 s ([.int p1, .int p2] : List Value).toArray wsX3_pairNumber RX3 := S
  have hx := S.1
  have hb := S.2.1
  have z0 : (0 : Int32).toInt = 0 := by decide
  have z1 : (1 : Int32).toInt = 1 := by decide
  have hl : lv_has ls 2 [(0, .int p1), (1, .int p2)] := hl
  rw [f_X3_pairNumber] at hG
  refine lv_bipush (v := 10) hx hb dX3_pairNumber_0 (by decide) ?_
  refine lv_iload_n hx hb dX3_pairNumber_2 rfl (lv_at hl 0 rfl) ?_
  refine lv_imul hx hb dX3_pairNumber_3 ?_
  refine lv_iload_n hx hb dX3_pairNumber_4 rfl (lv_at hl 1 rfl) ?_
  refine lv_iadd hx hb dX3_pairNumber_5 ?_
  exact end0i S hr hlocks hG dX3_pairNumber_6
set_option maxHeartbeats 4000000 in
set_option maxRecDepth 100000 in
theorem c_X3_apartOf (l : Launch) (ad : Nat → Nat) (D : va_G) (sz : Nat) (σ : St) (p1 : Nat) (p2 : Nat) (hp1 : st9 p1) (hp2 : st9 p2) : Met l yX3_apartOf wsX3_apartOf ({ frames := 1, cells := 0, slots := 0, locals := 21 }) (PreW 41 (eC ad) ad D (tyC ad) σ sz ([.ref (ad p1), .ref (ad p2)] : List Value)) (Q0i (f_X3_apartOf σ p1 p2)) 0 0 N0 := by
  generalize hG : f_X3_apartOf σ p1 p2 = T
  refine headW (cc := cX3_apartOf) (maxL := 4) (ret := (some .int)) ([.ref (ad p1), .ref (ad p2)] : List Value) (by decide) rfl (Nat.le_of_ble_eq_true rfl) ?_
  intro p e s m below meth c S hr hlocks hK hN hsz w ls hl
  have S : CallFix p m c cX3_apartOf 4 s ([.ref (ad p1), .ref (ad p2)] : List Value).toArray wsX3_apartOf RX3 := S
  have hx := S.1
  have hb := S.2.1
  have z0 : (0 : Int32).toInt = 0 := by decide
  have z1 : (1 : Int32).toInt = 1 := by decide
  have hl : lv_has ls 4 [(0, .ref (ad p1)), (1, .ref (ad p2))] := hl
  rw [f_X3_apartOf] at hG
  refine lv_iconst (v := 0) hx hb dX3_apartOf_0 (by decide) ?_
  refine lv_istore_n (lv' := [(2, .int 0), (0, .ref (ad p1)), (1, .ref (ad p2))]) hx hb dX3_apartOf_1 rfl hl (by decide) rfl (fun ls hl => ?_)
  refine lv_iconst (v := 0) hx hb dX3_apartOf_2 (by decide) ?_
  refine lv_istore_n (lv' := [(3, .int 0), (2, .int 0), (0, .ref (ad p1)), (1, .ref (ad p2))]) hx hb dX3_apartOf_3 rfl hl (by decide) rfl (fun ls hl => ?_)
  have L4 : ∀ (n : Nat) (res4 : Int32), ∀ (v2_4 : Int32), ∀ (v3_4 : Int32), ((0 ≤ v3_4.toInt ∧ v3_4.toInt ≤ 9)) → (9 - v3_4.toInt).toNat < n → (lp_X3_apartOf_4 σ p1 p2 n v2_4 v3_4) = res4 → (∀ (v2_4e : Int32), res4 = v2_4e → ∀ ls : Array Slot, lv_has ls 4 [(2, .int v2_4e)] → W p l e (headSpec wsX3_apartOf ({ frames := 1, cells := 0, slots := 0, locals := 21 })).room s m ([.ref (ad p1), .ref (ad p2)] : List Value).toArray below meth c s.heap [] 0 0 (MQ below (Q0i T) ([.ref (ad p1), .ref (ad p2)] : List Value).toArray s 0 0 N0) (F0 m 29 ls [])) → ∀ ls : Array Slot, lv_has ls 4 [(0, .ref (ad p1)), (1, .ref (ad p2)), (2, .int v2_4), (3, .int v3_4)] → W p l e (headSpec wsX3_apartOf ({ frames := 1, cells := 0, slots := 0, locals := 21 })).room s m ([.ref (ad p1), .ref (ad p2)] : List Value).toArray below meth c s.heap [] 0 0 (MQ below (Q0i T) ([.ref (ad p1), .ref (ad p2)] : List Value).toArray s 0 0 N0) (F0 m 4 ls []) := by
    intro n
    induction n with
    | zero => intro _ _ _ _ hm; exact absurd hm (Nat.not_lt_zero _)
    | succ n ih4 =>
      intro res4 v2_4 v3_4 hI4 hm4 hG hex4 ls hl
      have i4_0 := hI4
      rw [lp_X3_apartOf_4] at hG
      refine lv_iload_n hx hb dX3_apartOf_4 rfl (lv_at hl 3 rfl) ?_
      refine lv_bipush (v := 9) hx hb dX3_apartOf_5 (by decide) ?_
      refine lv_icmp_ge (tgt := 29) hx hb dX3_apartOf_7 (by decide) (fun c7 => ?_) (fun c7 => ?_)
      · have t7 : 9 ≤ v3_4.toInt := qt_le c7
        rw [if_pos c7] at hG
        exact hex4 v2_4 hG.symm ls (lv_sub hl [2] rfl)
      · have t7 : v3_4.toInt < 9 := qt_nle c7
        rw [if_neg c7] at hG
        refine lv_iload_n hx hb dX3_apartOf_10 rfl (lv_at hl 2 rfl) ?_
        refine lv_aload_n hx hb dX3_apartOf_11 rfl (lv_at hl 0 rfl) ?_
        refine lv_iload_n hx hb dX3_apartOf_12 rfl (lv_at hl 3 rfl) ?_
        have g13 : vp_in v3_4 9 := vpi (by omega) (by omega)
        refine r_iald (cA := ad 100) (N := 9) S hK w (k := p1) (st9_lt hp1) (fun f => eC_9 ad hp1 f) rfl g13 dX3_apartOf_13 ?_
        refine lv_aload_n hx hb dX3_apartOf_14 rfl (lv_at hl 1 rfl) ?_
        refine lv_iload_n hx hb dX3_apartOf_15 rfl (lv_at hl 3 rfl) ?_
        have g16 : vp_in v3_4 9 := vpi (by omega) (by omega)
        refine r_iald (cA := ad 100) (N := 9) S hK w (k := p2) (st9_lt hp2) (fun f => eC_9 ad hp2 f) rfl g16 dX3_apartOf_16 ?_
        refine lv_isub hx hb dX3_apartOf_17 ?_
        refine r_abs S hl.1 (List.mem_of_getElem? (i := 1) rfl) (List.mem_of_getElem? (i := 2) rfl) (List.mem_of_getElem? (i := 3) rfl) (List.mem_of_getElem? (i := 4) rfl) ⟨Nat.le_of_ble_eq_true rfl, Nat.le_of_ble_eq_true rfl, Nat.zero_le _, Nat.zero_le _⟩ dX3_apartOf_18 ?_
        refine lv_iadd hx hb dX3_apartOf_21 ?_
        refine lv_istore_n (lv' := [(2, .int (v2_4 + (jabs ((σ p1 (ix v3_4)) - (σ p2 (ix v3_4)))))), (0, .ref (ad p1)), (1, .ref (ad p2)), (3, .int v3_4)]) hx hb dX3_apartOf_22 rfl hl (by decide) rfl (fun ls hl => ?_)
        refine lv_iinc (v := (v3_4 + 1)) (lv' := [(3, .int (v3_4 + 1)), (2, .int (v2_4 + (jabs ((σ p1 (ix v3_4)) - (σ p2 (ix v3_4)))))), (0, .ref (ad p1)), (1, .ref (ad p2))]) hx hb dX3_apartOf_23 hl (k := 3) rfl rfl (by decide) rfl (fun ls hl => ?_)
        refine lv_goto (tgt := 4) hx hb dX3_apartOf_26 (by decide) ?_
        have b3_4 : (v3_4 + 1).toInt = v3_4.toInt + 1 := inc_toInt (by omega) (by omega)
        exact ih4 _ (v2_4 + (jabs ((σ p1 (ix v3_4)) - (σ p2 (ix v3_4))))) (v3_4 + 1) (by omega) (by omega) hG hex4 ls (lv_sub hl [2, 3, 1, 0] rfl)
  refine L4 200 _ 0 0 (by omega) (by omega) rfl (fun v2_4e hr4 ls hl => ?_) ls (lv_sub hl [2, 3, 1, 0] rfl)
  rw [hr4] at hG
  refine lv_iload_n hx hb dX3_apartOf_29 rfl (lv_at hl 0 rfl) ?_
  exact end0i S hr hlocks hG dX3_apartOf_30
set_option maxHeartbeats 4000000 in
set_option maxRecDepth 100000 in
theorem c_X3_apart (l : Launch) (ad : Nat → Nat) (D : va_G) (sz : Nat) (σ : St) (p1 : Int32) (p2 : Int32) (hok : OkC σ) : Met l yX3_apart wsX3_apart ({ frames := 2, cells := 0, slots := 0, locals := 44 }) (PreW 41 (eC ad) ad D (tyC ad) σ sz ([.ref (ad 0), .int p1, .int p2] : List Value)) (Q0i (f_X3_apart σ p1 p2)) 0 0 N0 := by
  generalize hG : f_X3_apart σ p1 p2 = T
  refine headW (cc := cX3_apart) (maxL := 3) (ret := (some .int)) ([.ref (ad 0), .int p1, .int p2] : List Value) (by decide) rfl (Nat.le_of_ble_eq_true rfl) ?_
  intro p e s m below meth c S hr hlocks hK hN hsz w ls hl
  have S : CallFix p m c cX3_apart 3 s ([.ref (ad 0), .int p1, .int p2] : List Value).toArray wsX3_apart RX3 := S
  have hx := S.1
  have hb := S.2.1
  have z0 : (0 : Int32).toInt = 0 := by decide
  have z1 : (1 : Int32).toInt = 1 := by decide
  have hl : lv_has ls 3 [(0, .ref (ad 0)), (1, .int p1), (2, .int p2)] := hl
  have hinX3 : ∀ w ∈ wsX30, w ∈ wsX3_apart := (fun _ h => List.mem_cons_of_mem _ (List.mem_append_left _ (List.mem_append_right _ h)))
  have hinX2 : ∀ w ∈ wsX20, w ∈ wsX3_apart := (fun _ h => List.mem_cons_of_mem _ (List.mem_append_right _ h))
  have okf0 := hok.1
  have okf1 := hok.2.1
  have okf2 := hok.2.2.1
  have okf3 := hok.2.2.2.1
  have okf4 := hok.2.2.2.2.1
  have okf5 := hok.2.2.2.2.2
  rw [f_X3_apart] at hG
  refine lv_aload_n hx hb dX3_apart_0 rfl (lv_at hl 0 rfl) ?_
  refine lv_iload_n hx hb dX3_apart_1 rfl (lv_at hl 1 rfl) ?_
  refine call0i (va_runV (As := [.int p1]) (rest := []) S (c_X3_isSign l ad D s.heap.size σ p1) (cwV 1 S.2.2.2.2 gX3_apart_X3_isSign rfl rfl rfl ⟨rfl, hd_X3_isSign⟩ ⟨Nat.le_of_ble_eq_true rfl, Nat.le_of_ble_eq_true rfl⟩) (preV hK hN w (k := 0) (by decide) (eC_0 ad _) (q := (RX3, TX3, 14)) rfl) rfl rfl hl.1 rfl (lv_room (Nat.le_of_ble_eq_true rfl)) dX3_apart_2 ⟨Nat.zero_le _, Nat.zero_le _⟩) ?_
  refine lv_if_eq (tgt := 16) hx hb dX3_apart_5 (by decide) (fun c5 => ?_) (fun c5 => ?_)
  · rw [if_pos c5] at hG
    refine lv_iconst (v := (-1)) hx hb dX3_apart_16 (by decide) ?_
    exact end0i S hr hlocks hG dX3_apart_17
  · have t5 := bf_isSign_n c5
    rw [if_neg c5] at hG
    refine lv_aload_n hx hb dX3_apart_8 rfl (lv_at hl 0 rfl) ?_
    refine lv_iload_n hx hb dX3_apart_9 rfl (lv_at hl 2 rfl) ?_
    refine call0i (va_runV (As := [.int p2]) (rest := []) S (c_X3_isSign l ad D s.heap.size σ p2) (cwV 1 S.2.2.2.2 gX3_apart_X3_isSign rfl rfl rfl ⟨rfl, hd_X3_isSign⟩ ⟨Nat.le_of_ble_eq_true rfl, Nat.le_of_ble_eq_true rfl⟩) (preV hK hN w (k := 0) (by decide) (eC_0 ad _) (q := (RX3, TX3, 14)) rfl) rfl rfl hl.1 rfl (lv_room (Nat.le_of_ble_eq_true rfl)) dX3_apart_10 ⟨Nat.zero_le _, Nat.zero_le _⟩) ?_
    refine lv_if_ne (tgt := 18) hx hb dX3_apart_13 (by decide) (fun c13 => ?_) (fun c13 => ?_)
    · have t13 := bf_isSign_n c13
      rw [if_neg c13] at hG
      refine lv_aload_n hx hb dX3_apart_18 rfl (lv_at hl 0 rfl) ?_
      refine r_get (C := RX3) (T := TX3) (N := 14) S hK w (k := 0) (by decide) (eC_0 ad _) rfl hinX3 1 (by decide) (List.mem_of_getElem? (i := 1) rfl) rfl dX3_apart_19 ?_
      refine lv_iload_n hx hb dX3_apart_22 rfl (lv_at hl 1 rfl) ?_
      have g23 : vp_in p1 8 := vpi (by omega) (by omega)
      refine r_aald S hK w (k := 2) (by decide) (eC_2 ad _) (t0 := 2) rfl g23 dX3_apart_23 ?_
      refine r_getN (C := RX2) (T := TX2) (N := 3) S hK hN w (k := (17 + (ix p1))) (Nat.lt_of_lt_of_le (Nat.add_lt_add_left (vpl g23) 17) (by decide)) (eC_sg ad (vpl g23) _) rfl hinX2 2 (by decide) 5 rfl rfl dX3_apart_24 ?_
      refine lv_aload_n hx hb dX3_apart_27 rfl (lv_at hl 0 rfl) ?_
      refine r_get (C := RX3) (T := TX3) (N := 14) S hK w (k := 0) (by decide) (eC_0 ad _) rfl hinX3 1 (by decide) (List.mem_of_getElem? (i := 1) rfl) rfl dX3_apart_28 ?_
      refine lv_iload_n hx hb dX3_apart_31 rfl (lv_at hl 2 rfl) ?_
      have g32 : vp_in p2 8 := vpi (by omega) (by omega)
      refine r_aald S hK w (k := 2) (by decide) (eC_2 ad _) (t0 := 2) rfl g32 dX3_apart_32 ?_
      refine r_getN (C := RX2) (T := TX2) (N := 3) S hK hN w (k := (17 + (ix p2))) (Nat.lt_of_lt_of_le (Nat.add_lt_add_left (vpl g32) 17) (by decide)) (eC_sg ad (vpl g32) _) rfl hinX2 2 (by decide) 5 rfl rfl dX3_apart_33 ?_
      refine call0i (va_runS (As := [.ref (ad (25 + (ix p1))), .ref (ad (25 + (ix p2)))]) (rest := []) S (c_X3_apartOf l ad D s.heap.size σ (25 + (ix p1)) (25 + (ix p2)) (Or.inr ⟨_, (vpl g23), rfl⟩) (Or.inr ⟨_, (vpl g32), rfl⟩)) (va_cwS 2 S.2.2.2.2 gX3_apart_X3_apartOf rfl rfl rfl hd_X3_apartOf ⟨Nat.le_of_ble_eq_true rfl, Nat.le_of_ble_eq_true rfl⟩) (preS hK hN w) rfl rfl hl.1 rfl (lv_room (Nat.le_of_ble_eq_true rfl)) dX3_apart_36 ⟨Nat.zero_le _, Nat.zero_le _⟩) ?_
      exact end0i S hr hlocks hG dX3_apart_39
    · rw [if_pos c13] at hG
      refine lv_iconst (v := (-1)) hx hb dX3_apart_16 (by decide) ?_
      exact end0i S hr hlocks hG dX3_apart_17
set_option maxHeartbeats 4000000 in
set_option maxRecDepth 100000 in
theorem c_X3_areAlike (l : Launch) (ad : Nat → Nat) (D : va_G) (sz : Nat) (σ : St) (p1 : Nat) (p2 : Nat) (hp1 : st9 p1) (hp2 : st9 p2) : Met l yX3_areAlike wsX3_areAlike ({ frames := 2, cells := 0, slots := 0, locals := 44 }) (PreW 41 (eC ad) ad D (tyC ad) σ sz ([.ref (ad 0), .ref (ad p1), .ref (ad p2)] : List Value)) (Q0i (f_X3_areAlike σ p1 p2)) 0 0 N0 := by
  generalize hG : f_X3_areAlike σ p1 p2 = T
  refine headW (cc := cX3_areAlike) (maxL := 3) (ret := (some .boolean)) ([.ref (ad 0), .ref (ad p1), .ref (ad p2)] : List Value) (by decide) rfl (Nat.le_of_ble_eq_true rfl) ?_
  intro p e s m below meth c S hr hlocks hK hN hsz w ls hl
  have S : CallFix p m c cX3_areAlike 3 s ([.ref (ad 0), .ref (ad p1), .ref (ad p2)] : List Value).toArray wsX3_areAlike RX3 := S
  have hx := S.1
  have hb := S.2.1
  have z0 : (0 : Int32).toInt = 0 := by decide
  have z1 : (1 : Int32).toInt = 1 := by decide
  have hl : lv_has ls 3 [(0, .ref (ad 0)), (1, .ref (ad p1)), (2, .ref (ad p2))] := hl
  have hinX3 : ∀ w ∈ wsX30, w ∈ wsX3_areAlike := (fun _ h => List.mem_cons_of_mem _ (List.mem_append_right _ h))
  rw [f_X3_areAlike] at hG
  refine lv_bipush (v := 8) hx hb dX3_areAlike_0 (by decide) ?_
  refine lv_aload_n hx hb dX3_areAlike_2 rfl (lv_at hl 1 rfl) ?_
  refine lv_aload_n hx hb dX3_areAlike_3 rfl (lv_at hl 2 rfl) ?_
  refine call0i (va_runS (As := [.ref (ad p1), .ref (ad p2)]) (rest := [.int 8]) S (c_X3_apartOf l ad D s.heap.size σ p1 p2 hp1 hp2) (va_cwS 2 S.2.2.2.2 gX3_areAlike_X3_apartOf rfl rfl rfl hd_X3_apartOf ⟨Nat.le_of_ble_eq_true rfl, Nat.le_of_ble_eq_true rfl⟩) (preS hK hN w) rfl rfl hl.1 rfl (lv_room (Nat.le_of_ble_eq_true rfl)) dX3_areAlike_4 ⟨Nat.zero_le _, Nat.zero_le _⟩) ?_
  refine lv_imul hx hb dX3_areAlike_7 ?_
  refine lv_aload_n hx hb dX3_areAlike_8 rfl (lv_at hl 0 rfl) ?_
  refine r_get (C := RX3) (T := TX3) (N := 14) S hK w (k := 0) (by decide) (eC_0 ad _) rfl hinX3 7 (by decide) (List.mem_of_getElem? (i := 1) rfl) rfl dX3_areAlike_9 ?_
  refine lv_icmp_gt (tgt := 19) hx hb dX3_areAlike_12 (by decide) (fun c12 => ?_) (fun c12 => ?_)
  · have t12 : (σ 0 7).toInt < (8 * (f_X3_apartOf σ p1 p2)).toInt := qt_lt c12
    rw [if_pos c12] at hG
    refine lv_iconst (v := 0) hx hb dX3_areAlike_19 (by decide) ?_
    exact end0z S hr hlocks (Or.inl rfl) hG dX3_areAlike_20
  · have t12 : (8 * (f_X3_apartOf σ p1 p2)).toInt ≤ (σ 0 7).toInt := qt_nlt c12
    rw [if_neg c12] at hG
    refine lv_iconst (v := 1) hx hb dX3_areAlike_15 (by decide) ?_
    refine lv_goto (tgt := 20) hx hb dX3_areAlike_16 (by decide) ?_
    exact end0z S hr hlocks (Or.inr rfl) hG dX3_areAlike_20
set_option maxHeartbeats 4000000 in
set_option maxRecDepth 100000 in
theorem c_X3_twins (l : Launch) (ad : Nat → Nat) (D : va_G) (sz : Nat) (σ : St) (p1 : Int32) (hok : OkC σ) : Met l yX3_twins wsX3_twins ({ frames := 3, cells := 0, slots := 0, locals := 66 }) (PreW 41 (eC ad) ad D (tyC ad) σ sz ([.ref (ad 0), .int p1] : List Value)) (Q0i (f_X3_twins σ p1)) 0 0 N0 := by
  generalize hG : f_X3_twins σ p1 = T
  refine headW (cc := cX3_twins) (maxL := 5) (ret := (some .int)) ([.ref (ad 0), .int p1] : List Value) (by decide) rfl (Nat.le_of_ble_eq_true rfl) ?_
  intro p e s m below meth c S hr hlocks hK hN hsz w ls hl
  have S : CallFix p m c cX3_twins 5 s ([.ref (ad 0), .int p1] : List Value).toArray wsX3_twins RX3 := S
  have hx := S.1
  have hb := S.2.1
  have z0 : (0 : Int32).toInt = 0 := by decide
  have z1 : (1 : Int32).toInt = 1 := by decide
  have hl : lv_has ls 5 [(0, .ref (ad 0)), (1, .int p1)] := hl
  have hinX3 : ∀ w ∈ wsX30, w ∈ wsX3_twins := (fun _ h => List.mem_cons_of_mem _ (List.mem_append_left _ (List.mem_append_right _ h)))
  have hinX2 : ∀ w ∈ wsX20, w ∈ wsX3_twins := (fun _ h => List.mem_cons_of_mem _ (List.mem_append_right _ h))
  have okf0 := hok.1
  have okf1 := hok.2.1
  have okf2 := hok.2.2.1
  have okf3 := hok.2.2.2.1
  have okf4 := hok.2.2.2.2.1
  have okf5 := hok.2.2.2.2.2
  rw [f_X3_twins] at hG
  refine lv_iload_n hx hb dX3_twins_0 rfl (lv_at hl 1 rfl) ?_
  refine lv_iconst (v := (-1)) hx hb dX3_twins_1 (by decide) ?_
  refine lv_icmp_ge (tgt := 7) hx hb dX3_twins_2 (by decide) (fun c2 => ?_) (fun c2 => ?_)
  · have t2 : -1 ≤ p1.toInt := qt_le c2
    rw [if_pos c2] at hG
    refine lv_iconst (v := 0) hx hb dX3_twins_7 (by decide) ?_
    refine lv_istore_n (lv' := [(2, .int 0), (0, .ref (ad 0)), (1, .int p1)]) hx hb dX3_twins_8 rfl hl (by decide) rfl (fun ls hl => ?_)
    refine lv_iconst (v := 0) hx hb dX3_twins_9 (by decide) ?_
    refine lv_istore_n (lv' := [(3, .int 0), (2, .int 0), (0, .ref (ad 0)), (1, .int p1)]) hx hb dX3_twins_10 rfl hl (by decide) rfl (fun ls hl => ?_)
    have L11 : ∀ (n : Nat) (res11 : (Int32) ⊕ (Int32)), ∀ (v2_11 : Int32), ∀ (v3_11 : Int32), ((0 ≤ v3_11.toInt ∧ v3_11.toInt ≤ 8)) → (8 - v3_11.toInt).toNat < n → (lp_X3_twins_11 σ p1 n v2_11 v3_11) = res11 → (∀ r : Int32, res11 = Sum.inl r → r = T) → (∀ (v2_11e : Int32), res11 = Sum.inr v2_11e → ∀ ls : Array Slot, lv_has ls 5 [(0, .ref (ad 0)), (1, .int p1), (2, .int v2_11e)] → W p l e (headSpec wsX3_twins ({ frames := 3, cells := 0, slots := 0, locals := 66 })).room s m ([.ref (ad 0), .int p1] : List Value).toArray below meth c s.heap [] 0 0 (MQ below (Q0i T) ([.ref (ad 0), .int p1] : List Value).toArray s 0 0 N0) (F0 m 86 ls [])) → ∀ ls : Array Slot, lv_has ls 5 [(0, .ref (ad 0)), (1, .int p1), (2, .int v2_11), (3, .int v3_11)] → W p l e (headSpec wsX3_twins ({ frames := 3, cells := 0, slots := 0, locals := 66 })).room s m ([.ref (ad 0), .int p1] : List Value).toArray below meth c s.heap [] 0 0 (MQ below (Q0i T) ([.ref (ad 0), .int p1] : List Value).toArray s 0 0 N0) (F0 m 11 ls []) := by
      intro n
      induction n with
      | zero => intro _ _ _ _ hm; exact absurd hm (Nat.not_lt_zero _)
      | succ n ih11 =>
        intro res11 v2_11 v3_11 hI11 hm11 hG hret11 hex11 ls hl
        have i11_0 := hI11
        rw [lp_X3_twins_11] at hG
        refine lv_iload_n hx hb dX3_twins_11 rfl (lv_at hl 3 rfl) ?_
        refine lv_aload_n hx hb dX3_twins_12 rfl (lv_at hl 0 rfl) ?_
        refine r_get (C := RX3) (T := TX3) (N := 14) S hK w (k := 0) (by decide) (eC_0 ad _) rfl hinX3 4 (by decide) (List.mem_of_getElem? (i := 1) rfl) rfl dX3_twins_13 ?_
        refine lv_icmp_ge (tgt := 86) hx hb dX3_twins_16 (by decide) (fun c16 => ?_) (fun c16 => ?_)
        · have t16 : (σ 0 4).toInt ≤ v3_11.toInt := qt_le c16
          rw [if_pos c16] at hG
          exact hex11 v2_11 hG.symm ls (lv_sub hl [0, 1, 2] rfl)
        · have t16 : v3_11.toInt < (σ 0 4).toInt := qt_nle c16
          rw [if_neg c16] at hG
          refine lv_iload_n hx hb dX3_twins_19 rfl (lv_at hl 3 rfl) ?_
          refine lv_iconst (v := 1) hx hb dX3_twins_20 (by decide) ?_
          refine lv_iadd hx hb dX3_twins_21 ?_
          refine lv_istore (lv' := [(4, .int (v3_11 + 1)), (0, .ref (ad 0)), (1, .int p1), (2, .int v2_11), (3, .int v3_11)]) hx hb dX3_twins_22 hl (by decide) rfl (fun ls hl => ?_)
          have L24 : ∀ (n : Nat) (res24 : (Int32) ⊕ (Int32)), ∀ (v2_24 : Int32), ∀ (v4_24 : Int32), ((0 ≤ v4_24.toInt ∧ v4_24.toInt ≤ 8)) → (8 - v4_24.toInt).toNat < n → (lp_X3_twins_24 σ p1 v3_11 n v2_24 v4_24) = res24 → (∀ r : Int32, res24 = Sum.inl r → r = T) → (∀ (v2_24e : Int32), res24 = Sum.inr v2_24e → ∀ ls : Array Slot, lv_has ls 5 [(0, .ref (ad 0)), (1, .int p1), (2, .int v2_24e), (3, .int v3_11)] → W p l e (headSpec wsX3_twins ({ frames := 3, cells := 0, slots := 0, locals := 66 })).room s m ([.ref (ad 0), .int p1] : List Value).toArray below meth c s.heap [] 0 0 (MQ below (Q0i T) ([.ref (ad 0), .int p1] : List Value).toArray s 0 0 N0) (F0 m 80 ls [])) → ∀ ls : Array Slot, lv_has ls 5 [(0, .ref (ad 0)), (1, .int p1), (2, .int v2_24), (3, .int v3_11), (4, .int v4_24)] → W p l e (headSpec wsX3_twins ({ frames := 3, cells := 0, slots := 0, locals := 66 })).room s m ([.ref (ad 0), .int p1] : List Value).toArray below meth c s.heap [] 0 0 (MQ below (Q0i T) ([.ref (ad 0), .int p1] : List Value).toArray s 0 0 N0) (F0 m 24 ls []) := by
            intro n
            induction n with
            | zero => intro _ _ _ _ hm; exact absurd hm (Nat.not_lt_zero _)
            | succ n ih24 =>
              intro res24 v2_24 v4_24 hI24 hm24 hG hret24 hex24 ls hl
              have i24_0 := hI24
              rw [lp_X3_twins_24] at hG
              refine lv_iload hx hb dX3_twins_24 (lv_at hl 4 rfl) ?_
              refine lv_aload_n hx hb dX3_twins_26 rfl (lv_at hl 0 rfl) ?_
              refine r_get (C := RX3) (T := TX3) (N := 14) S hK w (k := 0) (by decide) (eC_0 ad _) rfl hinX3 4 (by decide) (List.mem_of_getElem? (i := 1) rfl) rfl dX3_twins_27 ?_
              refine lv_icmp_ge (tgt := 80) hx hb dX3_twins_30 (by decide) (fun c30 => ?_) (fun c30 => ?_)
              · have t30 : (σ 0 4).toInt ≤ v4_24.toInt := qt_le c30
                rw [if_pos c30] at hG
                exact hex24 v2_24 hG.symm ls (lv_sub hl [0, 1, 2, 3] rfl)
              · have t30 : v4_24.toInt < (σ 0 4).toInt := qt_nle c30
                rw [if_neg c30] at hG
                refine lv_aload_n hx hb dX3_twins_33 rfl (lv_at hl 0 rfl) ?_
                refine lv_aload_n hx hb dX3_twins_34 rfl (lv_at hl 0 rfl) ?_
                refine r_get (C := RX3) (T := TX3) (N := 14) S hK w (k := 0) (by decide) (eC_0 ad _) rfl hinX3 1 (by decide) (List.mem_of_getElem? (i := 2) rfl) rfl dX3_twins_35 ?_
                refine lv_iload_n hx hb dX3_twins_38 rfl (lv_at hl 3 rfl) ?_
                have g39 : vp_in v3_11 8 := vpi (by omega) (by omega)
                refine r_aald S hK w (k := 2) (by decide) (eC_2 ad _) (t0 := 2) rfl g39 dX3_twins_39 ?_
                refine r_getN (C := RX2) (T := TX2) (N := 3) S hK hN w (k := (17 + (ix v3_11))) (Nat.lt_of_lt_of_le (Nat.add_lt_add_left (vpl g39) 17) (by decide)) (eC_sg ad (vpl g39) _) rfl hinX2 2 (by decide) 5 rfl rfl dX3_twins_40 ?_
                refine lv_aload_n hx hb dX3_twins_43 rfl (lv_at hl 0 rfl) ?_
                refine r_get (C := RX3) (T := TX3) (N := 14) S hK w (k := 0) (by decide) (eC_0 ad _) rfl hinX3 1 (by decide) (List.mem_of_getElem? (i := 2) rfl) rfl dX3_twins_44 ?_
                refine lv_iload hx hb dX3_twins_47 (lv_at hl 4 rfl) ?_
                have g49 : vp_in v4_24 8 := vpi (by omega) (by omega)
                refine r_aald S hK w (k := 2) (by decide) (eC_2 ad _) (t0 := 2) rfl g49 dX3_twins_49 ?_
                refine r_getN (C := RX2) (T := TX2) (N := 3) S hK hN w (k := (17 + (ix v4_24))) (Nat.lt_of_lt_of_le (Nat.add_lt_add_left (vpl g49) 17) (by decide)) (eC_sg ad (vpl g49) _) rfl hinX2 2 (by decide) 5 rfl rfl dX3_twins_50 ?_
                refine call0i (va_runV (As := [.ref (ad (25 + (ix v3_11))), .ref (ad (25 + (ix v4_24)))]) (rest := []) S (c_X3_areAlike l ad D s.heap.size σ (25 + (ix v3_11)) (25 + (ix v4_24)) (Or.inr ⟨_, (vpl g39), rfl⟩) (Or.inr ⟨_, (vpl g49), rfl⟩)) (cwV 2 S.2.2.2.2 gX3_twins_X3_areAlike rfl rfl rfl ⟨rfl, hd_X3_areAlike⟩ ⟨Nat.le_of_ble_eq_true rfl, Nat.le_of_ble_eq_true rfl⟩) (preV hK hN w (k := 0) (by decide) (eC_0 ad _) (q := (RX3, TX3, 14)) rfl) rfl rfl hl.1 rfl (lv_room (Nat.le_of_ble_eq_true rfl)) dX3_twins_53 ⟨Nat.zero_le _, Nat.zero_le _⟩) ?_
                refine lv_if_eq (tgt := 74) hx hb dX3_twins_56 (by decide) (fun c56 => ?_) (fun c56 => ?_)
                · rw [if_pos c56] at hG
                  refine lv_iinc (v := (v4_24 + 1)) (lv' := [(4, .int (v4_24 + 1)), (0, .ref (ad 0)), (1, .int p1), (2, .int v2_24), (3, .int v3_11)]) hx hb dX3_twins_74 hl (k := 4) rfl rfl (by decide) rfl (fun ls hl => ?_)
                  refine lv_goto (tgt := 24) hx hb dX3_twins_77 (by decide) ?_
                  have b4_24 : (v4_24 + 1).toInt = v4_24.toInt + 1 := inc_toInt (by omega) (by omega)
                  exact ih24 _ v2_24 (v4_24 + 1) (by omega) (by omega) hG hret24 hex24 ls (lv_sub hl [1, 2, 3, 4, 0] rfl)
                · rw [if_neg c56] at hG
                  refine lv_iload_n hx hb dX3_twins_59 rfl (lv_at hl 2 rfl) ?_
                  refine lv_iload_n hx hb dX3_twins_60 rfl (lv_at hl 1 rfl) ?_
                  refine lv_icmp_ne (tgt := 71) hx hb dX3_twins_61 (by decide) (fun c61 => ?_) (fun c61 => ?_)
                  · have t61 : v2_24.toInt ≠ p1.toInt := qt_ne c61
                    rw [if_neg c61] at hG
                    refine lv_iinc (v := (v2_24 + 1)) (lv' := [(2, .int (v2_24 + 1)), (0, .ref (ad 0)), (1, .int p1), (3, .int v3_11), (4, .int v4_24)]) hx hb dX3_twins_71 hl (k := 2) rfl rfl (by decide) rfl (fun ls hl => ?_)
                    refine lv_iinc (v := (v4_24 + 1)) (lv' := [(4, .int (v4_24 + 1)), (2, .int (v2_24 + 1)), (0, .ref (ad 0)), (1, .int p1), (3, .int v3_11)]) hx hb dX3_twins_74 hl (k := 4) rfl rfl (by decide) rfl (fun ls hl => ?_)
                    refine lv_goto (tgt := 24) hx hb dX3_twins_77 (by decide) ?_
                    have b4_24 : (v4_24 + 1).toInt = v4_24.toInt + 1 := inc_toInt (by omega) (by omega)
                    exact ih24 _ (v2_24 + 1) (v4_24 + 1) (by omega) (by omega) hG hret24 hex24 ls (lv_sub hl [2, 3, 1, 4, 0] rfl)
                  · have t61 : v2_24.toInt = p1.toInt := qt_eq c61
                    rw [if_pos c61] at hG
                    refine lv_iload_n hx hb dX3_twins_64 rfl (lv_at hl 3 rfl) ?_
                    refine lv_iload hx hb dX3_twins_65 (lv_at hl 4 rfl) ?_
                    refine call0i (va_runS (As := [.int v3_11, .int v4_24]) (rest := []) S (c_X3_pairNumber l v3_11 v4_24) (va_cwS 2 S.2.2.2.2 gX3_twins_X3_pairNumber rfl rfl rfl hd_X3_pairNumber ⟨Nat.le_of_ble_eq_true rfl, Nat.le_of_ble_eq_true rfl⟩) pre0S rfl rfl hl.1 rfl (lv_room (Nat.le_of_ble_eq_true rfl)) dX3_twins_67 ⟨Nat.zero_le _, Nat.zero_le _⟩) ?_
                    exact end0i S hr hlocks (hret24 _ hG.symm) dX3_twins_70
          have e24 := inc_toInt (a := v3_11) (by omega) (by omega)
          refine L24 200 _ v2_11 (v3_11 + 1) (by omega) (by omega) rfl (fun r hr24 => by rw [hr24] at hG; exact hret11 _ hG.symm) (fun v2_24e hr24 ls hl => ?_) ls (lv_sub hl [1, 2, 3, 4, 0] rfl)
          rw [hr24] at hG
          dsimp only at hG
          refine lv_iinc (v := (v3_11 + 1)) (lv' := [(3, .int (v3_11 + 1)), (0, .ref (ad 0)), (1, .int p1), (2, .int v2_24e)]) hx hb dX3_twins_80 hl (k := 3) rfl rfl (by decide) rfl (fun ls hl => ?_)
          refine lv_goto (tgt := 11) hx hb dX3_twins_83 (by decide) ?_
          have b3_11 : (v3_11 + 1).toInt = v3_11.toInt + 1 := inc_toInt (by omega) (by omega)
          exact ih11 _ v2_24e (v3_11 + 1) (by omega) (by omega) hG hret11 hex11 ls (lv_sub hl [1, 2, 3, 0] rfl)
    refine L11 200 _ 0 0 (by omega) (by omega) rfl (fun r hr11 => by rw [hr11] at hG; exact hG) (fun v2_11e hr11 ls hl => ?_) ls (lv_sub hl [2, 3, 1, 0] rfl)
    rw [hr11] at hG
    dsimp only at hG
    refine lv_iload_n hx hb dX3_twins_86 rfl (lv_at hl 1 rfl) ?_
    refine lv_iconst (v := (-1)) hx hb dX3_twins_87 (by decide) ?_
    refine lv_icmp_ne (tgt := 95) hx hb dX3_twins_88 (by decide) (fun c88 => ?_) (fun c88 => ?_)
    · have t88 : p1.toInt ≠ -1 := qt_ne c88
      rw [if_neg c88] at hG
      refine lv_bipush (v := (-9)) hx hb dX3_twins_95 (by decide) ?_
      exact end0i S hr hlocks hG dX3_twins_97
    · have t88 : p1.toInt = -1 := qt_eq c88
      rw [if_pos c88] at hG
      refine lv_iload_n hx hb dX3_twins_91 rfl (lv_at hl 2 rfl) ?_
      refine lv_goto (tgt := 97) hx hb dX3_twins_92 (by decide) ?_
      exact end0i S hr hlocks hG dX3_twins_97
  · have t2 : p1.toInt < -1 := qt_nle c2
    rw [if_neg c2] at hG
    refine lv_iconst (v := (-1)) hx hb dX3_twins_5 (by decide) ?_
    exact end0i S hr hlocks hG dX3_twins_6
