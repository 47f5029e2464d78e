set_option maxHeartbeats 4000000 in
set_option maxRecDepth 100000 in
theorem c_J6_bitCount_0f7a4 (l : Launch) (p1 : Int32) : Met l yJ6_bitCount_0f7a4 wsJ6_bitCount_0f7a4 ({ frames := 0, cells := 0, slots := 0, locals := 0 }) (Pre0 ([.int p1] : List Value)) (Q0i (f_J6_bitCount_0f7a4 p1)) 0 0 N0 := by
  generalize hG : f_J6_bitCount_0f7a4 p1 = T
  refine head0 (cc := cJ6_bitCount_0f7a4) (maxL := 1) (ret := (some .int)) ([.int p1] : List Value) (by decide) rfl (Nat.le_of_ble_eq_true rfl) ?_
  intro p e s m below meth c S hr hlocks ls hl
  have S : CallFix p m c cJ6_bitCount_0f7a4 1 s ([.int p1] : List Value).toArray wsJ6_bitCount_0f7a4 RJ6 := S
  have hx := S.1
  have hb := S.2.1
  have z0 : (0 : Int32).toInt = 0 := by decide
  have z1 : (1 : Int32).toInt = 1 := by decide
  have hl : lv_has ls 1 [(0, .int p1)] := hl
  rw [f_J6_bitCount_0f7a4] at hG
  refine lv_iload_n hx hb dJ6_bitCount_0f7a4_0 rfl (lv_at hl 0 rfl) ?_
  refine lv_iload_n hx hb dJ6_bitCount_0f7a4_1 rfl (lv_at hl 0 rfl) ?_
  refine lv_iconst (v := 1) hx hb dJ6_bitCount_0f7a4_2 (by decide) ?_
  refine lv_iushr hx hb dJ6_bitCount_0f7a4_3 rfl ?_
  refine lv_ldcw hx hb S.2.2.2.1 (S.2.2.2.2 _ (List.mem_of_getElem? (i := 1) rfl)) dJ6_bitCount_0f7a4_4 ?_
  refine lv_iand hx hb dJ6_bitCount_0f7a4_7 ?_
  refine lv_isub hx hb dJ6_bitCount_0f7a4_8 ?_
  refine lv_istore_n (lv' := [(0, .int (p1 - (((p1.toUInt32 >>> ((1 : Int32).toUInt32 &&& Int32.toUInt32 31)).toInt32) &&& 1431655765)))]) hx hb dJ6_bitCount_0f7a4_9 rfl hl (by decide) rfl (fun ls hl => ?_)
  refine lv_iload_n hx hb dJ6_bitCount_0f7a4_10 rfl (lv_at hl 0 rfl) ?_
  refine lv_ldcw hx hb S.2.2.2.1 (S.2.2.2.2 _ (List.mem_of_getElem? (i := 2) rfl)) dJ6_bitCount_0f7a4_11 ?_
  refine lv_iand hx hb dJ6_bitCount_0f7a4_14 ?_
  refine lv_iload_n hx hb dJ6_bitCount_0f7a4_15 rfl (lv_at hl 0 rfl) ?_
  refine lv_iconst (v := 2) hx hb dJ6_bitCount_0f7a4_16 (by decide) ?_
  refine lv_iushr hx hb dJ6_bitCount_0f7a4_17 rfl ?_
  refine lv_ldcw hx hb S.2.2.2.1 (S.2.2.2.2 _ (List.mem_of_getElem? (i := 2) rfl)) dJ6_bitCount_0f7a4_18 ?_
  refine lv_iand hx hb dJ6_bitCount_0f7a4_21 ?_
  refine lv_iadd hx hb dJ6_bitCount_0f7a4_22 ?_
  refine lv_istore_n (lv' := [(0, .int (((p1 - (((p1.toUInt32 >>> ((1 : Int32).toUInt32 &&& Int32.toUInt32 31)).toInt32) &&& 1431655765)) &&& 858993459) + ((((p1 - (((p1.toUInt32 >>> ((1 : Int32).toUInt32 &&& Int32.toUInt32 31)).toInt32) &&& 1431655765)).toUInt32 >>> ((2 : Int32).toUInt32 &&& Int32.toUInt32 31)).toInt32) &&& 858993459)))]) hx hb dJ6_bitCount_0f7a4_23 rfl hl (by decide) rfl (fun ls hl => ?_)
  refine lv_iload_n hx hb dJ6_bitCount_0f7a4_24 rfl (lv_at hl 0 rfl) ?_
  refine lv_iload_n hx hb dJ6_bitCount_0f7a4_25 rfl (lv_at hl 0 rfl) ?_
  refine lv_iconst (v := 4) hx hb dJ6_bitCount_0f7a4_26 (by decide) ?_
  refine lv_iushr hx hb dJ6_bitCount_0f7a4_27 rfl ?_
  refine lv_iadd hx hb dJ6_bitCount_0f7a4_28 ?_
  refine lv_ldcw hx hb S.2.2.2.1 (S.2.2.2.2 _ (List.mem_of_getElem? (i := 3) rfl)) dJ6_bitCount_0f7a4_29 ?_
  refine lv_iand hx hb dJ6_bitCount_0f7a4_32 ?_
  refine lv_istore_n (lv' := [(0, .int (((((p1 - (((p1.toUInt32 >>> ((1 : Int32).toUInt32 &&& Int32.toUInt32 31)).toInt32) &&& 1431655765)) &&& 858993459) + ((((p1 - (((p1.toUInt32 >>> ((1 : Int32).toUInt32 &&& Int32.toUInt32 31)).toInt32) &&& 1431655765)).toUInt32 >>> ((2 : Int32).toUInt32 &&& Int32.toUInt32 31)).toInt32) &&& 858993459)) + (((((p1 - (((p1.toUInt32 >>> ((1 : Int32).toUInt32 &&& Int32.toUInt32 31)).toInt32) &&& 1431655765)) &&& 858993459) + ((((p1 - (((p1.toUInt32 >>> ((1 : Int32).toUInt32 &&& Int32.toUInt32 31)).toInt32) &&& 1431655765)).toUInt32 >>> ((2 : Int32).toUInt32 &&& Int32.toUInt32 31)).toInt32) &&& 858993459)).toUInt32 >>> ((4 : Int32).toUInt32 &&& Int32.toUInt32 31)).toInt32)) &&& 252645135))]) hx hb dJ6_bitCount_0f7a4_33 rfl hl (by decide) rfl (fun ls hl => ?_)
  refine lv_iload_n hx hb dJ6_bitCount_0f7a4_34 rfl (lv_at hl 0 rfl) ?_
  refine lv_iload_n hx hb dJ6_bitCount_0f7a4_35 rfl (lv_at hl 0 rfl) ?_
  refine lv_bipush (v := 8) hx hb dJ6_bitCount_0f7a4_36 (by decide) ?_
  refine lv_iushr hx hb dJ6_bitCount_0f7a4_38 rfl ?_
  refine lv_iadd hx hb dJ6_bitCount_0f7a4_39 ?_
  refine lv_istore_n (lv' := [(0, .int ((((((p1 - (((p1.toUInt32 >>> ((1 : Int32).toUInt32 &&& Int32.toUInt32 31)).toInt32) &&& 1431655765)) &&& 858993459) + ((((p1 - (((p1.toUInt32 >>> ((1 : Int32).toUInt32 &&& Int32.toUInt32 31)).toInt32) &&& 1431655765)).toUInt32 >>> ((2 : Int32).toUInt32 &&& Int32.toUInt32 31)).toInt32) &&& 858993459)) + (((((p1 - (((p1.toUInt32 >>> ((1 : Int32).toUInt32 &&& Int32.toUInt32 31)).toInt32) &&& 1431655765)) &&& 858993459) + ((((p1 - (((p1.toUInt32 >>> ((1 : Int32).toUInt32 &&& Int32.toUInt32 31)).toInt32) &&& 1431655765)).toUInt32 >>> ((2 : Int32).toUInt32 &&& Int32.toUInt32 31)).toInt32) &&& 858993459)).toUInt32 >>> ((4 : Int32).toUInt32 &&& Int32.toUInt32 31)).toInt32)) &&& 252645135) + (((((((p1 - (((p1.toUInt32 >>> ((1 : Int32).toUInt32 &&& Int32.toUInt32 31)).toInt32) &&& 1431655765)) &&& 858993459) + ((((p1 - (((p1.toUInt32 >>> ((1 : Int32).toUInt32 &&& Int32.toUInt32 31)).toInt32) &&& 1431655765)).toUInt32 >>> ((2 : Int32).toUInt32 &&& Int32.toUInt32 31)).toInt32) &&& 858993459)) + (((((p1 - (((p1.toUInt32 >>> ((1 : Int32).toUInt32 &&& Int32.toUInt32 31)).toInt32) &&& 1431655765)) &&& 858993459) + ((((p1 - (((p1.toUInt32 >>> ((1 : Int32).toUInt32 &&& Int32.toUInt32 31)).toInt32) &&& 1431655765)).toUInt32 >>> ((2 : Int32).toUInt32 &&& Int32.toUInt32 31)).toInt32) &&& 858993459)).toUInt32 >>> ((4 : Int32).toUInt32 &&& Int32.toUInt32 31)).toInt32)) &&& 252645135).toUInt32 >>> ((8 : Int32).toUInt32 &&& Int32.toUInt32 31)).toInt32)))]) hx hb dJ6_bitCount_0f7a4_40 rfl hl (by decide) rfl (fun ls hl => ?_)
  refine lv_iload_n hx hb dJ6_bitCount_0f7a4_41 rfl (lv_at hl 0 rfl) ?_
  refine lv_iload_n hx hb dJ6_bitCount_0f7a4_42 rfl (lv_at hl 0 rfl) ?_
  refine lv_bipush (v := 16) hx hb dJ6_bitCount_0f7a4_43 (by decide) ?_
  refine lv_iushr hx hb dJ6_bitCount_0f7a4_45 rfl ?_
  refine lv_iadd hx hb dJ6_bitCount_0f7a4_46 ?_
  refine lv_istore_n (lv' := [(0, .int (((((((p1 - (((p1.toUInt32 >>> ((1 : Int32).toUInt32 &&& Int32.toUInt32 31)).toInt32) &&& 1431655765)) &&& 858993459) + ((((p1 - (((p1.toUInt32 >>> ((1 : Int32).toUInt32 &&& Int32.toUInt32 31)).toInt32) &&& 1431655765)).toUInt32 >>> ((2 : Int32).toUInt32 &&& Int32.toUInt32 31)).toInt32) &&& 858993459)) + (((((p1 - (((p1.toUInt32 >>> ((1 : Int32).toUInt32 &&& Int32.toUInt32 31)).toInt32) &&& 1431655765)) &&& 858993459) + ((((p1 - (((p1.toUInt32 >>> ((1 : Int32).toUInt32 &&& Int32.toUInt32 31)).toInt32) &&& 1431655765)).toUInt32 >>> ((2 : Int32).toUInt32 &&& Int32.toUInt32 31)).toInt32) &&& 858993459)).toUInt32 >>> ((4 : Int32).toUInt32 &&& Int32.toUInt32 31)).toInt32)) &&& 252645135) + (((((((p1 - (((p1.toUInt32 >>> ((1 : Int32).toUInt32 &&& Int32.toUInt32 31)).toInt32) &&& 1431655765)) &&& 858993459) + ((((p1 - (((p1.toUInt32 >>> ((1 : Int32).toUInt32 &&& Int32.toUInt32 31)).toInt32) &&& 1431655765)).toUInt32 >>> ((2 : Int32).toUInt32 &&& Int32.toUInt32 31)).toInt32) &&& 858993459)) + (((((p1 - (((p1.toUInt32 >>> ((1 : Int32).toUInt32 &&& Int32.toUInt32 31)).toInt32) &&& 1431655765)) &&& 858993459) + ((((p1 - (((p1.toUInt32 >>> ((1 : Int32).toUInt32 &&& Int32.toUInt32 31)).toInt32) &&& 1431655765)).toUInt32 >>> ((2 : Int32).toUInt32 &&& Int32.toUInt32 31)).toInt32) &&& 858993459)).toUInt32 >>> ((4 : Int32).toUInt32 &&& Int32.toUInt32 31)).toInt32)) &&& 252645135).toUInt32 >>> ((8 : Int32).toUInt32 &&& Int32.toUInt32 31)).toInt32)) + ((((((((p1 - (((p1.toUInt32 >>> ((1 : Int32).toUInt32 &&& Int32.toUInt32 31)).toInt32) &&& 1431655765)) &&& 858993459) + ((((p1 - (((p1.toUInt32 >>> ((1 : Int32).toUInt32 &&& Int32.toUInt32 31)).toInt32) &&& 1431655765)).toUInt32 >>> ((2 : Int32).toUInt32 &&& Int32.toUInt32 31)).toInt32) &&& 858993459)) + (((((p1 - (((p1.toUInt32 >>> ((1 : Int32).toUInt32 &&& Int32.toUInt32 31)).toInt32) &&& 1431655765)) &&& 858993459) + ((((p1 - (((p1.toUInt32 >>> ((1 : Int32).toUInt32 &&& Int32.toUInt32 31)).toInt32) &&& 1431655765)).toUInt32 >>> ((2 : Int32).toUInt32 &&& Int32.toUInt32 31)).toInt32) &&& 858993459)).toUInt32 >>> ((4 : Int32).toUInt32 &&& Int32.toUInt32 31)).toInt32)) &&& 252645135) + (((((((p1 - (((p1.toUInt32 >>> ((1 : Int32).toUInt32 &&& Int32.toUInt32 31)).toInt32) &&& 1431655765)) &&& 858993459) + ((((p1 - (((p1.toUInt32 >>> ((1 : Int32).toUInt32 &&& Int32.toUInt32 31)).toInt32) &&& 1431655765)).toUInt32 >>> ((2 : Int32).toUInt32 &&& Int32.toUInt32 31)).toInt32) &&& 858993459)) + (((((p1 - (((p1.toUInt32 >>> ((1 : Int32).toUInt32 &&& Int32.toUInt32 31)).toInt32) &&& 1431655765)) &&& 858993459) + ((((p1 - (((p1.toUInt32 >>> ((1 : Int32).toUInt32 &&& Int32.toUInt32 31)).toInt32) &&& 1431655765)).toUInt32 >>> ((2 : Int32).toUInt32 &&& Int32.toUInt32 31)).toInt32) &&& 858993459)).toUInt32 >>> ((4 : Int32).toUInt32 &&& Int32.toUInt32 31)).toInt32)) &&& 252645135).toUInt32 >>> ((8 : Int32).toUInt32 &&& Int32.toUInt32 31)).toInt32)).toUInt32 >>> ((16 : Int32).toUInt32 &&& Int32.toUInt32 31)).toInt32)))]) hx hb dJ6_bitCount_0f7a4_47 rfl hl (by decide) rfl (fun ls hl => ?_)
  refine lv_iload_n hx hb dJ6_bitCount_0f7a4_48 rfl (lv_at hl 0 rfl) ?_
  refine lv_bipush (v := 63) hx hb dJ6_bitCount_0f7a4_49 (by decide) ?_
  refine lv_iand hx hb dJ6_bitCount_0f7a4_51 ?_
  exact end0i S hr hlocks hG dJ6_bitCount_0f7a4_52
set_option maxHeartbeats 4000000 in
set_option maxRecDepth 100000 in
theorem c_X1_renew (l : Launch) (ad : Nat → Nat) (D : va_G) (sz : Nat) (σ : St) (r0 : Nat) (p1 : Int32) (p2 : Int32) (hr0 : r0 < 4) : Met l yX1_renew wsX1_renew ({ frames := 1, cells := 0, slots := 0, locals := 23 }) (PreW 41 (eC ad) ad D (tyC ad) σ sz ([.ref (ad (9 + r0)), .int p1, .int p2] : List Value)) (QWv 41 (eC ad) ad D (f_X1_renew σ r0 p1 p2) (CA 41 ad sz)) 0 0 (CA 41 ad sz) := by
  generalize hG : f_X1_renew σ r0 p1 p2 = T
  refine headW (cc := cX1_renew) (maxL := 3) (ret := none) ([.ref (ad (9 + r0)), .int p1, .int p2] : List Value) (by decide) rfl (Nat.le_of_ble_eq_true rfl) ?_
  intro p e s m below meth c S hr hlocks hK hN hsz w ls hl
  have S : CallFix p m c cX1_renew 3 s ([.ref (ad (9 + r0)), .int p1, .int p2] : List Value).toArray wsX1_renew RX1 := S
  have hx := S.1
  have hb := S.2.1
  have z0 : (0 : Int32).toInt = 0 := by decide
  have z1 : (1 : Int32).toInt = 1 := by decide
  have hl : lv_has ls 3 [(0, .ref (ad (9 + r0))), (1, .int p1), (2, .int p2)] := hl
  have hinX1 : ∀ w ∈ wsX10, w ∈ wsX1_renew := (fun _ h => List.mem_cons_of_mem _ (List.mem_append_right _ h))
  rw [f_X1_renew] at hG
  refine lv_aload_n hx hb dX1_renew_0 rfl (lv_at hl 0 rfl) ?_
  refine lv_iconst (v := 1) hx hb dX1_renew_1 (by decide) ?_
  refine r_put (C := RX1) (T := TX1) (N := 4) S hK w (k := (9 + r0)) (Nat.lt_of_lt_of_le (Nat.add_lt_add_left hr0 9) (by decide)) (eC_sh ad hr0 _) rfl hinX1 tyX1 tyX1_ok nmX1 0 (by decide) (List.mem_of_getElem? (i := 1) rfl) rfl (x := 1) (ty := .boolean) (by decide +kernel) (by first | rfl | decide) (by first | rfl | decide) (by show _ < List.length _; exact Nat.le_of_ble_eq_true rfl) (sSh ad hr0 _ _ 0 (by decide)) dX1_renew_2 (fun H locs w => ?_)
  refine lv_aload_n hx hb dX1_renew_5 rfl (lv_at hl 0 rfl) ?_
  refine lv_iload_n hx hb dX1_renew_6 rfl (lv_at hl 1 rfl) ?_
  refine r_put (C := RX1) (T := TX1) (N := 4) S hK w (k := (9 + r0)) (Nat.lt_of_lt_of_le (Nat.add_lt_add_left hr0 9) (by decide)) (eC_sh ad hr0 _) rfl hinX1 tyX1 tyX1_ok nmX1 1 (by decide) (List.mem_of_getElem? (i := 2) rfl) rfl (x := p1) (ty := .int) (by decide +kernel) rfl rfl (by show _ < List.length _; exact Nat.le_of_ble_eq_true rfl) (sSh ad hr0 _ _ 1 (by decide)) dX1_renew_7 (fun H locs w => ?_)
  refine lv_aload_n hx hb dX1_renew_10 rfl (lv_at hl 0 rfl) ?_
  refine lv_iload_n hx hb dX1_renew_11 rfl (lv_at hl 2 rfl) ?_
  refine r_put (C := RX1) (T := TX1) (N := 4) S hK w (k := (9 + r0)) (Nat.lt_of_lt_of_le (Nat.add_lt_add_left hr0 9) (by decide)) (eC_sh ad hr0 _) rfl hinX1 tyX1 tyX1_ok nmX1 2 (by decide) (List.mem_of_getElem? (i := 3) rfl) rfl (x := p2) (ty := .int) (by decide +kernel) rfl rfl (by show _ < List.length _; exact Nat.le_of_ble_eq_true rfl) (sSh ad hr0 _ _ 2 (by decide)) dX1_renew_12 (fun H locs w => ?_)
  refine lv_aload_n hx hb dX1_renew_15 rfl (lv_at hl 0 rfl) ?_
  refine r_get (C := RX1) (T := TX1) (N := 4) S hK w (k := (9 + r0)) (Nat.lt_of_lt_of_le (Nat.add_lt_add_left hr0 9) (by decide)) (eC_sh ad hr0 _) rfl hinX1 3 (by decide) (List.mem_of_getElem? (i := 4) rfl) rfl dX1_renew_16 ?_
  refine lv_iconst (v := 0) hx hb dX1_renew_19 (by decide) ?_
  refine callFill (cA := ad 100) (N := 90) (by decide) S hl.1 hK hN w (k := (13 + r0)) (Nat.lt_of_lt_of_le (Nat.add_lt_add_left hr0 13) (by decide)) (fun f => eC_sc ad hr0 f) rfl gX1_renew_J7_fill_53178 (Nat.le_of_ble_eq_true rfl) (Nat.le_of_ble_eq_true rfl) dX1_renew_20 ⟨Nat.zero_le _, Nat.zero_le _⟩ (fun H locs w => ?_)
  exact endWv S hr hlocks w hG dX1_renew_23
set_option maxHeartbeats 4000000 in
set_option maxRecDepth 100000 in
theorem c_X1_cut (l : Launch) (ad : Nat → Nat) (D : va_G) (sz : Nat) (σ : St) (r0 : Nat) (p1 : Int32) (hr0 : r0 < 4) : Met l yX1_cut wsX1_cut ({ frames := 0, cells := 0, slots := 0, locals := 0 }) (PreW 41 (eC ad) ad D (tyC ad) σ sz ([.ref (ad (9 + r0)), .int p1] : List Value)) (Q0i (f_X1_cut σ r0 p1)) 0 0 N0 := by
  generalize hG : f_X1_cut σ r0 p1 = T
  refine headW (cc := cX1_cut) (maxL := 2) (ret := (some .int)) ([.ref (ad (9 + r0)), .int p1] : List Value) (by decide) rfl (Nat.le_of_ble_eq_true rfl) ?_
  intro p e s m below meth c S hr hlocks hK hN hsz w ls hl
  have S : CallFix p m c cX1_cut 2 s ([.ref (ad (9 + r0)), .int p1] : List Value).toArray wsX1_cut RX1 := S
  have hx := S.1
  have hb := S.2.1
  have z0 : (0 : Int32).toInt = 0 := by decide
  have z1 : (1 : Int32).toInt = 1 := by decide
  have hl : lv_has ls 2 [(0, .ref (ad (9 + r0))), (1, .int p1)] := hl
  have hinX1 : ∀ w ∈ wsX10, w ∈ wsX1_cut := (fun _ h => List.mem_cons_of_mem _ (List.mem_append_right _ h))
  rw [f_X1_cut] at hG
  refine lv_aload_n hx hb dX1_cut_0 rfl (lv_at hl 0 rfl) ?_
  refine r_get (C := RX1) (T := TX1) (N := 4) S hK w (k := (9 + r0)) (Nat.lt_of_lt_of_le (Nat.add_lt_add_left hr0 9) (by decide)) (eC_sh ad hr0 _) rfl hinX1 1 (by decide) (List.mem_of_getElem? (i := 1) rfl) rfl dX1_cut_1 ?_
  refine lv_if_ne (tgt := 10) hx hb dX1_cut_4 (by decide) (fun c4 => ?_) (fun c4 => ?_)
  · have t4 : (σ (9 + r0) 1).toInt ≠ 0 := qt_ne c4
    rw [if_neg c4] at hG
    refine lv_aload_n hx hb dX1_cut_10 rfl (lv_at hl 0 rfl) ?_
    refine r_get (C := RX1) (T := TX1) (N := 4) S hK w (k := (9 + r0)) (Nat.lt_of_lt_of_le (Nat.add_lt_add_left hr0 9) (by decide)) (eC_sh ad hr0 _) rfl hinX1 1 (by decide) (List.mem_of_getElem? (i := 1) rfl) rfl dX1_cut_11 ?_
    refine lv_iconst (v := 1) hx hb dX1_cut_14 (by decide) ?_
    refine lv_icmp_ne (tgt := 23) hx hb dX1_cut_15 (by decide) (fun c15 => ?_) (fun c15 => ?_)
    · have t15 : (σ (9 + r0) 1).toInt ≠ 1 := qt_ne c15
      rw [if_neg c15] at hG
      refine lv_iload_n hx hb dX1_cut_23 rfl (lv_at hl 1 rfl) ?_
      exact end0i S hr hlocks hG dX1_cut_24
    · have t15 : (σ (9 + r0) 1).toInt = 1 := qt_eq c15
      rw [if_pos c15] at hG
      refine lv_iload_n hx hb dX1_cut_18 rfl (lv_at hl 1 rfl) ?_
      refine lv_i2s hx hb dX1_cut_19 rfl ?_
      refine lv_goto (tgt := 24) hx hb dX1_cut_20 (by decide) ?_
      exact end0i S hr hlocks hG dX1_cut_24
  · have t4 : (σ (9 + r0) 1).toInt = 0 := qt_eq c4
    rw [if_pos c4] at hG
    refine lv_iload_n hx hb dX1_cut_7 rfl (lv_at hl 1 rfl) ?_
    refine lv_i2b hx hb dX1_cut_8 rfl ?_
    exact end0i S hr hlocks hG dX1_cut_9
set_option maxHeartbeats 4000000 in
set_option maxRecDepth 100000 in
theorem c_X1_lacks (l : Launch) (ad : Nat → Nat) (D : va_G) (sz : Nat) (σ : St) (r0 : Nat) (p1 : Int32) (p2 : Int64) (hr0 : r0 < 4) : Met l yX1_lacks wsX1_lacks ({ frames := 0, cells := 0, slots := 0, locals := 0 }) (PreW 41 (eC ad) ad D (tyC ad) σ sz ([.ref (ad (9 + r0)), .int p1, .long p2] : List Value)) (Q0i (f_X1_lacks σ r0 p1 p2)) 0 0 N0 := by
  generalize hG : f_X1_lacks σ r0 p1 p2 = T
  refine headW (cc := cX1_lacks) (maxL := 4) (ret := (some .boolean)) ([.ref (ad (9 + r0)), .int p1, .long p2] : List Value) (by decide) rfl (Nat.le_of_ble_eq_true rfl) ?_
  intro p e s m below meth c S hr hlocks hK hN hsz w ls hl
  have S : CallFix p m c cX1_lacks 4 s ([.ref (ad (9 + r0)), .int p1, .long p2] : List Value).toArray wsX1_lacks RX1 := S
  have hx := S.1
  have hb := S.2.1
  have z0 : (0 : Int32).toInt = 0 := by decide
  have z1 : (1 : Int32).toInt = 1 := by decide
  have hl : lv_has ls 4 [(0, .ref (ad (9 + r0))), (1, .int p1), (2, .long p2)] := hl
  have hinX1 : ∀ w ∈ wsX10, w ∈ wsX1_lacks := (fun _ h => List.mem_cons_of_mem _ (List.mem_append_right _ h))
  rw [f_X1_lacks] at hG
  refine lv_iload_n hx hb dX1_lacks_0 rfl (lv_at hl 1 rfl) ?_
  refine lv_if_lt (tgt := 17) hx hb dX1_lacks_1 (by decide) (fun c1 => ?_) (fun c1 => ?_)
  · have t1 : p1.toInt < 0 := qt_lt c1
    rw [if_pos c1] at hG
    refine lv_iconst (v := 1) hx hb dX1_lacks_17 (by decide) ?_
    refine lv_goto (tgt := 22) hx hb dX1_lacks_18 (by decide) ?_
    exact end0z S hr hlocks (Or.inr rfl) hG dX1_lacks_22
  · have t1 : 0 ≤ p1.toInt := qt_nlt c1
    rw [if_neg c1] at hG
    refine lv_iload_n hx hb dX1_lacks_4 rfl (lv_at hl 1 rfl) ?_
    refine lv_i2l hx hb dX1_lacks_5 rfl ?_
    refine lv_lload_n hx hb dX1_lacks_6 rfl (lv_at hl 2 rfl) ?_
    refine lv_ladd hx hb dX1_lacks_7 ?_
    refine lv_aload_n hx hb dX1_lacks_8 rfl (lv_at hl 0 rfl) ?_
    refine r_get (C := RX1) (T := TX1) (N := 4) S hK w (k := (9 + r0)) (Nat.lt_of_lt_of_le (Nat.add_lt_add_left hr0 9) (by decide)) (eC_sh ad hr0 _) rfl hinX1 2 (by decide) (List.mem_of_getElem? (i := 1) rfl) rfl dX1_lacks_9 ?_
    refine lv_i2l hx hb dX1_lacks_12 rfl ?_
    refine W.lcmp hx hb dX1_lacks_13 ?_
    refine lv_if_le (tgt := 21) hx hb dX1_lacks_14 (by decide) (fun c14 => ?_) (fun c14 => ?_)
    · rw [if_pos c14] at hG
      refine lv_iconst (v := 0) hx hb dX1_lacks_21 (by decide) ?_
      exact end0z S hr hlocks (Or.inl rfl) hG dX1_lacks_22
    · rw [if_neg c14] at hG
      refine lv_iconst (v := 1) hx hb dX1_lacks_17 (by decide) ?_
      refine lv_goto (tgt := 22) hx hb dX1_lacks_18 (by decide) ?_
      exact end0z S hr hlocks (Or.inr rfl) hG dX1_lacks_22
set_option maxHeartbeats 4000000 in
set_option maxRecDepth 100000 in
theorem c_X3_isSheet (l : Launch) (p1 : Int32) : Met l yX3_isSheet wsX3_isSheet ({ frames := 0, cells := 0, slots := 0, locals := 0 }) (Pre0 ([.int p1] : List Value)) (Q0i (f_X3_isSheet p1)) 0 0 N0 := by
  generalize hG : f_X3_isSheet p1 = T
  refine head0 (cc := cX3_isSheet) (maxL := 1) (ret := (some .boolean)) ([.int p1] : List Value) (by decide) rfl (Nat.le_of_ble_eq_true rfl) ?_
  intro p e s m below meth c S hr hlocks ls hl
  have S : CallFix p m c cX3_isSheet 1 s ([.int p1] : List Value).toArray wsX3_isSheet RX3 := S
  have hx := S.1
  have hb := S.2.1
  have z0 : (0 : Int32).toInt = 0 := by decide
  have z1 : (1 : Int32).toInt = 1 := by decide
  have hl : lv_has ls 1 [(0, .int p1)] := hl
  rw [f_X3_isSheet] at hG
  refine lv_iload_n hx hb dX3_isSheet_0 rfl (lv_at hl 0 rfl) ?_
  refine lv_if_lt (tgt := 13) hx hb dX3_isSheet_1 (by decide) (fun c1 => ?_) (fun c1 => ?_)
  · have t1 : p1.toInt < 0 := qt_lt c1
    rw [if_pos c1] at hG
    refine lv_iconst (v := 0) hx hb dX3_isSheet_13 (by decide) ?_
    exact end0z S hr hlocks (Or.inl rfl) hG dX3_isSheet_14
  · have t1 : 0 ≤ p1.toInt := qt_nlt c1
    rw [if_neg c1] at hG
    refine lv_iload_n hx hb dX3_isSheet_4 rfl (lv_at hl 0 rfl) ?_
    refine lv_iconst (v := 4) hx hb dX3_isSheet_5 (by decide) ?_
    refine lv_icmp_ge (tgt := 13) hx hb dX3_isSheet_6 (by decide) (fun c6 => ?_) (fun c6 => ?_)
    · have t6 : 4 ≤ p1.toInt := qt_le c6
      rw [if_pos c6] at hG
      refine lv_iconst (v := 0) hx hb dX3_isSheet_13 (by decide) ?_
      exact end0z S hr hlocks (Or.inl rfl) hG dX3_isSheet_14
    · have t6 : p1.toInt < 4 := qt_nle c6
      rw [if_neg c6] at hG
      refine lv_iconst (v := 1) hx hb dX3_isSheet_9 (by decide) ?_
      refine lv_goto (tgt := 14) hx hb dX3_isSheet_10 (by decide) ?_
      exact end0z S hr hlocks (Or.inr rfl) hG dX3_isSheet_14
set_option maxHeartbeats 4000000 in
set_option maxRecDepth 100000 in
theorem c_X3_refused (l : Launch) (ad : Nat → Nat) (D : va_G) (sz : Nat) (σ : St) (p1 : Int32) : Met l yX3_refused wsX3_refused ({ frames := 0, cells := 0, slots := 0, locals := 0 }) (PreW 41 (eC ad) ad D (tyC ad) σ sz ([.ref (ad 0), .int p1] : List Value)) (QWi 41 (eC ad) ad D (f_X3_refused σ p1) (CA 41 ad sz)) 0 0 (CA 41 ad sz) := by
  generalize hG : f_X3_refused σ p1 = T
  refine headW (cc := cX3_refused) (maxL := 2) (ret := (some .int)) ([.ref (ad 0), .int p1] : List Value) (by decide) rfl (Nat.le_of_ble_eq_true rfl) ?_
  intro p e s m below meth c S hr hlocks hK hN hsz w ls hl
  have S : CallFix p m c cX3_refused 2 s ([.ref (ad 0), .int p1] : List Value).toArray wsX3_refused RX3 := S
  have hx := S.1
  have hb := S.2.1
  have z0 : (0 : Int32).toInt = 0 := by decide
  have z1 : (1 : Int32).toInt = 1 := by decide
  have hl : lv_has ls 2 [(0, .ref (ad 0)), (1, .int p1)] := hl
  have hinX3 : ∀ w ∈ wsX30, w ∈ wsX3_refused := (fun _ h => List.mem_cons_of_mem _ (List.mem_append_right _ h))
  rw [f_X3_refused] at hG
  refine lv_aload_n hx hb dX3_refused_0 rfl (lv_at hl 0 rfl) ?_
  refine lv_iconst (v := 0) hx hb dX3_refused_1 (by decide) ?_
  refine r_put (C := RX3) (T := TX3) (N := 14) S hK w (k := 0) (by decide) (eC_0 ad _) rfl hinX3 tyX3 tyX3_ok nmX3 9 (by decide) (List.mem_of_getElem? (i := 1) rfl) rfl (x := 0) (ty := .int) (by decide +kernel) rfl rfl (by show _ < List.length _; exact Nat.le_of_ble_eq_true rfl) (sO ad _ _ 9 (by decide)) dX3_refused_2 (fun H locs w => ?_)
  refine lv_iload_n hx hb dX3_refused_5 rfl (lv_at hl 1 rfl) ?_
  exact endWi S hr hlocks w hG dX3_refused_6
set_option maxHeartbeats 4000000 in
set_option maxRecDepth 100000 in
theorem c_X3_isLane (l : Launch) (p1 : Int32) : Met l yX3_isLane wsX3_isLane ({ frames := 0, cells := 0, slots := 0, locals := 0 }) (Pre0 ([.int p1] : List Value)) (Q0i (f_X3_isLane p1)) 0 0 N0 := by
  generalize hG : f_X3_isLane p1 = T
  refine head0 (cc := cX3_isLane) (maxL := 1) (ret := (some .boolean)) ([.int p1] : List Value) (by decide) rfl (Nat.le_of_ble_eq_true rfl) ?_
  intro p e s m below meth c S hr hlocks ls hl
  have S : CallFix p m c cX3_isLane 1 s ([.int p1] : List Value).toArray wsX3_isLane RX3 := S
  have hx := S.1
  have hb := S.2.1
  have z0 : (0 : Int32).toInt = 0 := by decide
  have z1 : (1 : Int32).toInt = 1 := by decide
  have hl : lv_has ls 1 [(0, .int p1)] := hl
  rw [f_X3_isLane] at hG
  refine lv_iload_n hx hb dX3_isLane_0 rfl (lv_at hl 0 rfl) ?_
  refine lv_if_lt (tgt := 13) hx hb dX3_isLane_1 (by decide) (fun c1 => ?_) (fun c1 => ?_)
  · have t1 : p1.toInt < 0 := qt_lt c1
    rw [if_pos c1] at hG
    refine lv_iconst (v := 0) hx hb dX3_isLane_13 (by decide) ?_
    exact end0z S hr hlocks (Or.inl rfl) hG dX3_isLane_14
  · have t1 : 0 ≤ p1.toInt := qt_nlt c1
    rw [if_neg c1] at hG
    refine lv_iload_n hx hb dX3_isLane_4 rfl (lv_at hl 0 rfl) ?_
    refine lv_iconst (v := 3) hx hb dX3_isLane_5 (by decide) ?_
    refine lv_icmp_ge (tgt := 13) hx hb dX3_isLane_6 (by decide) (fun c6 => ?_) (fun c6 => ?_)
    · have t6 : 3 ≤ p1.toInt := qt_le c6
      rw [if_pos c6] at hG
      refine lv_iconst (v := 0) hx hb dX3_isLane_13 (by decide) ?_
      exact end0z S hr hlocks (Or.inl rfl) hG dX3_isLane_14
    · have t6 : p1.toInt < 3 := qt_nle c6
      rw [if_neg c6] at hG
      refine lv_iconst (v := 1) hx hb dX3_isLane_9 (by decide) ?_
      refine lv_goto (tgt := 14) hx hb dX3_isLane_10 (by decide) ?_
      exact end0z S hr hlocks (Or.inr rfl) hG dX3_isLane_14
set_option maxHeartbeats 4000000 in
set_option maxRecDepth 100000 in
theorem c_X3_faulted (l : Launch) (ad : Nat → Nat) (D : va_G) (sz : Nat) (σ : St) (p1 : Int32) : Met l yX3_faulted wsX3_faulted ({ frames := 0, cells := 0, slots := 0, locals := 0 }) (PreW 41 (eC ad) ad D (tyC ad) σ sz ([.ref (ad 0), .int p1] : List Value)) (QWi 41 (eC ad) ad D (f_X3_faulted σ p1) (CA 41 ad sz)) 0 0 (CA 41 ad sz) := by
  generalize hG : f_X3_faulted σ p1 = T
  refine headW (cc := cX3_faulted) (maxL := 2) (ret := (some .int)) ([.ref (ad 0), .int p1] : List Value) (by decide) rfl (Nat.le_of_ble_eq_true rfl) ?_
  intro p e s m below meth c S hr hlocks hK hN hsz w ls hl
  have S : CallFix p m c cX3_faulted 2 s ([.ref (ad 0), .int p1] : List Value).toArray wsX3_faulted RX3 := S
  have hx := S.1
  have hb := S.2.1
  have z0 : (0 : Int32).toInt = 0 := by decide
  have z1 : (1 : Int32).toInt = 1 := by decide
  have hl : lv_has ls 2 [(0, .ref (ad 0)), (1, .int p1)] := hl
  have hinX3 : ∀ w ∈ wsX30, w ∈ wsX3_faulted := (fun _ h => List.mem_cons_of_mem _ (List.mem_append_right _ h))
  rw [f_X3_faulted] at hG
  refine lv_aload_n hx hb dX3_faulted_0 rfl (lv_at hl 0 rfl) ?_
  refine lv_iload_n hx hb dX3_faulted_1 rfl (lv_at hl 1 rfl) ?_
  refine r_put (C := RX3) (T := TX3) (N := 14) S hK w (k := 0) (by decide) (eC_0 ad _) rfl hinX3 tyX3 tyX3_ok nmX3 9 (by decide) (List.mem_of_getElem? (i := 1) rfl) rfl (x := p1) (ty := .int) (by decide +kernel) rfl rfl (by show _ < List.length _; exact Nat.le_of_ble_eq_true rfl) (sO ad _ _ 9 (by decide)) dX3_faulted_2 (fun H locs w => ?_)
  refine lv_bipush (v := (-10)) hx hb dX3_faulted_5 (by decide) ?_
  refine lv_iload_n hx hb dX3_faulted_7 rfl (lv_at hl 1 rfl) ?_
  refine lv_isub hx hb dX3_faulted_8 ?_
  exact endWi S hr hlocks w hG dX3_faulted_9
set_option maxHeartbeats 4000000 in
set_option maxRecDepth 100000 in
theorem c_X3_spanRefusal (l : Launch) (ad : Nat → Nat) (D : va_G) (sz : Nat) (σ : St) (p1 : Int32) (p2 : Int32) (p3 : Int32) (p4 : Int64) : Met l yX3_spanRefusal wsX3_spanRefusal ({ frames := 1, cells := 0, slots := 0, locals := 23 }) (PreW 41 (eC ad) ad D (tyC ad) σ sz ([.ref (ad 0), .int p1, .int p2, .int p3, .long p4] : List Value)) (QWi 41 (eC ad) ad D (f_X3_spanRefusal σ p1 p2 p3 p4) (CA 41 ad sz)) 0 0 (CA 41 ad sz) := by
  generalize hG : f_X3_spanRefusal σ p1 p2 p3 p4 = T
  refine headW (cc := cX3_spanRefusal) (maxL := 7) (ret := (some .int)) ([.ref (ad 0), .int p1, .int p2, .int p3, .long p4] : List Value) (by decide) rfl (Nat.le_of_ble_eq_true rfl) ?_
  intro p e s m below meth c S hr hlocks hK hN hsz w ls hl
  have S : CallFix p m c cX3_spanRefusal 7 s ([.ref (ad 0), .int p1, .int p2, .int p3, .long p4] : List Value).toArray wsX3_spanRefusal RX3 := S
  have hx := S.1
  have hb := S.2.1
  have z0 : (0 : Int32).toInt = 0 := by decide
  have z1 : (1 : Int32).toInt = 1 := by decide
  have hl : lv_has ls 7 [(0, .ref (ad 0)), (1, .int p1), (2, .int p2), (3, .int p3), (4, .long p4)] := hl
  have hinX3 : ∀ w ∈ wsX30, w ∈ wsX3_spanRefusal := (fun _ h => List.mem_cons_of_mem _ (List.mem_append_left _ (List.mem_append_right _ h)))
  have hinX1 : ∀ w ∈ wsX10, w ∈ wsX3_spanRefusal := (fun _ h => List.mem_cons_of_mem _ (List.mem_append_right _ h))
  rw [f_X3_spanRefusal] at hG
  refine lv_iload_n hx hb dX3_spanRefusal_0 rfl (lv_at hl 1 rfl) ?_
  refine call0i (va_runS (As := [.int p1]) (rest := []) S (c_X3_isSheet l p1) (va_cwS 1 S.2.2.2.2 gX3_spanRefusal_X3_isSheet rfl rfl rfl hd_X3_isSheet ⟨Nat.le_of_ble_eq_true rfl, Nat.le_of_ble_eq_true rfl⟩) pre0S rfl rfl hl.1 rfl (lv_room (Nat.le_of_ble_eq_true rfl)) dX3_spanRefusal_1 ⟨Nat.zero_le _, Nat.zero_le _⟩) ?_
  refine lv_if_ne (tgt := 13) hx hb dX3_spanRefusal_4 (by decide) (fun c4 => ?_) (fun c4 => ?_)
  · have t4 := bf_isSheet_n c4
    rw [if_neg c4] at hG
    refine lv_iload_n hx hb dX3_spanRefusal_13 rfl (lv_at hl 2 rfl) ?_
    refine call0i (va_runS (As := [.int p2]) (rest := []) S (c_X3_isLane l p2) (va_cwS 1 S.2.2.2.2 gX3_spanRefusal_X3_isLane rfl rfl rfl hd_X3_isLane ⟨Nat.le_of_ble_eq_true rfl, Nat.le_of_ble_eq_true rfl⟩) pre0S rfl rfl hl.1 rfl (lv_room (Nat.le_of_ble_eq_true rfl)) dX3_spanRefusal_14 ⟨Nat.zero_le _, Nat.zero_le _⟩) ?_
    refine lv_if_ne (tgt := 27) hx hb dX3_spanRefusal_17 (by decide) (fun c17 => ?_) (fun c17 => ?_)
    · rw [if_neg c17] at hG
      refine lv_aload_n hx hb dX3_spanRefusal_27 rfl (lv_at hl 0 rfl) ?_
      refine r_get (C := RX3) (T := TX3) (N := 14) S hK w (k := 0) (by decide) (eC_0 ad _) rfl hinX3 0 (by decide) (List.mem_of_getElem? (i := 1) rfl) rfl dX3_spanRefusal_28 ?_
      refine lv_iload_n hx hb dX3_spanRefusal_31 rfl (lv_at hl 1 rfl) ?_
      have g32 : vp_in p1 4 := vpi (by omega) (by omega)
      refine r_aald S hK w (k := 1) (by decide) (eC_1 ad _) (t0 := 1) rfl g32 dX3_spanRefusal_32 ?_
      refine lv_astore (lv' := [(6, .ref (ad (9 + (ix p1)))), (0, .ref (ad 0)), (1, .int p1), (2, .int p2), (3, .int p3), (4, .long p4)]) hx hb dX3_spanRefusal_33 hl (by decide) rfl (fun ls hl => ?_)
      refine lv_aload hx hb dX3_spanRefusal_35 (lv_at hl 0 rfl) ?_
      refine r_getN (C := RX1) (T := TX1) (N := 4) S hK hN w (k := (9 + (ix p1))) (Nat.lt_of_lt_of_le (Nat.add_lt_add_left (vpl g32) 9) (by decide)) (eC_sh ad (vpl g32) _) rfl hinX1 0 (by decide) 0 rfl rfl dX3_spanRefusal_37 ?_
      refine lv_if_eq (tgt := 58) hx hb dX3_spanRefusal_40 (by decide) (fun c40 => ?_) (fun c40 => ?_)
      · have t40 : (σ (9 + (ix p1)) 0).toInt = 0 := qt_eq c40
        rw [if_pos c40] at hG
        refine lv_aload hx hb dX3_spanRefusal_58 (lv_at hl 0 rfl) ?_
        refine r_getN (C := RX1) (T := TX1) (N := 4) S hK hN w (k := (9 + (ix p1))) (Nat.lt_of_lt_of_le (Nat.add_lt_add_left (vpl g32) 9) (by decide)) (eC_sh ad (vpl g32) _) rfl hinX1 0 (by decide) 0 rfl rfl dX3_spanRefusal_60 ?_
        refine lv_if_ne (tgt := 72) hx hb dX3_spanRefusal_63 (by decide) (fun c63 => ?_) (fun c63 => ?_)
        · have t63 : (σ (9 + (ix p1)) 0).toInt ≠ 0 := qt_ne c63
          rw [if_neg c63] at hG
          refine lv_lload hx hb dX3_spanRefusal_72 (lv_at hl 5 rfl) ?_
          refine lv_lconst (v := 0) hx hb dX3_spanRefusal_74 (by decide) ?_
          refine W.lcmp hx hb dX3_spanRefusal_75 ?_
          refine lv_if_ge (tgt := 85) hx hb dX3_spanRefusal_76 (by decide) (fun c76 => ?_) (fun c76 => ?_)
          · rw [if_pos c76] at hG
            refine lv_aload hx hb dX3_spanRefusal_85 (lv_at hl 0 rfl) ?_
            refine lv_iload_n hx hb dX3_spanRefusal_87 rfl (lv_at hl 4 rfl) ?_
            refine lv_lload hx hb dX3_spanRefusal_88 (lv_at hl 5 rfl) ?_
            refine call0i (va_runVN (As := [.int p3, .long p4]) (rest := []) S (c_X1_lacks l ad D s.heap.size σ (ix p1) p3 p4 (vpl g32)) ⟨va_cnB 2 S.2.2.2.2 gX3_spanRefusal_X1_lacks_n253 rfl rfl rfl (hN.m 3 rfl) (S.2.2.2.2 _ (List.mem_of_getElem? (i := 19) rfl)) hd_X1_lacks ⟨Nat.le_of_ble_eq_true rfl, Nat.le_of_ble_eq_true rfl⟩, S.2.2.2.2 _ (List.mem_of_getElem? (i := 18) rfl), S.2.2.2.2 _ (List.mem_of_getElem? (i := 20) rfl)⟩ (preV hK hN w (k := (9 + (ix p1))) (Nat.lt_of_lt_of_le (Nat.add_lt_add_left (vpl g32) 9) (by decide)) (eC_sh ad (vpl g32) _) (q := (RX1, TX1, 4)) rfl) rfl rfl hl.1 rfl (lv_room (Nat.le_of_ble_eq_true rfl)) dX3_spanRefusal_90 ⟨Nat.zero_le _, Nat.zero_le _⟩) ?_
            refine lv_if_eq (tgt := 102) hx hb dX3_spanRefusal_93 (by decide) (fun c93 => ?_) (fun c93 => ?_)
            · have t93 := bf_lacks_z c93
              rw [if_pos c93] at hG
              refine lv_aload_n hx hb dX3_spanRefusal_102 rfl (lv_at hl 1 rfl) ?_
              refine lv_iconst (v := 0) hx hb dX3_spanRefusal_103 (by decide) ?_
              refine r_put (C := RX3) (T := TX3) (N := 14) S hK w (k := 0) (by decide) (eC_0 ad _) rfl hinX3 tyX3 tyX3_ok nmX3 9 (by decide) (List.mem_of_getElem? (i := 2) rfl) rfl (x := 0) (ty := .int) (by decide +kernel) rfl rfl (by show _ < List.length _; exact Nat.le_of_ble_eq_true rfl) (sO ad _ _ 9 (by decide)) dX3_spanRefusal_104 (fun H locs w => ?_)
              refine lv_iconst (v := 0) hx hb dX3_spanRefusal_107 (by decide) ?_
              exact endWi S hr hlocks w hG dX3_spanRefusal_108
            · rw [if_neg c93] at hG
              refine lv_aload_n hx hb dX3_spanRefusal_96 rfl (lv_at hl 1 rfl) ?_
              refine lv_iconst (v := 3) hx hb dX3_spanRefusal_97 (by decide) ?_
              refine callWi w (va_runV (As := [.int 3]) (rest := []) S (c_X3_faulted l ad D s.heap.size σ 3) (cwV 1 S.2.2.2.2 gX3_spanRefusal_X3_faulted rfl rfl rfl ⟨rfl, hd_X3_faulted⟩ ⟨Nat.le_of_ble_eq_true rfl, Nat.le_of_ble_eq_true rfl⟩) (preV hK hN w (k := 0) (by decide) (eC_0 ad _) (q := (RX3, TX3, 14)) rfl) rfl rfl hl.1 rfl (lv_room (Nat.le_of_ble_eq_true rfl)) dX3_spanRefusal_98 ⟨Nat.zero_le _, Nat.zero_le _⟩) (fun H locs w => ?_)
              exact endWi S hr hlocks w hG dX3_spanRefusal_101
          · rw [if_neg c76] at hG
            refine lv_aload_n hx hb dX3_spanRefusal_79 rfl (lv_at hl 1 rfl) ?_
            refine lv_iconst (v := 4) hx hb dX3_spanRefusal_80 (by decide) ?_
            refine callWi w (va_runV (As := [.int 4]) (rest := []) S (c_X3_faulted l ad D s.heap.size σ 4) (cwV 1 S.2.2.2.2 gX3_spanRefusal_X3_faulted rfl rfl rfl ⟨rfl, hd_X3_faulted⟩ ⟨Nat.le_of_ble_eq_true rfl, Nat.le_of_ble_eq_true rfl⟩) (preV hK hN w (k := 0) (by decide) (eC_0 ad _) (q := (RX3, TX3, 14)) rfl) rfl rfl hl.1 rfl (lv_room (Nat.le_of_ble_eq_true rfl)) dX3_spanRefusal_81 ⟨Nat.zero_le _, Nat.zero_le _⟩) (fun H locs w => ?_)
            exact endWi S hr hlocks w hG dX3_spanRefusal_84
        · have t63 : (σ (9 + (ix p1)) 0).toInt = 0 := qt_eq c63
          rw [if_pos c63] at hG
          refine lv_aload_n hx hb dX3_spanRefusal_66 rfl (lv_at hl 1 rfl) ?_
          refine lv_iconst (v := 1) hx hb dX3_spanRefusal_67 (by decide) ?_
          refine callWi w (va_runV (As := [.int 1]) (rest := []) S (c_X3_faulted l ad D s.heap.size σ 1) (cwV 1 S.2.2.2.2 gX3_spanRefusal_X3_faulted rfl rfl rfl ⟨rfl, hd_X3_faulted⟩ ⟨Nat.le_of_ble_eq_true rfl, Nat.le_of_ble_eq_true rfl⟩) (preV hK hN w (k := 0) (by decide) (eC_0 ad _) (q := (RX3, TX3, 14)) rfl) rfl rfl hl.1 rfl (lv_room (Nat.le_of_ble_eq_true rfl)) dX3_spanRefusal_68 ⟨Nat.zero_le _, Nat.zero_le _⟩) (fun H locs w => ?_)
          exact endWi S hr hlocks w hG dX3_spanRefusal_71
      · have t40 : (σ (9 + (ix p1)) 0).toInt ≠ 0 := qt_ne c40
        rw [if_neg c40] at hG
        refine lv_aload hx hb dX3_spanRefusal_43 (lv_at hl 0 rfl) ?_
        refine r_getN (C := RX1) (T := TX1) (N := 4) S hK hN w (k := (9 + (ix p1))) (Nat.lt_of_lt_of_le (Nat.add_lt_add_left (vpl g32) 9) (by decide)) (eC_sh ad (vpl g32) _) rfl hinX1 1 (by decide) 1 rfl rfl dX3_spanRefusal_45 ?_
        refine lv_iload_n hx hb dX3_spanRefusal_48 rfl (lv_at hl 3 rfl) ?_
        refine lv_icmp_eq (tgt := 58) hx hb dX3_spanRefusal_49 (by decide) (fun c49 => ?_) (fun c49 => ?_)
        · have t49 : (σ (9 + (ix p1)) 1).toInt = p2.toInt := qt_eq c49
          rw [if_pos c49] at hG
          refine lv_aload hx hb dX3_spanRefusal_58 (lv_at hl 0 rfl) ?_
          refine r_getN (C := RX1) (T := TX1) (N := 4) S hK hN w (k := (9 + (ix p1))) (Nat.lt_of_lt_of_le (Nat.add_lt_add_left (vpl g32) 9) (by decide)) (eC_sh ad (vpl g32) _) rfl hinX1 0 (by decide) 0 rfl rfl dX3_spanRefusal_60 ?_
          refine lv_if_ne (tgt := 72) hx hb dX3_spanRefusal_63 (by decide) (fun c63 => ?_) (fun c63 => ?_)
          · have t63 : (σ (9 + (ix p1)) 0).toInt ≠ 0 := qt_ne c63
            rw [if_neg c63] at hG
            refine lv_lload hx hb dX3_spanRefusal_72 (lv_at hl 5 rfl) ?_
            refine lv_lconst (v := 0) hx hb dX3_spanRefusal_74 (by decide) ?_
            refine W.lcmp hx hb dX3_spanRefusal_75 ?_
            refine lv_if_ge (tgt := 85) hx hb dX3_spanRefusal_76 (by decide) (fun c76 => ?_) (fun c76 => ?_)
            · rw [if_pos c76] at hG
              refine lv_aload hx hb dX3_spanRefusal_85 (lv_at hl 0 rfl) ?_
              refine lv_iload_n hx hb dX3_spanRefusal_87 rfl (lv_at hl 4 rfl) ?_
              refine lv_lload hx hb dX3_spanRefusal_88 (lv_at hl 5 rfl) ?_
              refine call0i (va_runVN (As := [.int p3, .long p4]) (rest := []) S (c_X1_lacks l ad D s.heap.size σ (ix p1) p3 p4 (vpl g32)) ⟨va_cnB 2 S.2.2.2.2 gX3_spanRefusal_X1_lacks_n253 rfl rfl rfl (hN.m 3 rfl) (S.2.2.2.2 _ (List.mem_of_getElem? (i := 19) rfl)) hd_X1_lacks ⟨Nat.le_of_ble_eq_true rfl, Nat.le_of_ble_eq_true rfl⟩, S.2.2.2.2 _ (List.mem_of_getElem? (i := 18) rfl), S.2.2.2.2 _ (List.mem_of_getElem? (i := 20) rfl)⟩ (preV hK hN w (k := (9 + (ix p1))) (Nat.lt_of_lt_of_le (Nat.add_lt_add_left (vpl g32) 9) (by decide)) (eC_sh ad (vpl g32) _) (q := (RX1, TX1, 4)) rfl) rfl rfl hl.1 rfl (lv_room (Nat.le_of_ble_eq_true rfl)) dX3_spanRefusal_90 ⟨Nat.zero_le _, Nat.zero_le _⟩) ?_
              refine lv_if_eq (tgt := 102) hx hb dX3_spanRefusal_93 (by decide) (fun c93 => ?_) (fun c93 => ?_)
              · have t93 := bf_lacks_z c93
                rw [if_pos c93] at hG
                refine lv_aload_n hx hb dX3_spanRefusal_102 rfl (lv_at hl 1 rfl) ?_
                refine lv_iconst (v := 0) hx hb dX3_spanRefusal_103 (by decide) ?_
                refine r_put (C := RX3) (T := TX3) (N := 14) S hK w (k := 0) (by decide) (eC_0 ad _) rfl hinX3 tyX3 tyX3_ok nmX3 9 (by decide) (List.mem_of_getElem? (i := 2) rfl) rfl (x := 0) (ty := .int) (by decide +kernel) rfl rfl (by show _ < List.length _; exact Nat.le_of_ble_eq_true rfl) (sO ad _ _ 9 (by decide)) dX3_spanRefusal_104 (fun H locs w => ?_)
                refine lv_iconst (v := 0) hx hb dX3_spanRefusal_107 (by decide) ?_
                exact endWi S hr hlocks w hG dX3_spanRefusal_108
              · rw [if_neg c93] at hG
                refine lv_aload_n hx hb dX3_spanRefusal_96 rfl (lv_at hl 1 rfl) ?_
                refine lv_iconst (v := 3) hx hb dX3_spanRefusal_97 (by decide) ?_
                refine callWi w (va_runV (As := [.int 3]) (rest := []) S (c_X3_faulted l ad D s.heap.size σ 3) (cwV 1 S.2.2.2.2 gX3_spanRefusal_X3_faulted rfl rfl rfl ⟨rfl, hd_X3_faulted⟩ ⟨Nat.le_of_ble_eq_true rfl, Nat.le_of_ble_eq_true rfl⟩) (preV hK hN w (k := 0) (by decide) (eC_0 ad _) (q := (RX3, TX3, 14)) rfl) rfl rfl hl.1 rfl (lv_room (Nat.le_of_ble_eq_true rfl)) dX3_spanRefusal_98 ⟨Nat.zero_le _, Nat.zero_le _⟩) (fun H locs w => ?_)
                exact endWi S hr hlocks w hG dX3_spanRefusal_101
            · rw [if_neg c76] at hG
              refine lv_aload_n hx hb dX3_spanRefusal_79 rfl (lv_at hl 1 rfl) ?_
              refine lv_iconst (v := 4) hx hb dX3_spanRefusal_80 (by decide) ?_
              refine callWi w (va_runV (As := [.int 4]) (rest := []) S (c_X3_faulted l ad D s.heap.size σ 4) (cwV 1 S.2.2.2.2 gX3_spanRefusal_X3_faulted rfl rfl rfl ⟨rfl, hd_X3_faulted⟩ ⟨Nat.le_of_ble_eq_true rfl, Nat.le_of_ble_eq_true rfl⟩) (preV hK hN w (k := 0) (by decide) (eC_0 ad _) (q := (RX3, TX3, 14)) rfl) rfl rfl hl.1 rfl (lv_room (Nat.le_of_ble_eq_true rfl)) dX3_spanRefusal_81 ⟨Nat.zero_le _, Nat.zero_le _⟩) (fun H locs w => ?_)
              exact endWi S hr hlocks w hG dX3_spanRefusal_84
          · have t63 : (σ (9 + (ix p1)) 0).toInt = 0 := qt_eq c63
            rw [if_pos c63] at hG
            refine lv_aload_n hx hb dX3_spanRefusal_66 rfl (lv_at hl 1 rfl) ?_
            refine lv_iconst (v := 1) hx hb dX3_spanRefusal_67 (by decide) ?_
            refine callWi w (va_runV (As := [.int 1]) (rest := []) S (c_X3_faulted l ad D s.heap.size σ 1) (cwV 1 S.2.2.2.2 gX3_spanRefusal_X3_faulted rfl rfl rfl ⟨rfl, hd_X3_faulted⟩ ⟨Nat.le_of_ble_eq_true rfl, Nat.le_of_ble_eq_true rfl⟩) (preV hK hN w (k := 0) (by decide) (eC_0 ad _) (q := (RX3, TX3, 14)) rfl) rfl rfl hl.1 rfl (lv_room (Nat.le_of_ble_eq_true rfl)) dX3_spanRefusal_68 ⟨Nat.zero_le _, Nat.zero_le _⟩) (fun H locs w => ?_)
            exact endWi S hr hlocks w hG dX3_spanRefusal_71
        · have t49 : (σ (9 + (ix p1)) 1).toInt ≠ p2.toInt := qt_ne c49
          rw [if_neg c49] at hG
          refine lv_aload_n hx hb dX3_spanRefusal_52 rfl (lv_at hl 1 rfl) ?_
          refine lv_iconst (v := 2) hx hb dX3_spanRefusal_53 (by decide) ?_
          refine callWi w (va_runV (As := [.int 2]) (rest := []) S (c_X3_faulted l ad D s.heap.size σ 2) (cwV 1 S.2.2.2.2 gX3_spanRefusal_X3_faulted rfl rfl rfl ⟨rfl, hd_X3_faulted⟩ ⟨Nat.le_of_ble_eq_true rfl, Nat.le_of_ble_eq_true rfl⟩) (preV hK hN w (k := 0) (by decide) (eC_0 ad _) (q := (RX3, TX3, 14)) rfl) rfl rfl hl.1 rfl (lv_room (Nat.le_of_ble_eq_true rfl)) dX3_spanRefusal_54 ⟨Nat.zero_le _, Nat.zero_le _⟩) (fun H locs w => ?_)
          exact endWi S hr hlocks w hG dX3_spanRefusal_57
    · rw [if_pos c17] at hG
      refine lv_aload_n hx hb dX3_spanRefusal_20 rfl (lv_at hl 0 rfl) ?_
      refine lv_bipush (v := (-2)) hx hb dX3_spanRefusal_21 (by decide) ?_
      refine callWi w (va_runV (As := [.int (-2)]) (rest := []) S (c_X3_refused l ad D s.heap.size σ (-2)) (cwV 1 S.2.2.2.2 gX3_spanRefusal_X3_refused rfl rfl rfl ⟨rfl, hd_X3_refused⟩ ⟨Nat.le_of_ble_eq_true rfl, Nat.le_of_ble_eq_true rfl⟩) (preV hK hN w (k := 0) (by decide) (eC_0 ad _) (q := (RX3, TX3, 14)) rfl) rfl rfl hl.1 rfl (lv_room (Nat.le_of_ble_eq_true rfl)) dX3_spanRefusal_23 ⟨Nat.zero_le _, Nat.zero_le _⟩) (fun H locs w => ?_)
      exact endWi S hr hlocks w hG dX3_spanRefusal_26
  · rw [if_pos c4] at hG
    refine lv_aload_n hx hb dX3_spanRefusal_7 rfl (lv_at hl 0 rfl) ?_
    refine lv_iconst (v := (-1)) hx hb dX3_spanRefusal_8 (by decide) ?_
    refine callWi w (va_runV (As := [.int (-1)]) (rest := []) S (c_X3_refused l ad D s.heap.size σ (-1)) (cwV 1 S.2.2.2.2 gX3_spanRefusal_X3_refused rfl rfl rfl ⟨rfl, hd_X3_refused⟩ ⟨Nat.le_of_ble_eq_true rfl, Nat.le_of_ble_eq_true rfl⟩) (preV hK hN w (k := 0) (by decide) (eC_0 ad _) (q := (RX3, TX3, 14)) rfl) rfl rfl hl.1 rfl (lv_room (Nat.le_of_ble_eq_true rfl)) dX3_spanRefusal_9 ⟨Nat.zero_le _, Nat.zero_le _⟩) (fun H locs w => ?_)
    exact endWi S hr hlocks w hG dX3_spanRefusal_12
set_option maxHeartbeats 4000000 in
set_option maxRecDepth 100000 in
theorem c_X3_kindOf (l : Launch) (p1 : Int32) : Met l yX3_kindOf wsX3_kindOf ({ frames := 0, cells := 0, slots := 0, locals := 0 }) (Pre0 ([.int p1] : List Value)) (Q0i (f_X3_kindOf p1)) 0 0 N0 := by
  generalize hG : f_X3_kindOf p1 = T
  refine head0 (cc := cX3_kindOf) (maxL := 1) (ret := (some .int)) ([.int p1] : List Value) (by decide) rfl (Nat.le_of_ble_eq_true rfl) ?_
  intro p e s m below meth c S hr hlocks ls hl
  have S : CallFix p m c cX3_kindOf 1 s ([.int p1] : List Value).toArray wsX3_kindOf RX3 := S
  have hx := S.1
  have hb := S.2.1
  have z0 : (0 : Int32).toInt = 0 := by decide
  have z1 : (1 : Int32).toInt = 1 := by decide
  have hl : lv_has ls 1 [(0, .int p1)] := hl
  rw [f_X3_kindOf] at hG
  refine lv_iload_n hx hb dX3_kindOf_0 rfl (lv_at hl 0 rfl) ?_
  by_cases c1_0 : p1 = 102
  · rw [if_pos c1_0] at hG
    refine lv_lookup (tgt := 38) hx hb dX3_kindOf_1 (by decide) (off := 37) (by rw [c1_0]; decide) (by decide) ?_
    refine lv_iconst (v := 1) hx hb dX3_kindOf_38 (by decide) ?_
    exact end0i S hr hlocks hG dX3_kindOf_39
  rw [if_neg c1_0] at hG
  by_cases c1_1 : p1 = 112
  · rw [if_pos c1_1] at hG
    refine lv_lookup (tgt := 36) hx hb dX3_kindOf_1 (by decide) (off := 35) (by rw [c1_1]; decide) (by decide) ?_
    refine lv_iconst (v := 0) hx hb dX3_kindOf_36 (by decide) ?_
    exact end0i S hr hlocks hG dX3_kindOf_37
  rw [if_neg c1_1] at hG
  by_cases c1_2 : p1 = 115
  · rw [if_pos c1_2] at hG
    refine lv_lookup (tgt := 40) hx hb dX3_kindOf_1 (by decide) (off := 39) (by rw [c1_2]; decide) (by decide) ?_
    refine lv_iconst (v := 2) hx hb dX3_kindOf_40 (by decide) ?_
    exact end0i S hr hlocks hG dX3_kindOf_41
  rw [if_neg c1_2] at hG
  refine lv_lookup (tgt := 42) hx hb dX3_kindOf_1 (by decide) (off := 41) (by show Op.lookupswitch.offset [(102, 37), (112, 35), (115, 39)] 41 p1.toInt = 41; rw [lv_osw (a := 102) c1_0 (by decide), lv_osw (a := 112) c1_1 (by decide), lv_osw (a := 115) c1_2 (by decide)]; rfl) (by decide) ?_
  refine lv_iconst (v := (-1)) hx hb dX3_kindOf_42 (by decide) ?_
  exact end0i S hr hlocks hG dX3_kindOf_43
set_option maxHeartbeats 4000000 in
set_option maxRecDepth 100000 in
theorem c_X3_goesOn (l : Launch) (p1 : Int32) (p2 : Int32) : Met l yX3_goesOn wsX3_goesOn ({ frames := 1, cells := 0, slots := 0, locals := 20 }) (Pre0 ([.int p1, .int p2] : List Value)) (Q0i (f_X3_goesOn p1 p2)) 0 0 N0 := by
  generalize hG : f_X3_goesOn p1 p2 = T
  refine head0 (cc := cX3_goesOn) (maxL := 3) (ret := (some .boolean)) ([.int p1, .int p2] : List Value) (by decide) rfl (Nat.le_of_ble_eq_true rfl) ?_
  intro p e s m below meth c S hr hlocks ls hl
  have S : CallFix p m c cX3_goesOn 3 s ([.int p1, .int p2] : List Value).toArray wsX3_goesOn RX3 := S
  have hx := S.1
  have hb := S.2.1
  have z0 : (0 : Int32).toInt = 0 := by decide
  have z1 : (1 : Int32).toInt = 1 := by decide
  have hl : lv_has ls 3 [(0, .int p1), (1, .int p2)] := hl
  rw [f_X3_goesOn] at hG
  refine lv_iload_n hx hb dX3_goesOn_0 rfl (lv_at hl 1 rfl) ?_
  refine lv_bipush (v := 11) hx hb dX3_goesOn_1 (by decide) ?_
  refine lv_irem hx hb dX3_goesOn_3 (by decide) ?_
  refine lv_istore_n (lv' := [(2, .int (p2 - (p2 / 11) * 11)), (0, .int p1), (1, .int p2)]) hx hb dX3_goesOn_4 rfl hl (by decide) rfl (fun ls hl => ?_)
  refine lv_iload_n hx hb dX3_goesOn_5 rfl (lv_at hl 0 rfl) ?_
  refine lv_if_ne (tgt := 22) hx hb dX3_goesOn_6 (by decide) (fun c6 => ?_) (fun c6 => ?_)
  · have t6 : (p2 - (p2 / 11) * 11).toInt ≠ 0 := qt_ne c6
    rw [if_neg c6] at hG
    refine lv_iload_n hx hb dX3_goesOn_22 rfl (lv_at hl 0 rfl) ?_
    refine lv_bipush (v := 10) hx hb dX3_goesOn_23 (by decide) ?_
    refine lv_icmp_ne (tgt := 51) hx hb dX3_goesOn_25 (by decide) (fun c25 => ?_) (fun c25 => ?_)
    · have t25 : (p2 - (p2 / 11) * 11).toInt ≠ 10 := qt_ne c25
      rw [if_neg c25] at hG
      refine lv_iload_n hx hb dX3_goesOn_51 rfl (lv_at hl 1 rfl) ?_
      refine lv_bipush (v := 48) hx hb dX3_goesOn_52 (by decide) ?_
      refine lv_icmp_lt (tgt := 67) hx hb dX3_goesOn_54 (by decide) (fun c54 => ?_) (fun c54 => ?_)
      · have t54 : p1.toInt < 48 := qt_lt c54
        rw [if_pos c54] at hG
        refine lv_iconst (v := 0) hx hb dX3_goesOn_67 (by decide) ?_
        exact end0z S hr hlocks (Or.inl rfl) hG dX3_goesOn_68
      · have t54 : 48 ≤ p1.toInt := qt_nlt c54
        rw [if_neg c54] at hG
        refine lv_iload_n hx hb dX3_goesOn_57 rfl (lv_at hl 1 rfl) ?_
        refine lv_bipush (v := 57) hx hb dX3_goesOn_58 (by decide) ?_
        refine lv_icmp_gt (tgt := 67) hx hb dX3_goesOn_60 (by decide) (fun c60 => ?_) (fun c60 => ?_)
        · have t60 : 57 < p1.toInt := qt_lt c60
          rw [if_pos c60] at hG
          refine lv_iconst (v := 0) hx hb dX3_goesOn_67 (by decide) ?_
          exact end0z S hr hlocks (Or.inl rfl) hG dX3_goesOn_68
        · have t60 : p1.toInt ≤ 57 := qt_nlt c60
          rw [if_neg c60] at hG
          refine lv_iconst (v := 1) hx hb dX3_goesOn_63 (by decide) ?_
          refine lv_goto (tgt := 68) hx hb dX3_goesOn_64 (by decide) ?_
          exact end0z S hr hlocks (Or.inr rfl) hG dX3_goesOn_68
    · have t25 : (p2 - (p2 / 11) * 11).toInt = 10 := qt_eq c25
      rw [if_pos c25] at hG
      refine lv_iload_n hx hb dX3_goesOn_28 rfl (lv_at hl 1 rfl) ?_
      refine lv_bipush (v := 59) hx hb dX3_goesOn_29 (by decide) ?_
      refine lv_icmp_ne (tgt := 49) hx hb dX3_goesOn_31 (by decide) (fun c31 => ?_) (fun c31 => ?_)
      · have t31 : p1.toInt ≠ 59 := qt_ne c31
        rw [if_neg c31] at hG
        refine lv_iconst (v := 0) hx hb dX3_goesOn_49 (by decide) ?_
        exact end0z S hr hlocks (Or.inl rfl) hG dX3_goesOn_50
      · have t31 : p1.toInt = 59 := qt_eq c31
        rw [if_pos c31] at hG
        refine lv_iload_n hx hb dX3_goesOn_34 rfl (lv_at hl 2 rfl) ?_
        refine lv_bipush (v := 11) hx hb dX3_goesOn_35 (by decide) ?_
        refine lv_idiv hx hb dX3_goesOn_37 (by decide) ?_
        refine lv_iconst (v := 1) hx hb dX3_goesOn_38 (by decide) ?_
        refine lv_iadd hx hb dX3_goesOn_39 ?_
        refine lv_bipush (v := 8) hx hb dX3_goesOn_40 (by decide) ?_
        refine lv_icmp_ge (tgt := 49) hx hb dX3_goesOn_42 (by decide) (fun c42 => ?_) (fun c42 => ?_)
        · have t42 : 8 ≤ ((p2 / 11) + 1).toInt := qt_le c42
          rw [if_pos c42] at hG
          refine lv_iconst (v := 0) hx hb dX3_goesOn_49 (by decide) ?_
          exact end0z S hr hlocks (Or.inl rfl) hG dX3_goesOn_50
        · have t42 : ((p2 / 11) + 1).toInt < 8 := qt_nle c42
          rw [if_neg c42] at hG
          refine lv_iconst (v := 1) hx hb dX3_goesOn_45 (by decide) ?_
          refine lv_goto (tgt := 50) hx hb dX3_goesOn_46 (by decide) ?_
          exact end0z S hr hlocks (Or.inr rfl) hG dX3_goesOn_50
  · have t6 : (p2 - (p2 / 11) * 11).toInt = 0 := qt_eq c6
    rw [if_pos c6] at hG
    refine lv_iload_n hx hb dX3_goesOn_9 rfl (lv_at hl 1 rfl) ?_
    refine call0i (va_runS (As := [.int p1]) (rest := []) S (c_X3_kindOf l p1) (va_cwS 1 S.2.2.2.2 gX3_goesOn_X3_kindOf rfl rfl rfl hd_X3_kindOf ⟨Nat.le_of_ble_eq_true rfl, Nat.le_of_ble_eq_true rfl⟩) pre0S rfl rfl hl.1 rfl (lv_room (Nat.le_of_ble_eq_true rfl)) dX3_goesOn_10 ⟨Nat.zero_le _, Nat.zero_le _⟩) ?_
    refine lv_if_lt (tgt := 20) hx hb dX3_goesOn_13 (by decide) (fun c13 => ?_) (fun c13 => ?_)
    · have t13 : (f_X3_kindOf p1).toInt < 0 := qt_lt c13
      rw [if_pos c13] at hG
      refine lv_iconst (v := 0) hx hb dX3_goesOn_20 (by decide) ?_
      exact end0z S hr hlocks (Or.inl rfl) hG dX3_goesOn_21
    · have t13 : 0 ≤ (f_X3_kindOf p1).toInt := qt_nlt c13
      rw [if_neg c13] at hG
      refine lv_iconst (v := 1) hx hb dX3_goesOn_16 (by decide) ?_
      refine lv_goto (tgt := 21) hx hb dX3_goesOn_17 (by decide) ?_
      exact end0z S hr hlocks (Or.inr rfl) hG dX3_goesOn_21
set_option maxHeartbeats 4000000 in
set_option maxRecDepth 100000 in
theorem c_X3_textFault (l : Launch) (ad : Nat → Nat) (D : va_G) (sz : Nat) (σ : St) (p1 : Nat) (p2 : Int32) (p3 : Int32) (hp1 : p1 < 4) (hb1 : 0 ≤ p2.toInt) (hb2 : 0 ≤ p3.toInt) (hb3 : p2.toInt + p3.toInt ≤ 90) : Met l yX3_textFault wsX3_textFault ({ frames := 2, cells := 0, slots := 0, locals := 42 }) (PreW 41 (eC ad) ad D (tyC ad) σ sz ([.ref (ad (9 + p1)), .int p2, .int p3] : List Value)) (Q0i (f_X3_textFault σ p1 p2 p3)) 0 0 N0 := by
  generalize hG : f_X3_textFault σ p1 p2 p3 = T
  refine headW (cc := cX3_textFault) (maxL := 4) (ret := (some .int)) ([.ref (ad (9 + p1)), .int p2, .int p3] : List Value) (by decide) rfl (Nat.le_of_ble_eq_true rfl) ?_
  intro p e s m below meth c S hr hlocks hK hN hsz w ls hl
  have S : CallFix p m c cX3_textFault 4 s ([.ref (ad (9 + p1)), .int p2, .int p3] : List Value).toArray wsX3_textFault RX3 := S
  have hx := S.1
  have hb := S.2.1
  have z0 : (0 : Int32).toInt = 0 := by decide
  have z1 : (1 : Int32).toInt = 1 := by decide
  have hl : lv_has ls 4 [(0, .ref (ad (9 + p1))), (1, .int p2), (2, .int p3)] := hl
  have hinX1 : ∀ w ∈ wsX10, w ∈ wsX3_textFault := (fun _ h => List.mem_cons_of_mem _ (List.mem_append_right _ h))
  rw [f_X3_textFault] at hG
  refine lv_iconst (v := 0) hx hb dX3_textFault_0 (by decide) ?_
  refine lv_istore_n (lv' := [(3, .int 0), (0, .ref (ad (9 + p1))), (1, .int p2), (2, .int p3)]) hx hb dX3_textFault_1 rfl hl (by decide) rfl (fun ls hl => ?_)
  have L2 : ∀ (n : Nat) (res2 : (Int32) ⊕ (Unit)), ∀ (v3_2 : Int32), ((0 ≤ v3_2.toInt ∧ v3_2.toInt ≤ p3.toInt)) → (p3.toInt - v3_2.toInt).toNat < n → (lp_X3_textFault_2 σ p1 p2 p3 n v3_2) = res2 → (∀ r : Int32, res2 = Sum.inl r → r = T) → (res2 = Sum.inr () → ∀ ls : Array Slot, lv_has ls 4 [(2, .int p3)] → W p l e (headSpec wsX3_textFault ({ frames := 2, cells := 0, slots := 0, locals := 42 })).room s m ([.ref (ad (9 + p1)), .int p2, .int p3] : List Value).toArray below meth c s.heap [] 0 0 (MQ below (Q0i T) ([.ref (ad (9 + p1)), .int p2, .int p3] : List Value).toArray s 0 0 N0) (F0 m 30 ls [])) → ∀ ls : Array Slot, lv_has ls 4 [(0, .ref (ad (9 + p1))), (1, .int p2), (2, .int p3), (3, .int v3_2)] → W p l e (headSpec wsX3_textFault ({ frames := 2, cells := 0, slots := 0, locals := 42 })).room s m ([.ref (ad (9 + p1)), .int p2, .int p3] : List Value).toArray below meth c s.heap [] 0 0 (MQ below (Q0i T) ([.ref (ad (9 + p1)), .int p2, .int p3] : List Value).toArray s 0 0 N0) (F0 m 2 ls []) := by
    intro n
    induction n with
    | zero => intro _ _ _ hm; exact absurd hm (Nat.not_lt_zero _)
    | succ n ih2 =>
      intro res2 v3_2 hI2 hm2 hG hret2 hex2 ls hl
      have i2_0 := hI2
      rw [lp_X3_textFault_2] at hG
      refine lv_iload_n hx hb dX3_textFault_2 rfl (lv_at hl 3 rfl) ?_
      refine lv_iload_n hx hb dX3_textFault_3 rfl (lv_at hl 2 rfl) ?_
      refine lv_icmp_ge (tgt := 30) hx hb dX3_textFault_4 (by decide) (fun c4 => ?_) (fun c4 => ?_)
      · have t4 : p3.toInt ≤ v3_2.toInt := qt_le c4
        rw [if_pos c4] at hG
        exact hex2  hG.symm ls (lv_sub hl [2] rfl)
      · have t4 : v3_2.toInt < p3.toInt := qt_nle c4
        rw [if_neg c4] at hG
        refine lv_aload_n hx hb dX3_textFault_7 rfl (lv_at hl 0 rfl) ?_
        refine r_getN (C := RX1) (T := TX1) (N := 4) S hK hN w (k := (9 + p1)) (Nat.lt_of_lt_of_le (Nat.add_lt_add_left hp1 9) (by decide)) (eC_sh ad hp1 _) rfl hinX1 3 (by decide) 2 rfl rfl dX3_textFault_8 ?_
        refine lv_iload_n hx hb dX3_textFault_11 rfl (lv_at hl 1 rfl) ?_
        refine lv_iload_n hx hb dX3_textFault_12 rfl (lv_at hl 3 rfl) ?_
        refine lv_iadd hx hb dX3_textFault_13 ?_
        have e14 := a_toInt (a := p2) (b := v3_2) (by omega) (by omega)
        have g14 : vp_in (p2 + v3_2) 90 := vpi (by omega) (by omega)
        refine r_iald (cA := ad 100) (N := 90) S hK w (k := (13 + p1)) (Nat.lt_of_lt_of_le (Nat.add_lt_add_left hp1 13) (by decide)) (fun f => eC_sc ad hp1 f) rfl g14 dX3_textFault_14 ?_
        refine lv_iload_n hx hb dX3_textFault_15 rfl (lv_at hl 3 rfl) ?_
        refine call0i (va_runS (As := [.int (σ (13 + p1) (ix (p2 + v3_2))), .int v3_2]) (rest := []) S (c_X3_goesOn l (σ (13 + p1) (ix (p2 + v3_2))) v3_2) (va_cwS 2 S.2.2.2.2 gX3_textFault_X3_goesOn rfl rfl rfl hd_X3_goesOn ⟨Nat.le_of_ble_eq_true rfl, Nat.le_of_ble_eq_true rfl⟩) pre0S rfl rfl hl.1 rfl (lv_room (Nat.le_of_ble_eq_true rfl)) dX3_textFault_16 ⟨Nat.zero_le _, Nat.zero_le _⟩) ?_
        refine lv_if_ne (tgt := 24) hx hb dX3_textFault_19 (by decide) (fun c19 => ?_) (fun c19 => ?_)
        · rw [if_neg c19] at hG
          refine lv_iinc (v := (v3_2 + 1)) (lv' := [(3, .int (v3_2 + 1)), (0, .ref (ad (9 + p1))), (1, .int p2), (2, .int p3)]) hx hb dX3_textFault_24 hl (k := 3) rfl rfl (by decide) rfl (fun ls hl => ?_)
          refine lv_goto (tgt := 2) hx hb dX3_textFault_27 (by decide) ?_
          have b3_2 : (v3_2 + 1).toInt = v3_2.toInt + 1 := inc_toInt (by omega) (by omega)
          exact ih2 _ (v3_2 + 1) (by omega) (by omega) hG hret2 hex2 ls (lv_sub hl [1, 2, 3, 0] rfl)
        · rw [if_pos c19] at hG
          refine lv_iload_n hx hb dX3_textFault_22 rfl (lv_at hl 3 rfl) ?_
          exact end0i S hr hlocks (hret2 _ hG.symm) dX3_textFault_23
  refine L2 200 _ 0 (by omega) (by omega) rfl (fun r hr2 => by rw [hr2] at hG; exact hG) (fun hr2 ls hl => ?_) ls (lv_sub hl [1, 2, 3, 0] rfl)
  rw [hr2] at hG
  dsimp only at hG
  refine lv_iload_n hx hb dX3_textFault_30 rfl (lv_at hl 0 rfl) ?_
  refine lv_bipush (v := 11) hx hb dX3_textFault_31 (by decide) ?_
  refine lv_irem hx hb dX3_textFault_33 (by decide) ?_
  refine lv_bipush (v := 10) hx hb dX3_textFault_34 (by decide) ?_
  have J36_54 : ∀ (k0_36_54 : Int32), (if k0_36_54 = 0 then p3 else (-1)) = T → ∀ ls : Array Slot, lv_has ls 4 [(2, .int p3)] → W p l e (headSpec wsX3_textFault ({ frames := 2, cells := 0, slots := 0, locals := 42 })).room s m ([.ref (ad (9 + p1)), .int p2, .int p3] : List Value).toArray below meth c s.heap [] 0 0 (MQ below (Q0i T) ([.ref (ad (9 + p1)), .int p2, .int p3] : List Value).toArray s 0 0 N0) (F0 m 54 ls [.int k0_36_54]) := by
    intro k0_36_54 hG ls hl
    refine lv_istore_n (lv' := [(3, .int k0_36_54), (2, .int p3)]) hx hb dX3_textFault_54 rfl hl (by decide) rfl (fun ls hl => ?_)
    refine lv_iload_n hx hb dX3_textFault_55 rfl (lv_at hl 0 rfl) ?_
    refine lv_if_eq (tgt := 63) hx hb dX3_textFault_56 (by decide) (fun c56 => ?_) (fun c56 => ?_)
    · have t56 : k0_36_54.toInt = 0 := qt_eq c56
      rw [if_pos c56] at hG
      refine lv_iload_n hx hb dX3_textFault_63 rfl (lv_at hl 1 rfl) ?_
      exact end0i S hr hlocks hG dX3_textFault_64
    · have t56 : k0_36_54.toInt ≠ 0 := qt_ne c56
      rw [if_neg c56] at hG
      refine lv_iconst (v := (-1)) hx hb dX3_textFault_59 (by decide) ?_
      refine lv_goto (tgt := 64) hx hb dX3_textFault_60 (by decide) ?_
      exact end0i S hr hlocks hG dX3_textFault_64
  refine lv_icmp_ne (tgt := 53) hx hb dX3_textFault_36 (by decide) (fun c36 => ?_) (fun c36 => ?_)
  · have t36 : (p3 - (p3 / 11) * 11).toInt ≠ 10 := qt_ne c36
    simp only [if_neg c36] at hG
    refine lv_iconst (v := 0) hx hb dX3_textFault_53 (by decide) ?_
    exact J36_54 0 hG ls (lv_sub hl [0] rfl)
  · have t36 : (p3 - (p3 / 11) * 11).toInt = 10 := qt_eq c36
    simp only [if_pos c36] at hG
    refine lv_iload_n hx hb dX3_textFault_39 rfl (lv_at hl 0 rfl) ?_
    refine lv_bipush (v := 11) hx hb dX3_textFault_40 (by decide) ?_
    refine lv_idiv hx hb dX3_textFault_42 (by decide) ?_
    refine lv_iconst (v := 1) hx hb dX3_textFault_43 (by decide) ?_
    refine lv_iadd hx hb dX3_textFault_44 ?_
    refine lv_iconst (v := 2) hx hb dX3_textFault_45 (by decide) ?_
    refine lv_icmp_lt (tgt := 53) hx hb dX3_textFault_46 (by decide) (fun c46 => ?_) (fun c46 => ?_)
    · have t46 : ((p3 / 11) + 1).toInt < 2 := qt_lt c46
      simp only [if_pos c46] at hG
      refine lv_iconst (v := 0) hx hb dX3_textFault_53 (by decide) ?_
      exact J36_54 0 hG ls (lv_sub hl [0] rfl)
    · have t46 : 2 ≤ ((p3 / 11) + 1).toInt := qt_nlt c46
      simp only [if_neg c46] at hG
      refine lv_iconst (v := 1) hx hb dX3_textFault_49 (by decide) ?_
      refine lv_goto (tgt := 54) hx hb dX3_textFault_50 (by decide) ?_
      exact J36_54 1 hG ls (lv_sub hl [0] rfl)
set_option maxHeartbeats 4000000 in
set_option maxRecDepth 100000 in
theorem c_X3_takeText (l : Launch) (ad : Nat → Nat) (D : va_G) (sz : Nat) (σ : St) (p1 : Nat) (p2 : Int32) (p3 : Int32) (hp1 : p1 < 4) (hb1 : 0 ≤ p2.toInt) (hb2 : 0 ≤ (p3 / 11 + 1).toInt ∧ (p3 / 11 + 1).toInt ≤ 8) (hb3 : p2.toInt + 11 * (p3 / 11 + 1).toInt ≤ 91) : Met l yX3_takeText wsX3_takeText ({ frames := 1, cells := 0, slots := 0, locals := 20 }) (PreW 41 (eC ad) ad D (tyC ad) σ sz ([.ref (ad 0), .ref (ad (9 + p1)), .int p2, .int p3] : List Value)) (QWv 41 (eC ad) ad D (f_X3_takeText σ p1 p2 p3) (CA 41 ad sz)) 0 0 (CA 41 ad sz) := by
  generalize hG : f_X3_takeText σ p1 p2 p3 = T
  refine headW (cc := cX3_takeText) (maxL := 8) (ret := none) ([.ref (ad 0), .ref (ad (9 + p1)), .int p2, .int p3] : List Value) (by decide) rfl (Nat.le_of_ble_eq_true rfl) ?_
  intro p e s m below meth c S hr hlocks hK hN hsz w ls hl
  have S : CallFix p m c cX3_takeText 8 s ([.ref (ad 0), .ref (ad (9 + p1)), .int p2, .int p3] : List Value).toArray wsX3_takeText RX3 := S
  have hx := S.1
  have hb := S.2.1
  have z0 : (0 : Int32).toInt = 0 := by decide
  have z1 : (1 : Int32).toInt = 1 := by decide
  have hl : lv_has ls 8 [(0, .ref (ad 0)), (1, .ref (ad (9 + p1))), (2, .int p2), (3, .int p3)] := hl
  have hinX3 : ∀ w ∈ wsX30, w ∈ wsX3_takeText := (fun _ h => List.mem_cons_of_mem _ (List.mem_append_left _ (List.mem_append_left _ (List.mem_append_right _ h))))
  have hinX1 : ∀ w ∈ wsX10, w ∈ wsX3_takeText := (fun _ h => List.mem_cons_of_mem _ (List.mem_append_left _ (List.mem_append_right _ h)))
  have hinX2 : ∀ w ∈ wsX20, w ∈ wsX3_takeText := (fun _ h => List.mem_cons_of_mem _ (List.mem_append_right _ h))
  rw [f_X3_takeText] at hG
  refine lv_aload_n hx hb dX3_takeText_0 rfl (lv_at hl 0 rfl) ?_
  refine lv_iload_n hx hb dX3_takeText_1 rfl (lv_at hl 3 rfl) ?_
  refine lv_bipush (v := 11) hx hb dX3_takeText_2 (by decide) ?_
  refine lv_idiv hx hb dX3_takeText_4 (by decide) ?_
  refine lv_iconst (v := 1) hx hb dX3_takeText_5 (by decide) ?_
  refine lv_iadd hx hb dX3_takeText_6 ?_
  refine r_put (C := RX3) (T := TX3) (N := 14) S hK w (k := 0) (by decide) (eC_0 ad _) rfl hinX3 tyX3 tyX3_ok nmX3 4 (by decide) (List.mem_of_getElem? (i := 1) rfl) rfl (x := ((p3 / 11) + 1)) (ty := .int) (by decide +kernel) rfl rfl (by show _ < List.length _; exact Nat.le_of_ble_eq_true rfl) (sO ad _ _ 4 (by decide)) dX3_takeText_7 (fun H locs w => ?_)
  refine lv_iconst (v := 0) hx hb dX3_takeText_10 (by decide) ?_
  refine lv_istore (lv' := [(4, .int 0), (0, .ref (ad 0)), (1, .ref (ad (9 + p1))), (2, .int p2), (3, .int p3)]) hx hb dX3_takeText_11 hl (by decide) rfl (fun ls hl => ?_)
  have L13 : ∀ (n : Nat) (res13 : St), ∀ (v4_13 : Int32), ∀ (S_13 : St), ((0 ≤ v4_13.toInt ∧ v4_13.toInt ≤ 8) ∧ (S_13 0 4 = p3 / 11 + 1)) → (8 - v4_13.toInt).toNat < n → (lp_X3_takeText_13 p1 p2 n v4_13 S_13) = res13 → (∀ (S_13e : St), res13 = S_13e → ∀ (H : Heap) (locs : List Loc), CW 41 (eC ad) ad D (CA 41 ad sz) s.heap S_13e H locs → ∀ ls : Array Slot, lv_has ls 8 [(0, .ref (ad 0))] → W p l e (headSpec wsX3_takeText ({ frames := 1, cells := 0, slots := 0, locals := 20 })).room s m ([.ref (ad 0), .ref (ad (9 + p1)), .int p2, .int p3] : List Value).toArray below meth c H locs 0 0 (MQ below (QWv 41 (eC ad) ad D T (CA 41 ad sz)) ([.ref (ad 0), .ref (ad (9 + p1)), .int p2, .int p3] : List Value).toArray s 0 0 (CA 41 ad sz)) (F0 m 133 ls [])) → ∀ (H : Heap) (locs : List Loc), CW 41 (eC ad) ad D (CA 41 ad sz) s.heap S_13 H locs → ∀ ls : Array Slot, lv_has ls 8 [(0, .ref (ad 0)), (1, .ref (ad (9 + p1))), (2, .int p2), (4, .int v4_13)] → W p l e (headSpec wsX3_takeText ({ frames := 1, cells := 0, slots := 0, locals := 20 })).room s m ([.ref (ad 0), .ref (ad (9 + p1)), .int p2, .int p3] : List Value).toArray below meth c H locs 0 0 (MQ below (QWv 41 (eC ad) ad D T (CA 41 ad sz)) ([.ref (ad 0), .ref (ad (9 + p1)), .int p2, .int p3] : List Value).toArray s 0 0 (CA 41 ad sz)) (F0 m 13 ls []) := by
    intro n
    induction n with
    | zero => intro _ _ _ _ hm; exact absurd hm (Nat.not_lt_zero _)
    | succ n ih13 =>
      intro res13 v4_13 S_13 hI13 hm13 hG hex13 H locs w ls hl
      obtain ⟨i13_0, i13_1⟩ := id hI13
      rw [lp_X3_takeText_13] at hG
      have q13 : (S_13 0 4).toInt = (p3 / 11 + 1).toInt := by rw [i13_1]
      refine lv_iload hx hb dX3_takeText_13 (lv_at hl 3 rfl) ?_
      refine lv_aload_n hx hb dX3_takeText_15 rfl (lv_at hl 0 rfl) ?_
      refine r_get (C := RX3) (T := TX3) (N := 14) S hK w (k := 0) (by decide) (eC_0 ad _) rfl hinX3 4 (by decide) (List.mem_of_getElem? (i := 1) rfl) rfl dX3_takeText_16 ?_
      refine lv_icmp_ge (tgt := 133) hx hb dX3_takeText_19 (by decide) (fun c19 => ?_) (fun c19 => ?_)
      · have t19 : (S_13 0 4).toInt ≤ v4_13.toInt := qt_le c19
        rw [if_pos c19] at hG
        exact hex13 S_13 hG.symm _ _ w ls (lv_sub hl [0] rfl)
      · have t19 : v4_13.toInt < (S_13 0 4).toInt := qt_nle c19
        rw [if_neg c19] at hG
        refine lv_iload_n hx hb dX3_takeText_22 rfl (lv_at hl 2 rfl) ?_
        refine lv_iload hx hb dX3_takeText_23 (lv_at hl 3 rfl) ?_
        refine lv_bipush (v := 11) hx hb dX3_takeText_25 (by decide) ?_
        refine lv_imul hx hb dX3_takeText_27 ?_
        refine lv_iadd hx hb dX3_takeText_28 ?_
        refine lv_istore (lv' := [(5, .int (p2 + (v4_13 * 11))), (0, .ref (ad 0)), (1, .ref (ad (9 + p1))), (2, .int p2), (4, .int v4_13)]) hx hb dX3_takeText_29 hl (by decide) rfl (fun ls hl => ?_)
        refine lv_aload_n hx hb dX3_takeText_31 rfl (lv_at hl 1 rfl) ?_
        refine r_get (C := RX3) (T := TX3) (N := 14) S hK w (k := 0) (by decide) (eC_0 ad _) rfl hinX3 1 (by decide) (List.mem_of_getElem? (i := 2) rfl) rfl dX3_takeText_32 ?_
        refine lv_iload hx hb dX3_takeText_35 (lv_at hl 4 rfl) ?_
        have g37 : vp_in v4_13 8 := vpi (by omega) (by omega)
        refine r_aald S hK w (k := 2) (by decide) (eC_2 ad _) (t0 := 2) rfl g37 dX3_takeText_37 ?_
        refine lv_aload_n hx hb dX3_takeText_38 rfl (lv_at hl 2 rfl) ?_
        refine r_getN (C := RX1) (T := TX1) (N := 4) S hK hN w (k := (9 + p1)) (Nat.lt_of_lt_of_le (Nat.add_lt_add_left hp1 9) (by decide)) (eC_sh ad hp1 _) rfl hinX1 3 (by decide) 2 rfl rfl dX3_takeText_39 ?_
        refine lv_iload hx hb dX3_takeText_42 (lv_at hl 0 rfl) ?_
        have e43 := mk_toInt (a := v4_13) (k := 11) (z := 11) (by decide) (by omega) (by omega)
        have e44 := a_toInt (a := p2) (b := v4_13 * 11) (by omega) (by omega)
        have g44 : vp_in (p2 + (v4_13 * 11)) 90 := vpi (by omega) (by omega)
        refine r_iald (cA := ad 100) (N := 90) S hK w (k := (13 + p1)) (Nat.lt_of_lt_of_le (Nat.add_lt_add_left hp1 13) (by decide)) (fun f => eC_sc ad hp1 f) rfl g44 dX3_takeText_44 ?_
        refine call0i (va_runS (As := [.int (S_13 (13 + p1) (ix (p2 + (v4_13 * 11))))]) (rest := [.ref (ad (17 + (ix v4_13)))]) S (c_X3_kindOf l (S_13 (13 + p1) (ix (p2 + (v4_13 * 11))))) (va_cwS 1 S.2.2.2.2 gX3_takeText_X3_kindOf rfl rfl rfl hd_X3_kindOf ⟨Nat.le_of_ble_eq_true rfl, Nat.le_of_ble_eq_true rfl⟩) pre0S rfl rfl hl.1 rfl (lv_room (Nat.le_of_ble_eq_true rfl)) dX3_takeText_45 ⟨Nat.zero_le _, Nat.zero_le _⟩) ?_
        refine r_putN (C := RX2) (T := TX2) (N := 3) S hK hN w (k := (17 + (ix v4_13))) (Nat.lt_of_lt_of_le (Nat.add_lt_add_left (vpl g37) 17) (by decide)) (eC_sg ad (vpl g37) _) rfl hinX2 tyX2 tyX2_ok nmX2 0 (by decide) 3 rfl rfl (x := (f_X3_kindOf (S_13 (13 + p1) (ix (p2 + (v4_13 * 11)))))) (ty := .int) (by decide +kernel) rfl rfl (by show _ < List.length _; exact Nat.le_of_ble_eq_true rfl) (sSg ad (vpl g37) _ _ 0 (by decide)) dX3_takeText_48 (fun H locs w => ?_)
        refine lv_aload_n hx hb dX3_takeText_51 rfl (lv_at hl 1 rfl) ?_
        refine r_get (C := RX3) (T := TX3) (N := 14) S hK w (k := 0) (by decide) (eC_0 ad _) rfl hinX3 1 (by decide) (List.mem_of_getElem? (i := 2) rfl) rfl dX3_takeText_52 ?_
        refine lv_iload hx hb dX3_takeText_55 (lv_at hl 4 rfl) ?_
        have g57 : vp_in v4_13 8 := vpi (by omega) (by omega)
        refine r_aald S hK w (k := 2) (by decide) (eC_2 ad _) (t0 := 2) rfl g57 dX3_takeText_57 ?_
        refine lv_iconst (v := 0) hx hb dX3_takeText_58 (by decide) ?_
        refine r_putN (C := RX2) (T := TX2) (N := 3) S hK hN w (k := (17 + (ix v4_13))) (Nat.lt_of_lt_of_le (Nat.add_lt_add_left (vpl g57) 17) (by decide)) (eC_sg ad (vpl g57) _) rfl hinX2 tyX2 tyX2_ok nmX2 1 (by decide) 4 rfl rfl (x := 0) (ty := .int) (by decide +kernel) rfl rfl (by show _ < List.length _; exact Nat.le_of_ble_eq_true rfl) (sSg ad (vpl g57) _ _ 1 (by decide)) dX3_takeText_59 (fun H locs w => ?_)
        refine lv_iconst (v := 0) hx hb dX3_takeText_62 (by decide) ?_
        refine lv_istore (lv' := [(6, .int 0), (5, .int (p2 + (v4_13 * 11))), (0, .ref (ad 0)), (1, .ref (ad (9 + p1))), (2, .int p2), (4, .int v4_13)]) hx hb dX3_takeText_63 hl (by decide) rfl (fun ls hl => ?_)
        have L65 : ∀ (n : Nat) (res65 : St), ∀ (v6_65 : Int32), ∀ (S_65 : St), ((0 ≤ v6_65.toInt ∧ v6_65.toInt ≤ 9) ∧ (S_65 0 4 = p3 / 11 + 1)) → (9 - v6_65.toInt).toNat < n → (lp_X3_takeText_65 p1 p2 v4_13 (p2 + (v4_13 * 11)) n v6_65 S_65) = res65 → (∀ (S_65e : St), (S_65e 0 4 = p3 / 11 + 1) → res65 = S_65e → ∀ (H : Heap) (locs : List Loc), CW 41 (eC ad) ad D (CA 41 ad sz) s.heap S_65e H locs → ∀ ls : Array Slot, lv_has ls 8 [(0, .ref (ad 0)), (1, .ref (ad (9 + p1))), (2, .int p2), (4, .int v4_13)] → W p l e (headSpec wsX3_takeText ({ frames := 1, cells := 0, slots := 0, locals := 20 })).room s m ([.ref (ad 0), .ref (ad (9 + p1)), .int p2, .int p3] : List Value).toArray below meth c H locs 0 0 (MQ below (QWv 41 (eC ad) ad D T (CA 41 ad sz)) ([.ref (ad 0), .ref (ad (9 + p1)), .int p2, .int p3] : List Value).toArray s 0 0 (CA 41 ad sz)) (F0 m 127 ls [])) → ∀ (H : Heap) (locs : List Loc), CW 41 (eC ad) ad D (CA 41 ad sz) s.heap S_65 H locs → ∀ ls : Array Slot, lv_has ls 8 [(0, .ref (ad 0)), (1, .ref (ad (9 + p1))), (2, .int p2), (4, .int v4_13), (5, .int (p2 + (v4_13 * 11))), (6, .int v6_65)] → W p l e (headSpec wsX3_takeText ({ frames := 1, cells := 0, slots := 0, locals := 20 })).room s m ([.ref (ad 0), .ref (ad (9 + p1)), .int p2, .int p3] : List Value).toArray below meth c H locs 0 0 (MQ below (QWv 41 (eC ad) ad D T (CA 41 ad sz)) ([.ref (ad 0), .ref (ad (9 + p1)), .int p2, .int p3] : List Value).toArray s 0 0 (CA 41 ad sz)) (F0 m 65 ls []) := by
          intro n
          induction n with
          | zero => intro _ _ _ _ hm; exact absurd hm (Nat.not_lt_zero _)
          | succ n ih65 =>
            intro res65 v6_65 S_65 hI65 hm65 hG hex65 H locs w ls hl
            obtain ⟨i65_0, i65_1⟩ := id hI65
            rw [lp_X3_takeText_65] at hG
            refine lv_iload hx hb dX3_takeText_65 (lv_at hl 5 rfl) ?_
            refine lv_bipush (v := 9) hx hb dX3_takeText_67 (by decide) ?_
            refine lv_icmp_ge (tgt := 127) hx hb dX3_takeText_69 (by decide) (fun c69 => ?_) (fun c69 => ?_)
            · have t69 : 9 ≤ v6_65.toInt := qt_le c69
              rw [if_pos c69] at hG
              exact hex65 S_65 i65_1 hG.symm _ _ w ls (lv_sub hl [0, 1, 2, 3] rfl)
            · have t69 : v6_65.toInt < 9 := qt_nle c69
              rw [if_neg c69] at hG
              refine lv_aload_n hx hb dX3_takeText_72 rfl (lv_at hl 1 rfl) ?_
              refine r_getN (C := RX1) (T := TX1) (N := 4) S hK hN w (k := (9 + p1)) (Nat.lt_of_lt_of_le (Nat.add_lt_add_left hp1 9) (by decide)) (eC_sh ad hp1 _) rfl hinX1 3 (by decide) 2 rfl rfl dX3_takeText_73 ?_
              refine lv_iload hx hb dX3_takeText_76 (lv_at hl 4 rfl) ?_
              refine lv_iconst (v := 1) hx hb dX3_takeText_78 (by decide) ?_
              refine lv_iadd hx hb dX3_takeText_79 ?_
              refine lv_iload hx hb dX3_takeText_80 (lv_at hl 5 rfl) ?_
              refine lv_iadd hx hb dX3_takeText_82 ?_
              have e81 := inc_toInt (a := p2 + v4_13 * 11) (by omega) (by omega)
              have e82 := a_toInt (a := p2 + v4_13 * 11 + 1) (b := v6_65) (by omega) (by omega)
              have g83 : vp_in (((p2 + (v4_13 * 11)) + 1) + v6_65) 90 := vpi (by omega) (by omega)
              refine r_iald (cA := ad 100) (N := 90) S hK w (k := (13 + p1)) (Nat.lt_of_lt_of_le (Nat.add_lt_add_left hp1 13) (by decide)) (fun f => eC_sc ad hp1 f) rfl g83 dX3_takeText_83 ?_
              refine lv_bipush (v := 48) hx hb dX3_takeText_84 (by decide) ?_
              refine lv_isub hx hb dX3_takeText_86 ?_
              refine lv_istore (lv' := [(7, .int ((S_65 (13 + p1) (ix (((p2 + (v4_13 * 11)) + 1) + v6_65))) - 48)), (0, .ref (ad 0)), (1, .ref (ad (9 + p1))), (2, .int p2), (4, .int v4_13), (5, .int (p2 + (v4_13 * 11))), (6, .int v6_65)]) hx hb dX3_takeText_87 hl (by decide) rfl (fun ls hl => ?_)
              refine lv_aload_n hx hb dX3_takeText_89 rfl (lv_at hl 1 rfl) ?_
              refine r_get (C := RX3) (T := TX3) (N := 14) S hK w (k := 0) (by decide) (eC_0 ad _) rfl hinX3 1 (by decide) (List.mem_of_getElem? (i := 2) rfl) rfl dX3_takeText_90 ?_
              refine lv_iload hx hb dX3_takeText_93 (lv_at hl 4 rfl) ?_
              have g95 : vp_in v4_13 8 := vpi (by omega) (by omega)
              refine r_aald S hK w (k := 2) (by decide) (eC_2 ad _) (t0 := 2) rfl g95 dX3_takeText_95 ?_
              refine r_getN (C := RX2) (T := TX2) (N := 3) S hK hN w (k := (17 + (ix v4_13))) (Nat.lt_of_lt_of_le (Nat.add_lt_add_left (vpl g95) 17) (by decide)) (eC_sg ad (vpl g95) _) rfl hinX2 2 (by decide) 5 rfl rfl dX3_takeText_96 ?_
              refine lv_iload hx hb dX3_takeText_99 (lv_at hl 6 rfl) ?_
              refine lv_iload hx hb dX3_takeText_101 (lv_at hl 0 rfl) ?_
              have g103 : vp_in v6_65 9 := vpi (by omega) (by omega)
              refine r_iast (cA := ad 100) (N := 9) S hK w (k := (25 + (ix v4_13))) (Nat.lt_of_lt_of_le (Nat.add_lt_add_left (vpl g95) 25) (by decide)) (fun f => eC_st ad (vpl g95) f) rfl g103 dX3_takeText_103 (fun H locs w => ?_)
              refine lv_aload_n hx hb dX3_takeText_104 rfl (lv_at hl 1 rfl) ?_
              refine r_get (C := RX3) (T := TX3) (N := 14) S hK w (k := 0) (by decide) (eC_0 ad _) rfl hinX3 1 (by decide) (List.mem_of_getElem? (i := 2) rfl) rfl dX3_takeText_105 ?_
              refine lv_iload hx hb dX3_takeText_108 (lv_at hl 4 rfl) ?_
              have g110 : vp_in v4_13 8 := vpi (by omega) (by omega)
              refine r_aald S hK w (k := 2) (by decide) (eC_2 ad _) (t0 := 2) rfl g110 dX3_takeText_110 ?_
              refine lv_dup hx hb dX3_takeText_111 rfl ?_
              refine r_getN (C := RX2) (T := TX2) (N := 3) S hK hN w (k := (17 + (ix v4_13))) (Nat.lt_of_lt_of_le (Nat.add_lt_add_left (vpl g110) 17) (by decide)) (eC_sg ad (vpl g110) _) rfl hinX2 1 (by decide) 4 rfl rfl dX3_takeText_112 ?_
              refine lv_iload hx hb dX3_takeText_115 (lv_at hl 0 rfl) ?_
              refine lv_iadd hx hb dX3_takeText_117 ?_
              refine r_putN (C := RX2) (T := TX2) (N := 3) S hK hN w (k := (17 + (ix v4_13))) (Nat.lt_of_lt_of_le (Nat.add_lt_add_left (vpl g110) 17) (by decide)) (eC_sg ad (vpl g110) _) rfl hinX2 tyX2 tyX2_ok nmX2 1 (by decide) 4 rfl rfl (x := (((u2 S_65 (25 + (ix v4_13)) (ix v6_65) ((S_65 (13 + p1) (ix (((p2 + (v4_13 * 11)) + 1) + v6_65))) - 48)) (17 + (ix v4_13)) 1) + ((S_65 (13 + p1) (ix (((p2 + (v4_13 * 11)) + 1) + v6_65))) - 48))) (ty := .int) (by decide +kernel) rfl rfl (by show _ < List.length _; exact Nat.le_of_ble_eq_true rfl) (sSg ad (vpl g110) _ _ 1 (by decide)) dX3_takeText_118 (fun H locs w => ?_)
              refine lv_iinc (v := (v6_65 + 1)) (lv' := [(6, .int (v6_65 + 1)), (7, .int ((S_65 (13 + p1) (ix (((p2 + (v4_13 * 11)) + 1) + v6_65))) - 48)), (0, .ref (ad 0)), (1, .ref (ad (9 + p1))), (2, .int p2), (4, .int v4_13), (5, .int (p2 + (v4_13 * 11)))]) hx hb dX3_takeText_121 hl (k := 6) rfl rfl (by decide) rfl (fun ls hl => ?_)
              refine lv_goto (tgt := 65) hx hb dX3_takeText_124 (by decide) ?_
              have b6_65 : (v6_65 + 1).toInt = v6_65.toInt + 1 := inc_toInt (by omega) (by omega)
              exact ih65 _ (v6_65 + 1) (u2 (u2 S_65 (25 + (ix v4_13)) (ix v6_65) ((S_65 (13 + p1) (ix (((p2 + (v4_13 * 11)) + 1) + v6_65))) - 48)) (17 + (ix v4_13)) 1 (((u2 S_65 (25 + (ix v4_13)) (ix v6_65) ((S_65 (13 + p1) (ix (((p2 + (v4_13 * 11)) + 1) + v6_65))) - 48)) (17 + (ix v4_13)) 1) + ((S_65 (13 + p1) (ix (((p2 + (v4_13 * 11)) + 1) + v6_65))) - 48))) ⟨(by omega), (by rw [u2_o (by omega), u2_o (by omega)]; exact i65_1)⟩ (by omega) hG hex65 _ _ w ls (lv_sub hl [2, 3, 4, 5, 6, 0] rfl)
        refine L65 200 _ 0 (u2 (u2 S_13 (17 + (ix v4_13)) 0 (f_X3_kindOf (S_13 (13 + p1) (ix (p2 + (v4_13 * 11)))))) (17 + (ix v4_13)) 1 0) ⟨(by omega), (by rw [u2_o (by omega), u2_o (by omega)]; exact i13_1)⟩ (by omega) rfl (fun S_65e x65_0 hr65 H locs w ls hl => ?_) _ _ w ls (lv_sub hl [2, 3, 4, 5, 1, 0] rfl)
        rw [hr65] at hG
        refine lv_iinc (v := (v4_13 + 1)) (lv' := [(4, .int (v4_13 + 1)), (0, .ref (ad 0)), (1, .ref (ad (9 + p1))), (2, .int p2)]) hx hb dX3_takeText_127 hl (k := 3) rfl rfl (by decide) rfl (fun ls hl => ?_)
        refine lv_goto (tgt := 13) hx hb dX3_takeText_130 (by decide) ?_
        have b4_13 : (v4_13 + 1).toInt = v4_13.toInt + 1 := inc_toInt (by omega) (by omega)
        exact ih13 _ (v4_13 + 1) S_65e ⟨(by omega), x65_0⟩ (by omega) hG hex13 _ _ w ls (lv_sub hl [1, 2, 3, 0] rfl)
  refine L13 200 _ 0 (u2 σ 0 4 ((p3 / 11) + 1)) ⟨(by omega), rfl⟩ (by omega) rfl (fun S_13e hr13 H locs w ls hl => ?_) _ _ w ls (lv_sub hl [1, 2, 3, 0] rfl)
  rw [hr13] at hG
  exact endWv S hr hlocks w hG dX3_takeText_133
set_option maxHeartbeats 4000000 in
set_option maxRecDepth 100000 in
theorem c_X3_startAnew (l : Launch) (ad : Nat → Nat) (D : va_G) (sz : Nat) (σ : St) : Met l yX3_startAnew wsX3_startAnew ({ frames := 1, cells := 0, slots := 0, locals := 23 }) (PreW 41 (eC ad) ad D (tyC ad) σ sz ([.ref (ad 0)] : List Value)) (QWv 41 (eC ad) ad D (f_X3_startAnew σ) (CA 41 ad sz)) 0 0 (CA 41 ad sz) := by
  generalize hG : f_X3_startAnew σ = T
  refine headW (cc := cX3_startAnew) (maxL := 1) (ret := none) ([.ref (ad 0)] : List Value) (by decide) rfl (Nat.le_of_ble_eq_true rfl) ?_
  intro p e s m below meth c S hr hlocks hK hN hsz w ls hl
  have S : CallFix p m c cX3_startAnew 1 s ([.ref (ad 0)] : List Value).toArray wsX3_startAnew RX3 := S
  have hx := S.1
  have hb := S.2.1
  have z0 : (0 : Int32).toInt = 0 := by decide
  have z1 : (1 : Int32).toInt = 1 := by decide
  have hl : lv_has ls 1 [(0, .ref (ad 0))] := hl
  have hinX3 : ∀ w ∈ wsX30, w ∈ wsX3_startAnew := (fun _ h => List.mem_cons_of_mem _ (List.mem_append_right _ h))
  rw [f_X3_startAnew] at hG
  refine lv_aload_n hx hb dX3_startAnew_0 rfl (lv_at hl 0 rfl) ?_
  refine lv_iconst (v := 0) hx hb dX3_startAnew_1 (by decide) ?_
  refine r_put (C := RX3) (T := TX3) (N := 14) S hK w (k := 0) (by decide) (eC_0 ad _) rfl hinX3 tyX3 tyX3_ok nmX3 5 (by decide) (List.mem_of_getElem? (i := 1) rfl) rfl (x := 0) (ty := .int) (by decide +kernel) rfl rfl (by show _ < List.length _; exact Nat.le_of_ble_eq_true rfl) (sO ad _ _ 5 (by decide)) dX3_startAnew_2 (fun H locs w => ?_)
  refine lv_aload_n hx hb dX3_startAnew_5 rfl (lv_at hl 0 rfl) ?_
  refine lv_iconst (v := 0) hx hb dX3_startAnew_6 (by decide) ?_
  refine r_put (C := RX3) (T := TX3) (N := 14) S hK w (k := 0) (by decide) (eC_0 ad _) rfl hinX3 tyX3 tyX3_ok nmX3 6 (by decide) (List.mem_of_getElem? (i := 2) rfl) rfl (x := 0) (ty := .int) (by decide +kernel) rfl rfl (by show _ < List.length _; exact Nat.le_of_ble_eq_true rfl) (sO ad _ _ 6 (by decide)) dX3_startAnew_7 (fun H locs w => ?_)
  refine lv_aload_n hx hb dX3_startAnew_10 rfl (lv_at hl 0 rfl) ?_
  refine lv_bipush (v := 40) hx hb dX3_startAnew_11 (by decide) ?_
  refine r_put (C := RX3) (T := TX3) (N := 14) S hK w (k := 0) (by decide) (eC_0 ad _) rfl hinX3 tyX3 tyX3_ok nmX3 7 (by decide) (List.mem_of_getElem? (i := 3) rfl) rfl (x := 40) (ty := .int) (by decide +kernel) rfl rfl (by show _ < List.length _; exact Nat.le_of_ble_eq_true rfl) (sO ad _ _ 7 (by decide)) dX3_startAnew_13 (fun H locs w => ?_)
  refine lv_aload_n hx hb dX3_startAnew_16 rfl (lv_at hl 0 rfl) ?_
  refine r_get (C := RX3) (T := TX3) (N := 14) S hK w (k := 0) (by decide) (eC_0 ad _) rfl hinX3 3 (by decide) (List.mem_of_getElem? (i := 4) rfl) rfl dX3_startAnew_17 ?_
  refine lv_iconst (v := 5) hx hb dX3_startAnew_20 (by decide) ?_
  refine callFill (cA := ad 100) (N := 9) (by decide) S hl.1 hK hN w (k := 4) (by decide) (fun f => eC_4 ad f) rfl gX3_startAnew_J7_fill_53178 (Nat.le_of_ble_eq_true rfl) (Nat.le_of_ble_eq_true rfl) dX3_startAnew_21 ⟨Nat.zero_le _, Nat.zero_le _⟩ (fun H locs w => ?_)
  refine lv_aload_n hx hb dX3_startAnew_24 rfl (lv_at hl 0 rfl) ?_
  refine r_get (C := RX3) (T := TX3) (N := 14) S hK w (k := 0) (by decide) (eC_0 ad _) rfl hinX3 13 (by decide) (List.mem_of_getElem? (i := 5) rfl) rfl dX3_startAnew_25 ?_
  refine lv_iconst (v := 0) hx hb dX3_startAnew_28 (by decide) ?_
  refine lv_iconst (v := (-1)) hx hb dX3_startAnew_29 (by decide) ?_
  have g30 : vp_in 0 5 := vpi (by decide) (by decide)
  refine r_iast (cA := ad 100) (N := 5) S hK w (k := 8) (by decide) (fun f => eC_8 ad f) rfl g30 dX3_startAnew_30 (fun H locs w => ?_)
  exact endWv S hr hlocks w hG dX3_startAnew_31
set_option maxHeartbeats 4000000 in
set_option maxRecDepth 100000 in
theorem c_X3_register (l : Launch) (ad : Nat → Nat) (D : va_G) (sz : Nat) (σ : St) (p1 : Int32) (p2 : Int32) (p3 : Int32) (p4 : Int32) (hok : OkC σ) : Met l yX3_register wsX3_register ({ frames := 3, cells := 0, slots := 0, locals := 65 }) (PreW 41 (eC ad) ad D (tyC ad) σ sz ([.ref (ad 0), .int p1, .int p2, .int p3, .int p4] : List Value)) (QWi 41 (eC ad) ad D (f_X3_register σ p1 p2 p3 p4) (CA 41 ad sz)) 0 0 (CA 41 ad sz) := by
  generalize hG : f_X3_register σ p1 p2 p3 p4 = T
  refine headW (cc := cX3_register) (maxL := 7) (ret := (some .int)) ([.ref (ad 0), .int p1, .int p2, .int p3, .int p4] : List Value) (by decide) rfl (Nat.le_of_ble_eq_true rfl) ?_
  intro p e s m below meth c S hr hlocks hK hN hsz w ls hl
  have S : CallFix p m c cX3_register 7 s ([.ref (ad 0), .int p1, .int p2, .int p3, .int p4] : List Value).toArray wsX3_register RX3 := S
  have hx := S.1
  have hb := S.2.1
  have z0 : (0 : Int32).toInt = 0 := by decide
  have z1 : (1 : Int32).toInt = 1 := by decide
  have hl : lv_has ls 7 [(0, .ref (ad 0)), (1, .int p1), (2, .int p2), (3, .int p3), (4, .int p4)] := hl
  have hinX3 : ∀ w ∈ wsX30, w ∈ wsX3_register := (fun _ h => List.mem_cons_of_mem _ (List.mem_append_left _ (List.mem_append_left _ (List.mem_append_right _ h))))
  have hinX1 : ∀ w ∈ wsX10, w ∈ wsX3_register := (fun _ h => List.mem_cons_of_mem _ (List.mem_append_left _ (List.mem_append_right _ h)))
  have hinX2 : ∀ w ∈ wsX20, w ∈ wsX3_register := (fun _ h => List.mem_cons_of_mem _ (List.mem_append_right _ h))
  have okf0 := hok.1
  have okf1 := hok.2.1
  have okf2 := hok.2.2.1
  have okf3 := hok.2.2.2.1
  have okf4 := hok.2.2.2.2.1
  have okf5 := hok.2.2.2.2.2
  rw [f_X3_register] at hG
  refine lv_aload_n hx hb dX3_register_0 rfl (lv_at hl 0 rfl) ?_
  refine lv_iload_n hx hb dX3_register_1 rfl (lv_at hl 1 rfl) ?_
  refine lv_iload_n hx hb dX3_register_2 rfl (lv_at hl 2 rfl) ?_
  refine lv_iload_n hx hb dX3_register_3 rfl (lv_at hl 3 rfl) ?_
  refine lv_iload hx hb dX3_register_4 (lv_at hl 4 rfl) ?_
  refine lv_i2l hx hb dX3_register_6 rfl ?_
  have ok3 := okf3
  refine callWi w (va_runV (As := [.int p1, .int p2, .int p3, .long p4.toInt64]) (rest := []) S (c_X3_spanRefusal l ad D s.heap.size σ p1 p2 p3 p4.toInt64) (cwV 4 S.2.2.2.2 gX3_register_X3_spanRefusal rfl rfl rfl ⟨rfl, hd_X3_spanRefusal⟩ ⟨Nat.le_of_ble_eq_true rfl, Nat.le_of_ble_eq_true rfl⟩) (preV hK hN w (k := 0) (by decide) (eC_0 ad _) (q := (RX3, TX3, 14)) rfl) rfl rfl hl.1 rfl (lv_room (Nat.le_of_ble_eq_true rfl)) dX3_register_7 ⟨Nat.zero_le _, Nat.zero_le _⟩) (fun H locs w => ?_)
  have hok : OkC ((f_X3_spanRefusal σ p1 p2 p3 p4.toInt64).2) := ok_X3_spanRefusal hok
  have okf0 := hok.1
  have okf1 := hok.2.1
  have okf2 := hok.2.2.1
  have okf3 := hok.2.2.2.1
  have okf4 := hok.2.2.2.2.1
  have okf5 := hok.2.2.2.2.2
  refine lv_istore (lv' := [(5, .int ((f_X3_spanRefusal σ p1 p2 p3 p4.toInt64).1)), (0, .ref (ad 0)), (1, .int p1), (2, .int p2), (3, .int p3), (4, .int p4)]) hx hb dX3_register_10 hl (by decide) rfl (fun ls hl => ?_)
  refine lv_iload hx hb dX3_register_12 (lv_at hl 0 rfl) ?_
  refine lv_if_eq (tgt := 20) hx hb dX3_register_14 (by decide) (fun c14 => ?_) (fun c14 => ?_)
  · have t14 : ((f_X3_spanRefusal σ p1 p2 p3 p4.toInt64).1).toInt = 0 := qt_eq c14
    rw [if_pos c14] at hG
    have z := sp_z c14
    have zl : p4.toInt64.toInt = p4.toInt := Int32.toInt_toInt64 p4
    have zb : p4.toInt < 2147483648 := Int32.toInt_lt p4
    have z3 := ok3 (ix p1) (vpl (vpi (by omega) (by omega)))
    refine lv_aload_n hx hb dX3_register_20 rfl (lv_at hl 1 rfl) ?_
    refine r_get (C := RX3) (T := TX3) (N := 14) S hK w (k := 0) (by decide) (eC_0 ad _) rfl hinX3 0 (by decide) (List.mem_of_getElem? (i := 1) rfl) rfl dX3_register_21 ?_
    refine lv_iload_n hx hb dX3_register_24 rfl (lv_at hl 2 rfl) ?_
    have g25 : vp_in p1 4 := vpi (by omega) (by omega)
    refine r_aald S hK w (k := 1) (by decide) (eC_1 ad _) (t0 := 1) rfl g25 dX3_register_25 ?_
    refine lv_iload_n hx hb dX3_register_26 rfl (lv_at hl 4 rfl) ?_
    refine lv_iload hx hb dX3_register_27 (lv_at hl 5 rfl) ?_
    refine call0i (va_runS (As := [.ref (ad (9 + (ix p1))), .int p3, .int p4]) (rest := []) S (c_X3_textFault l ad D H.size ((f_X3_spanRefusal σ p1 p2 p3 p4.toInt64).2) (ix p1) p3 p4 (vpl g25) (by omega) (by omega) (by omega)) (va_cwS 3 S.2.2.2.2 gX3_register_X3_textFault rfl rfl rfl hd_X3_textFault ⟨Nat.le_of_ble_eq_true rfl, Nat.le_of_ble_eq_true rfl⟩) (preS hK hN w) rfl rfl hl.1 rfl (lv_room (Nat.le_of_ble_eq_true rfl)) dX3_register_29 ⟨Nat.zero_le _, Nat.zero_le _⟩) ?_
    refine lv_istore (lv' := [(6, .int (f_X3_textFault ((f_X3_spanRefusal σ p1 p2 p3 p4.toInt64).2) (ix p1) p3 p4)), (5, .int ((f_X3_spanRefusal σ p1 p2 p3 p4.toInt64).1)), (0, .ref (ad 0)), (1, .int p1), (2, .int p2), (3, .int p3), (4, .int p4)]) hx hb dX3_register_32 hl (by decide) rfl (fun ls hl => ?_)
    refine lv_iload hx hb dX3_register_34 (lv_at hl 0 rfl) ?_
    refine lv_if_lt (tgt := 45) hx hb dX3_register_36 (by decide) (fun c36 => ?_) (fun c36 => ?_)
    · have t36 : (f_X3_textFault ((f_X3_spanRefusal σ p1 p2 p3 p4.toInt64).2) (ix p1) p3 p4).toInt < 0 := qt_lt c36
      rw [if_pos c36] at hG
      have zt := tf_neg (by omega) (by omega) t36
      refine lv_aload_n hx hb dX3_register_45 rfl (lv_at hl 2 rfl) ?_
      refine lv_aload_n hx hb dX3_register_46 rfl (lv_at hl 2 rfl) ?_
      refine r_get (C := RX3) (T := TX3) (N := 14) S hK w (k := 0) (by decide) (eC_0 ad _) rfl hinX3 0 (by decide) (List.mem_of_getElem? (i := 1) rfl) rfl dX3_register_47 ?_
      refine lv_iload_n hx hb dX3_register_50 rfl (lv_at hl 3 rfl) ?_
      have g51 : vp_in p1 4 := vpi (by omega) (by omega)
      refine r_aald S hK w (k := 1) (by decide) (eC_1 ad _) (t0 := 1) rfl g51 dX3_register_51 ?_
      refine lv_iload_n hx hb dX3_register_52 rfl (lv_at hl 5 rfl) ?_
      refine lv_iload hx hb dX3_register_53 (lv_at hl 6 rfl) ?_
      refine callWv w (va_runV (As := [.ref (ad (9 + (ix p1))), .int p3, .int p4]) (rest := []) S (c_X3_takeText l ad D H.size ((f_X3_spanRefusal σ p1 p2 p3 p4.toInt64).2) (ix p1) p3 p4 (vpl g51) (by omega) zt.1 (by have := zt.2; omega)) (cwV 3 S.2.2.2.2 gX3_register_X3_takeText rfl rfl rfl ⟨rfl, hd_X3_takeText⟩ ⟨Nat.le_of_ble_eq_true rfl, Nat.le_of_ble_eq_true rfl⟩) (preV hK hN w (k := 0) (by decide) (eC_0 ad _) (q := (RX3, TX3, 14)) rfl) rfl rfl hl.1 rfl (lv_room (Nat.le_of_ble_eq_true rfl)) dX3_register_55 ⟨Nat.zero_le _, Nat.zero_le _⟩) (fun H locs w => ?_)
      refine lv_aload_n hx hb dX3_register_58 rfl (lv_at hl 2 rfl) ?_
      refine callWv w (va_runV (As := []) (rest := []) S (c_X3_startAnew l ad D H.size (f_X3_takeText ((f_X3_spanRefusal σ p1 p2 p3 p4.toInt64).2) (ix p1) p3 p4)) (cwV 0 S.2.2.2.2 gX3_register_X3_startAnew rfl rfl rfl ⟨rfl, hd_X3_startAnew⟩ ⟨Nat.le_of_ble_eq_true rfl, Nat.le_of_ble_eq_true rfl⟩) (preV hK hN w (k := 0) (by decide) (eC_0 ad _) (q := (RX3, TX3, 14)) rfl) rfl rfl hl.1 rfl (lv_room (Nat.le_of_ble_eq_true rfl)) dX3_register_59 ⟨Nat.zero_le _, Nat.zero_le _⟩) (fun H locs w => ?_)
      refine lv_aload_n hx hb dX3_register_62 rfl (lv_at hl 2 rfl) ?_
      refine r_get (C := RX3) (T := TX3) (N := 14) S hK w (k := 0) (by decide) (eC_0 ad _) rfl hinX3 4 (by decide) (List.mem_of_getElem? (i := 2) rfl) rfl dX3_register_63 ?_
      exact endWi S hr hlocks w hG dX3_register_66
    · have t36 : 0 ≤ (f_X3_textFault ((f_X3_spanRefusal σ p1 p2 p3 p4.toInt64).2) (ix p1) p3 p4).toInt := qt_nlt c36
      rw [if_neg c36] at hG
      refine lv_bipush (v := (-100)) hx hb dX3_register_39 (by decide) ?_
      refine lv_iload hx hb dX3_register_41 (lv_at hl 0 rfl) ?_
      refine lv_isub hx hb dX3_register_43 ?_
      exact endWi S hr hlocks w hG dX3_register_44
  · have t14 : ((f_X3_spanRefusal σ p1 p2 p3 p4.toInt64).1).toInt ≠ 0 := qt_ne c14
    rw [if_neg c14] at hG
    refine lv_iload hx hb dX3_register_17 (lv_at hl 0 rfl) ?_
    exact endWi S hr hlocks w hG dX3_register_19
set_option maxHeartbeats 4000000 in
set_option maxRecDepth 100000 in
theorem c_X3_isSign (l : Launch) (ad : Nat → Nat) (D : va_G) (sz : Nat) (σ : St) (p1 : Int32) : Met l yX3_isSign wsX3_isSign ({ frames := 0, cells := 0, slots := 0, locals := 0 }) (PreW 41 (eC ad) ad D (tyC ad) σ sz ([.ref (ad 0), .int p1] : List Value)) (Q0i (f_X3_isSign σ p1)) 0 0 N0 := by
  generalize hG : f_X3_isSign σ p1 = T
  refine headW (cc := cX3_isSign) (maxL := 2) (ret := (some .boolean)) ([.ref (ad 0), .int p1] : List Value) (by decide) rfl (Nat.le_of_ble_eq_true rfl) ?_
  intro p e s m below meth c S hr hlocks hK hN hsz w ls hl
  have S : CallFix p m c cX3_isSign 2 s ([.ref (ad 0), .int p1] : List Value).toArray wsX3_isSign RX3 := S
  have hx := S.1
  have hb := S.2.1
  have z0 : (0 : Int32).toInt = 0 := by decide
  have z1 : (1 : Int32).toInt = 1 := by decide
  have hl : lv_has ls 2 [(0, .ref (ad 0)), (1, .int p1)] := hl
  have hinX3 : ∀ w ∈ wsX30, w ∈ wsX3_isSign := (fun _ h => List.mem_cons_of_mem _ (List.mem_append_right _ h))
  rw [f_X3_isSign] at hG
  refine lv_iload_n hx hb dX3_isSign_0 rfl (lv_at hl 1 rfl) ?_
  refine lv_if_lt (tgt := 16) hx hb dX3_isSign_1 (by decide) (fun c1 => ?_) (fun c1 => ?_)
  · have t1 : p1.toInt < 0 := qt_lt c1
    rw [if_pos c1] at hG
    refine lv_iconst (v := 0) hx hb dX3_isSign_16 (by decide) ?_
    exact end0z S hr hlocks (Or.inl rfl) hG dX3_isSign_17
  · have t1 : 0 ≤ p1.toInt := qt_nlt c1
    rw [if_neg c1] at hG
    refine lv_iload_n hx hb dX3_isSign_4 rfl (lv_at hl 1 rfl) ?_
    refine lv_aload_n hx hb dX3_isSign_5 rfl (lv_at hl 0 rfl) ?_
    refine r_get (C := RX3) (T := TX3) (N := 14) S hK w (k := 0) (by decide) (eC_0 ad _) rfl hinX3 4 (by decide) (List.mem_of_getElem? (i := 1) rfl) rfl dX3_isSign_6 ?_
    refine lv_icmp_ge (tgt := 16) hx hb dX3_isSign_9 (by decide) (fun c9 => ?_) (fun c9 => ?_)
    · have t9 : (σ 0 4).toInt ≤ p1.toInt := qt_le c9
      rw [if_pos c9] at hG
      refine lv_iconst (v := 0) hx hb dX3_isSign_16 (by decide) ?_
      exact end0z S hr hlocks (Or.inl rfl) hG dX3_isSign_17
    · have t9 : p1.toInt < (σ 0 4).toInt := qt_nle c9
      rw [if_neg c9] at hG
      refine lv_iconst (v := 1) hx hb dX3_isSign_12 (by decide) ?_
      refine lv_goto (tgt := 17) hx hb dX3_isSign_13 (by decide) ?_
      exact end0z S hr hlocks (Or.inr rfl) hG dX3_isSign_17
set_option maxHeartbeats 4000000 in
set_option maxRecDepth 100000 in
theorem c_X3_ofSign (l : Launch) (ad : Nat → Nat) (D : va_G) (sz : Nat) (σ : St) (p1 : Int32) (p2 : Int32) (hok : OkC σ) : Met l yX3_ofSign wsX3_ofSign ({ frames := 1, cells := 0, slots := 0, locals := 21 }) (PreW 41 (eC ad) ad D (tyC ad) σ sz ([.ref (ad 0), .int p1, .int p2] : List Value)) (Q0i (f_X3_ofSign σ p1 p2)) 0 0 N0 := by
  generalize hG : f_X3_ofSign σ p1 p2 = T
  refine headW (cc := cX3_ofSign) (maxL := 3) (ret := (some .int)) ([.ref (ad 0), .int p1, .int p2] : List Value) (by decide) rfl (Nat.le_of_ble_eq_true rfl) ?_
  intro p e s m below meth c S hr hlocks hK hN hsz w ls hl
  have S : CallFix p m c cX3_ofSign 3 s ([.ref (ad 0), .int p1, .int p2] : List Value).toArray wsX3_ofSign RX3 := S
  have hx := S.1
  have hb := S.2.1
  have z0 : (0 : Int32).toInt = 0 := by decide
  have z1 : (1 : Int32).toInt = 1 := by decide
  have hl : lv_has ls 3 [(0, .ref (ad 0)), (1, .int p1), (2, .int p2)] := hl
  have hinX3 : ∀ w ∈ wsX30, w ∈ wsX3_ofSign := (fun _ h => List.mem_cons_of_mem _ (List.mem_append_left _ (List.mem_append_right _ h)))
  have hinX2 : ∀ w ∈ wsX20, w ∈ wsX3_ofSign := (fun _ h => List.mem_cons_of_mem _ (List.mem_append_right _ h))
  have okf0 := hok.1
  have okf1 := hok.2.1
  have okf2 := hok.2.2.1
  have okf3 := hok.2.2.2.1
  have okf4 := hok.2.2.2.2.1
  have okf5 := hok.2.2.2.2.2
  rw [f_X3_ofSign] at hG
  refine lv_aload_n hx hb dX3_ofSign_0 rfl (lv_at hl 0 rfl) ?_
  refine lv_iload_n hx hb dX3_ofSign_1 rfl (lv_at hl 1 rfl) ?_
  refine call0i (va_runV (As := [.int p1]) (rest := []) S (c_X3_isSign l ad D s.heap.size σ p1) (cwV 1 S.2.2.2.2 gX3_ofSign_X3_isSign rfl rfl rfl ⟨rfl, hd_X3_isSign⟩ ⟨Nat.le_of_ble_eq_true rfl, Nat.le_of_ble_eq_true rfl⟩) (preV hK hN w (k := 0) (by decide) (eC_0 ad _) (q := (RX3, TX3, 14)) rfl) rfl rfl hl.1 rfl (lv_room (Nat.le_of_ble_eq_true rfl)) dX3_ofSign_2 ⟨Nat.zero_le _, Nat.zero_le _⟩) ?_
  refine lv_if_ne (tgt := 10) hx hb dX3_ofSign_5 (by decide) (fun c5 => ?_) (fun c5 => ?_)
  · have t5 := bf_isSign_n c5
    rw [if_neg c5] at hG
    refine lv_iload_n hx hb dX3_ofSign_10 rfl (lv_at hl 2 rfl) ?_
    refine lv_iconst (v := (-1)) hx hb dX3_ofSign_11 (by decide) ?_
    refine lv_icmp_lt (tgt := 21) hx hb dX3_ofSign_12 (by decide) (fun c12 => ?_) (fun c12 => ?_)
    · have t12 : p2.toInt < -1 := qt_lt c12
      rw [if_pos c12] at hG
      refine lv_bipush (v := (-2)) hx hb dX3_ofSign_21 (by decide) ?_
      exact end0i S hr hlocks hG dX3_ofSign_23
    · have t12 : -1 ≤ p2.toInt := qt_nlt c12
      rw [if_neg c12] at hG
      refine lv_iload_n hx hb dX3_ofSign_15 rfl (lv_at hl 2 rfl) ?_
      refine lv_bipush (v := 9) hx hb dX3_ofSign_16 (by decide) ?_
      refine lv_icmp_lt (tgt := 24) hx hb dX3_ofSign_18 (by decide) (fun c18 => ?_) (fun c18 => ?_)
      · have t18 : p2.toInt < 9 := qt_lt c18
        rw [if_pos c18] at hG
        refine lv_iload_n hx hb dX3_ofSign_24 rfl (lv_at hl 2 rfl) ?_
        refine lv_if_ge (tgt := 40) hx hb dX3_ofSign_25 (by decide) (fun c25 => ?_) (fun c25 => ?_)
        · have t25 : 0 ≤ p2.toInt := qt_le c25
          rw [if_pos c25] at hG
          refine lv_aload_n hx hb dX3_ofSign_40 rfl (lv_at hl 0 rfl) ?_
          refine r_get (C := RX3) (T := TX3) (N := 14) S hK w (k := 0) (by decide) (eC_0 ad _) rfl hinX3 1 (by decide) (List.mem_of_getElem? (i := 1) rfl) rfl dX3_ofSign_41 ?_
          refine lv_iload_n hx hb dX3_ofSign_44 rfl (lv_at hl 1 rfl) ?_
          have g45 : vp_in p1 8 := vpi (by omega) (by omega)
          refine r_aald S hK w (k := 2) (by decide) (eC_2 ad _) (t0 := 2) rfl g45 dX3_ofSign_45 ?_
          refine r_getN (C := RX2) (T := TX2) (N := 3) S hK hN w (k := (17 + (ix p1))) (Nat.lt_of_lt_of_le (Nat.add_lt_add_left (vpl g45) 17) (by decide)) (eC_sg ad (vpl g45) _) rfl hinX2 2 (by decide) 5 rfl rfl dX3_ofSign_46 ?_
          refine lv_iload_n hx hb dX3_ofSign_49 rfl (lv_at hl 2 rfl) ?_
          have g50 : vp_in p2 9 := vpi (by omega) (by omega)
          refine r_iald (cA := ad 100) (N := 9) S hK w (k := (25 + (ix p1))) (Nat.lt_of_lt_of_le (Nat.add_lt_add_left (vpl g45) 25) (by decide)) (fun f => eC_st ad (vpl g45) f) rfl g50 dX3_ofSign_50 ?_
          exact end0i S hr hlocks hG dX3_ofSign_51
        · have t25 : p2.toInt < 0 := qt_nle c25
          rw [if_neg c25] at hG
          refine lv_aload_n hx hb dX3_ofSign_28 rfl (lv_at hl 0 rfl) ?_
          refine r_get (C := RX3) (T := TX3) (N := 14) S hK w (k := 0) (by decide) (eC_0 ad _) rfl hinX3 1 (by decide) (List.mem_of_getElem? (i := 1) rfl) rfl dX3_ofSign_29 ?_
          refine lv_iload_n hx hb dX3_ofSign_32 rfl (lv_at hl 1 rfl) ?_
          have g33 : vp_in p1 8 := vpi (by omega) (by omega)
          refine r_aald S hK w (k := 2) (by decide) (eC_2 ad _) (t0 := 2) rfl g33 dX3_ofSign_33 ?_
          refine r_getN (C := RX2) (T := TX2) (N := 3) S hK hN w (k := (17 + (ix p1))) (Nat.lt_of_lt_of_le (Nat.add_lt_add_left (vpl g33) 17) (by decide)) (eC_sg ad (vpl g33) _) rfl hinX2 0 (by decide) 3 rfl rfl dX3_ofSign_34 ?_
          refine lv_goto (tgt := 51) hx hb dX3_ofSign_37 (by decide) ?_
          exact end0i S hr hlocks hG dX3_ofSign_51
      · have t18 : 9 ≤ p2.toInt := qt_nlt c18
        rw [if_neg c18] at hG
        refine lv_bipush (v := (-2)) hx hb dX3_ofSign_21 (by decide) ?_
        exact end0i S hr hlocks hG dX3_ofSign_23
  · rw [if_pos c5] at hG
    refine lv_iconst (v := (-1)) hx hb dX3_ofSign_8 (by decide) ?_
    exact end0i S hr hlocks hG dX3_ofSign_9
set_option maxHeartbeats 4000000 in
set_option maxRecDepth 100000 in
theorem c_X3_isSmell (l : Launch) (p1 : Int32) : Met l yX3_isSmell wsX3_isSmell ({ frames := 0, cells := 0, slots := 0, locals := 0 }) (Pre0 ([.int p1] : List Value)) (Q0i (f_X3_isSmell p1)) 0 0 N0 := by
  generalize hG : f_X3_isSmell p1 = T
  refine head0 (cc := cX3_isSmell) (maxL := 1) (ret := (some .boolean)) ([.int p1] : List Value) (by decide) rfl (Nat.le_of_ble_eq_true rfl) ?_
  intro p e s m below meth c S hr hlocks ls hl
  have S : CallFix p m c cX3_isSmell 1 s ([.int p1] : List Value).toArray wsX3_isSmell RX3 := S
  have hx := S.1
  have hb := S.2.1
  have z0 : (0 : Int32).toInt = 0 := by decide
  have z1 : (1 : Int32).toInt = 1 := by decide
  have hl : lv_has ls 1 [(0, .int p1)] := hl
  rw [f_X3_isSmell] at hG
  refine lv_iload_n hx hb dX3_isSmell_0 rfl (lv_at hl 0 rfl) ?_
  refine lv_if_lt (tgt := 14) hx hb dX3_isSmell_1 (by decide) (fun c1 => ?_) (fun c1 => ?_)
  · have t1 : p1.toInt < 0 := qt_lt c1
    rw [if_pos c1] at hG
    refine lv_iconst (v := 0) hx hb dX3_isSmell_14 (by decide) ?_
    exact end0z S hr hlocks (Or.inl rfl) hG dX3_isSmell_15
  · have t1 : 0 ≤ p1.toInt := qt_nlt c1
    rw [if_neg c1] at hG
    refine lv_iload_n hx hb dX3_isSmell_4 rfl (lv_at hl 0 rfl) ?_
    refine lv_bipush (v := 9) hx hb dX3_isSmell_5 (by decide) ?_
    refine lv_icmp_ge (tgt := 14) hx hb dX3_isSmell_7 (by decide) (fun c7 => ?_) (fun c7 => ?_)
    · have t7 : 9 ≤ p1.toInt := qt_le c7
      rw [if_pos c7] at hG
      refine lv_iconst (v := 0) hx hb dX3_isSmell_14 (by decide) ?_
      exact end0z S hr hlocks (Or.inl rfl) hG dX3_isSmell_15
    · have t7 : p1.toInt < 9 := qt_nle c7
      rw [if_neg c7] at hG
      refine lv_iconst (v := 1) hx hb dX3_isSmell_10 (by decide) ?_
      refine lv_goto (tgt := 15) hx hb dX3_isSmell_11 (by decide) ?_
      exact end0z S hr hlocks (Or.inr rfl) hG dX3_isSmell_15
set_option maxHeartbeats 4000000 in
set_option maxRecDepth 100000 in
theorem c_X3_half (l : Launch) (ad : Nat → Nat) (D : va_G) (sz : Nat) (σ : St) (p1 : Int32) (p2 : Int32) : Met l yX3_half wsX3_half ({ frames := 1, cells := 0, slots := 0, locals := 20 }) (PreW 41 (eC ad) ad D (tyC ad) σ sz ([.ref (ad 0), .int p1, .int p2] : List Value)) (QWi 41 (eC ad) ad D (f_X3_half σ p1 p2) (CA 41 ad sz)) 0 0 (CA 41 ad sz) := by
  generalize hG : f_X3_half σ p1 p2 = T
  refine headW (cc := cX3_half) (maxL := 4) (ret := (some .int)) ([.ref (ad 0), .int p1, .int p2] : List Value) (by decide) rfl (Nat.le_of_ble_eq_true rfl) ?_
  intro p e s m below meth c S hr hlocks hK hN hsz w ls hl
  have S : CallFix p m c cX3_half 4 s ([.ref (ad 0), .int p1, .int p2] : List Value).toArray wsX3_half RX3 := S
  have hx := S.1
  have hb := S.2.1
  have z0 : (0 : Int32).toInt = 0 := by decide
  have z1 : (1 : Int32).toInt = 1 := by decide
  have hl : lv_has ls 4 [(0, .ref (ad 0)), (1, .int p1), (2, .int p2)] := hl
  have hinX3 : ∀ w ∈ wsX30, w ∈ wsX3_half := (fun _ h => List.mem_cons_of_mem _ (List.mem_append_right _ h))
  rw [f_X3_half] at hG
  refine lv_iload_n hx hb dX3_half_0 rfl (lv_at hl 1 rfl) ?_
  refine call0i (va_runS (As := [.int p1]) (rest := []) S (c_X3_isSmell l p1) (va_cwS 1 S.2.2.2.2 gX3_half_X3_isSmell rfl rfl rfl hd_X3_isSmell ⟨Nat.le_of_ble_eq_true rfl, Nat.le_of_ble_eq_true rfl⟩) pre0S rfl rfl hl.1 rfl (lv_room (Nat.le_of_ble_eq_true rfl)) dX3_half_1 ⟨Nat.zero_le _, Nat.zero_le _⟩) ?_
  refine lv_if_ne (tgt := 9) hx hb dX3_half_4 (by decide) (fun c4 => ?_) (fun c4 => ?_)
  · have t4 := bf_isSmell_n c4
    rw [if_neg c4] at hG
    refine lv_iload_n hx hb dX3_half_9 rfl (lv_at hl 2 rfl) ?_
    refine lv_iconst (v := 1) hx hb dX3_half_10 (by decide) ?_
    refine lv_icmp_lt (tgt := 20) hx hb dX3_half_11 (by decide) (fun c11 => ?_) (fun c11 => ?_)
    · have t11 : p2.toInt < 1 := qt_lt c11
      rw [if_pos c11] at hG
      refine lv_bipush (v := (-2)) hx hb dX3_half_20 (by decide) ?_
      exact endWi S hr hlocks w hG dX3_half_22
    · have t11 : 1 ≤ p2.toInt := qt_nlt c11
      rw [if_neg c11] at hG
      refine lv_iload_n hx hb dX3_half_14 rfl (lv_at hl 2 rfl) ?_
      refine lv_bipush (v := 9) hx hb dX3_half_15 (by decide) ?_
      refine lv_icmp_le (tgt := 23) hx hb dX3_half_17 (by decide) (fun c17 => ?_) (fun c17 => ?_)
      · have t17 : p2.toInt ≤ 9 := qt_le c17
        rw [if_pos c17] at hG
        refine lv_aload_n hx hb dX3_half_23 rfl (lv_at hl 0 rfl) ?_
        refine r_get (C := RX3) (T := TX3) (N := 14) S hK w (k := 0) (by decide) (eC_0 ad _) rfl hinX3 4 (by decide) (List.mem_of_getElem? (i := 1) rfl) rfl dX3_half_24 ?_
        refine lv_if_ne (tgt := 33) hx hb dX3_half_27 (by decide) (fun c27 => ?_) (fun c27 => ?_)
        · have t27 : (σ 0 4).toInt ≠ 0 := qt_ne c27
          rw [if_neg c27] at hG
          refine lv_aload_n hx hb dX3_half_33 rfl (lv_at hl 0 rfl) ?_
          refine r_get (C := RX3) (T := TX3) (N := 14) S hK w (k := 0) (by decide) (eC_0 ad _) rfl hinX3 3 (by decide) (List.mem_of_getElem? (i := 2) rfl) rfl dX3_half_34 ?_
          refine lv_iload_n hx hb dX3_half_37 rfl (lv_at hl 1 rfl) ?_
          have g38 : vp_in p1 9 := vpi (by omega) (by omega)
          refine r_iald (cA := ad 100) (N := 9) S hK w (k := 4) (by decide) (fun f => eC_4 ad f) rfl g38 dX3_half_38 ?_
          refine lv_istore_n (lv' := [(3, .int (σ 4 (ix p1))), (0, .ref (ad 0)), (1, .int p1), (2, .int p2)]) hx hb dX3_half_39 rfl hl (by decide) rfl (fun ls hl => ?_)
          refine lv_aload_n hx hb dX3_half_40 rfl (lv_at hl 1 rfl) ?_
          refine r_get (C := RX3) (T := TX3) (N := 14) S hK w (k := 0) (by decide) (eC_0 ad _) rfl hinX3 3 (by decide) (List.mem_of_getElem? (i := 2) rfl) rfl dX3_half_41 ?_
          refine lv_iload_n hx hb dX3_half_44 rfl (lv_at hl 2 rfl) ?_
          refine lv_iload_n hx hb dX3_half_45 rfl (lv_at hl 3 rfl) ?_
          have g46 : vp_in p1 9 := vpi (by omega) (by omega)
          refine r_iast (cA := ad 100) (N := 9) S hK w (k := 4) (by decide) (fun f => eC_4 ad f) rfl g46 dX3_half_46 (fun H locs w => ?_)
          refine lv_iload_n hx hb dX3_half_47 rfl (lv_at hl 0 rfl) ?_
          exact endWi S hr hlocks w hG dX3_half_48
        · have t27 : (σ 0 4).toInt = 0 := qt_eq c27
          rw [if_pos c27] at hG
          refine lv_bipush (v := (-3)) hx hb dX3_half_30 (by decide) ?_
          exact endWi S hr hlocks w hG dX3_half_32
      · have t17 : 9 < p2.toInt := qt_nle c17
        rw [if_neg c17] at hG
        refine lv_bipush (v := (-2)) hx hb dX3_half_20 (by decide) ?_
        exact endWi S hr hlocks w hG dX3_half_22
  · rw [if_pos c4] at hG
    refine lv_iconst (v := (-1)) hx hb dX3_half_7 (by decide) ?_
    exact endWi S hr hlocks w hG dX3_half_8
set_option maxHeartbeats 4000000 in
set_option maxRecDepth 100000 in
theorem c_X3_bound (l : Launch) (ad : Nat → Nat) (D : va_G) (sz : Nat) (σ : St) (p1 : Int32) : Met l yX3_bound wsX3_bound ({ frames := 0, cells := 0, slots := 0, locals := 0 }) (PreW 41 (eC ad) ad D (tyC ad) σ sz ([.ref (ad 0), .int p1] : List Value)) (QWi 41 (eC ad) ad D (f_X3_bound σ p1) (CA 41 ad sz)) 0 0 (CA 41 ad sz) := by
  generalize hG : f_X3_bound σ p1 = T
  refine headW (cc := cX3_bound) (maxL := 3) (ret := (some .int)) ([.ref (ad 0), .int p1] : List Value) (by decide) rfl (Nat.le_of_ble_eq_true rfl) ?_
  intro p e s m below meth c S hr hlocks hK hN hsz w ls hl
  have S : CallFix p m c cX3_bound 3 s ([.ref (ad 0), .int p1] : List Value).toArray wsX3_bound RX3 := S
  have hx := S.1
  have hb := S.2.1
  have z0 : (0 : Int32).toInt = 0 := by decide
  have z1 : (1 : Int32).toInt = 1 := by decide
  have hl : lv_has ls 3 [(0, .ref (ad 0)), (1, .int p1)] := hl
  have hinX3 : ∀ w ∈ wsX30, w ∈ wsX3_bound := (fun _ h => List.mem_cons_of_mem _ (List.mem_append_right _ h))
  rw [f_X3_bound] at hG
  refine lv_iload_n hx hb dX3_bound_0 rfl (lv_at hl 1 rfl) ?_
  refine lv_if_lt (tgt := 11) hx hb dX3_bound_1 (by decide) (fun c1 => ?_) (fun c1 => ?_)
  · have t1 : p1.toInt < 0 := qt_lt c1
    rw [if_pos c1] at hG
    refine lv_bipush (v := (-2)) hx hb dX3_bound_11 (by decide) ?_
    exact endWi S hr hlocks w hG dX3_bound_13
  · have t1 : 0 ≤ p1.toInt := qt_nlt c1
    rw [if_neg c1] at hG
    refine lv_iload_n hx hb dX3_bound_4 rfl (lv_at hl 1 rfl) ?_
    refine lv_sipush (v := 999) hx hb dX3_bound_5 (by decide) ?_
    refine lv_icmp_le (tgt := 14) hx hb dX3_bound_8 (by decide) (fun c8 => ?_) (fun c8 => ?_)
    · have t8 : p1.toInt ≤ 999 := qt_le c8
      rw [if_pos c8] at hG
      refine lv_aload_n hx hb dX3_bound_14 rfl (lv_at hl 0 rfl) ?_
      refine r_get (C := RX3) (T := TX3) (N := 14) S hK w (k := 0) (by decide) (eC_0 ad _) rfl hinX3 4 (by decide) (List.mem_of_getElem? (i := 1) rfl) rfl dX3_bound_15 ?_
      refine lv_if_ne (tgt := 24) hx hb dX3_bound_18 (by decide) (fun c18 => ?_) (fun c18 => ?_)
      · have t18 : (σ 0 4).toInt ≠ 0 := qt_ne c18
        rw [if_neg c18] at hG
        refine lv_aload_n hx hb dX3_bound_24 rfl (lv_at hl 0 rfl) ?_
        refine r_get (C := RX3) (T := TX3) (N := 14) S hK w (k := 0) (by decide) (eC_0 ad _) rfl hinX3 7 (by decide) (List.mem_of_getElem? (i := 2) rfl) rfl dX3_bound_25 ?_
        refine lv_istore_n (lv' := [(2, .int (σ 0 7)), (0, .ref (ad 0)), (1, .int p1)]) hx hb dX3_bound_28 rfl hl (by decide) rfl (fun ls hl => ?_)
        refine lv_aload_n hx hb dX3_bound_29 rfl (lv_at hl 1 rfl) ?_
        refine lv_iload_n hx hb dX3_bound_30 rfl (lv_at hl 2 rfl) ?_
        refine r_put (C := RX3) (T := TX3) (N := 14) S hK w (k := 0) (by decide) (eC_0 ad _) rfl hinX3 tyX3 tyX3_ok nmX3 7 (by decide) (List.mem_of_getElem? (i := 2) rfl) rfl (x := p1) (ty := .int) (by decide +kernel) rfl rfl (by show _ < List.length _; exact Nat.le_of_ble_eq_true rfl) (sO ad _ _ 7 (by decide)) dX3_bound_31 (fun H locs w => ?_)
        refine lv_iload_n hx hb dX3_bound_34 rfl (lv_at hl 0 rfl) ?_
        exact endWi S hr hlocks w hG dX3_bound_35
      · have t18 : (σ 0 4).toInt = 0 := qt_eq c18
        rw [if_pos c18] at hG
        refine lv_bipush (v := (-3)) hx hb dX3_bound_21 (by decide) ?_
        exact endWi S hr hlocks w hG dX3_bound_23
    · have t8 : 999 < p1.toInt := qt_nle c8
      rw [if_neg c8] at hG
      refine lv_bipush (v := (-2)) hx hb dX3_bound_11 (by decide) ?_
      exact endWi S hr hlocks w hG dX3_bound_13
set_option maxHeartbeats 4000000 in
set_option maxRecDepth 100000 in
theorem c_X3_year (l : Launch) (ad : Nat → Nat) (D : va_G) (sz : Nat) (σ : St) (p1 : Int32) : Met l yX3_year wsX3_year ({ frames := 0, cells := 0, slots := 0, locals := 0 }) (PreW 41 (eC ad) ad D (tyC ad) σ sz ([.ref (ad 0), .int p1] : List Value)) (QWi 41 (eC ad) ad D (f_X3_year σ p1) (CA 41 ad sz)) 0 0 (CA 41 ad sz) := by
  generalize hG : f_X3_year σ p1 = T
  refine headW (cc := cX3_year) (maxL := 3) (ret := (some .int)) ([.ref (ad 0), .int p1] : List Value) (by decide) rfl (Nat.le_of_ble_eq_true rfl) ?_
  intro p e s m below meth c S hr hlocks hK hN hsz w ls hl
  have S : CallFix p m c cX3_year 3 s ([.ref (ad 0), .int p1] : List Value).toArray wsX3_year RX3 := S
  have hx := S.1
  have hb := S.2.1
  have z0 : (0 : Int32).toInt = 0 := by decide
  have z1 : (1 : Int32).toInt = 1 := by decide
  have hl : lv_has ls 3 [(0, .ref (ad 0)), (1, .int p1)] := hl
  have hinX3 : ∀ w ∈ wsX30, w ∈ wsX3_year := (fun _ h => List.mem_cons_of_mem _ (List.mem_append_right _ h))
  rw [f_X3_year] at hG
  refine lv_iload_n hx hb dX3_year_0 rfl (lv_at hl 1 rfl) ?_
  refine lv_aload_n hx hb dX3_year_1 rfl (lv_at hl 0 rfl) ?_
  refine r_get (C := RX3) (T := TX3) (N := 14) S hK w (k := 0) (by decide) (eC_0 ad _) rfl hinX3 6 (by decide) (List.mem_of_getElem? (i := 1) rfl) rfl dX3_year_2 ?_
  refine lv_icmp_lt (tgt := 14) hx hb dX3_year_5 (by decide) (fun c5 => ?_) (fun c5 => ?_)
  · have t5 : p1.toInt < (σ 0 6).toInt := qt_lt c5
    rw [if_pos c5] at hG
    refine lv_bipush (v := (-2)) hx hb dX3_year_14 (by decide) ?_
    exact endWi S hr hlocks w hG dX3_year_16
  · have t5 : (σ 0 6).toInt ≤ p1.toInt := qt_nlt c5
    rw [if_neg c5] at hG
    refine lv_iload_n hx hb dX3_year_8 rfl (lv_at hl 1 rfl) ?_
    refine lv_bipush (v := 99) hx hb dX3_year_9 (by decide) ?_
    refine lv_icmp_le (tgt := 17) hx hb dX3_year_11 (by decide) (fun c11 => ?_) (fun c11 => ?_)
    · have t11 : p1.toInt ≤ 99 := qt_le c11
      rw [if_pos c11] at hG
      refine lv_aload_n hx hb dX3_year_17 rfl (lv_at hl 0 rfl) ?_
      refine r_get (C := RX3) (T := TX3) (N := 14) S hK w (k := 0) (by decide) (eC_0 ad _) rfl hinX3 4 (by decide) (List.mem_of_getElem? (i := 2) rfl) rfl dX3_year_18 ?_
      refine lv_if_ne (tgt := 27) hx hb dX3_year_21 (by decide) (fun c21 => ?_) (fun c21 => ?_)
      · have t21 : (σ 0 4).toInt ≠ 0 := qt_ne c21
        rw [if_neg c21] at hG
        refine lv_aload_n hx hb dX3_year_27 rfl (lv_at hl 0 rfl) ?_
        refine r_get (C := RX3) (T := TX3) (N := 14) S hK w (k := 0) (by decide) (eC_0 ad _) rfl hinX3 6 (by decide) (List.mem_of_getElem? (i := 1) rfl) rfl dX3_year_28 ?_
        refine lv_istore_n (lv' := [(2, .int (σ 0 6)), (0, .ref (ad 0)), (1, .int p1)]) hx hb dX3_year_31 rfl hl (by decide) rfl (fun ls hl => ?_)
        refine lv_aload_n hx hb dX3_year_32 rfl (lv_at hl 1 rfl) ?_
        refine lv_iload_n hx hb dX3_year_33 rfl (lv_at hl 2 rfl) ?_
        refine r_put (C := RX3) (T := TX3) (N := 14) S hK w (k := 0) (by decide) (eC_0 ad _) rfl hinX3 tyX3 tyX3_ok nmX3 6 (by decide) (List.mem_of_getElem? (i := 1) rfl) rfl (x := p1) (ty := .int) (by decide +kernel) rfl rfl (by show _ < List.length _; exact Nat.le_of_ble_eq_true rfl) (sO ad _ _ 6 (by decide)) dX3_year_34 (fun H locs w => ?_)
        refine lv_iload_n hx hb dX3_year_37 rfl (lv_at hl 0 rfl) ?_
        exact endWi S hr hlocks w hG dX3_year_38
      · have t21 : (σ 0 4).toInt = 0 := qt_eq c21
        rw [if_pos c21] at hG
        refine lv_bipush (v := (-3)) hx hb dX3_year_24 (by decide) ?_
        exact endWi S hr hlocks w hG dX3_year_26
    · have t11 : 99 < p1.toInt := qt_nle c11
      rw [if_neg c11] at hG
      refine lv_bipush (v := (-2)) hx hb dX3_year_14 (by decide) ?_
      exact endWi S hr hlocks w hG dX3_year_16
set_option maxHeartbeats 4000000 in
set_option maxRecDepth 100000 in
theorem c_X3_fade (l : Launch) (ad : Nat → Nat) (D : va_G) (sz : Nat) (σ : St) (p1 : Nat) (p2 : Int32) (p3 : Int32) (p4 : Int32) (hok : OkC σ) (hp1 : p1 < 8) (hsm : 0 ≤ p2.toInt ∧ p2.toInt < 9) : Met l yX3_fade wsX3_fade ({ frames := 1, cells := 0, slots := 0, locals := 21 }) (PreW 41 (eC ad) ad D (tyC ad) σ sz ([.ref (ad 0), .ref (ad (17 + p1)), .int p2, .int p3, .int p4] : List Value)) (Q0i (f_X3_fade σ p1 p2 p3 p4)) 0 0 N0 := by
  generalize hG : f_X3_fade σ p1 p2 p3 p4 = T
  refine headW (cc := cX3_fade) (maxL := 7) (ret := (some .int)) ([.ref (ad 0), .ref (ad (17 + p1)), .int p2, .int p3, .int p4] : List Value) (by decide) rfl (Nat.le_of_ble_eq_true rfl) ?_
  intro p e s m below meth c S hr hlocks hK hN hsz w ls hl
  have S : CallFix p m c cX3_fade 7 s ([.ref (ad 0), .ref (ad (17 + p1)), .int p2, .int p3, .int p4] : List Value).toArray wsX3_fade RX3 := S
  have hx := S.1
  have hb := S.2.1
  have z0 : (0 : Int32).toInt = 0 := by decide
  have z1 : (1 : Int32).toInt = 1 := by decide
  have hl : lv_has ls 7 [(0, .ref (ad 0)), (1, .ref (ad (17 + p1))), (2, .int p2), (3, .int p3), (4, .int p4)] := hl
  have hinX2 : ∀ w ∈ wsX20, w ∈ wsX3_fade := (fun _ h => List.mem_cons_of_mem _ (List.mem_append_left _ (List.mem_append_right _ h)))
  have hinX3 : ∀ w ∈ wsX30, w ∈ wsX3_fade := (fun _ h => List.mem_cons_of_mem _ (List.mem_append_right _ h))
  have okf0 := hok.1
  have okf1 := hok.2.1
  have okf2 := hok.2.2.1
  have okf3 := hok.2.2.2.1
  have okf4 := hok.2.2.2.2.1
  have okf5 := hok.2.2.2.2.2
  rw [f_X3_fade] at hG
  refine lv_aload_n hx hb dX3_fade_0 rfl (lv_at hl 1 rfl) ?_
  refine r_getN (C := RX2) (T := TX2) (N := 3) S hK hN w (k := (17 + p1)) (Nat.lt_of_lt_of_le (Nat.add_lt_add_left hp1 17) (by decide)) (eC_sg ad hp1 _) rfl hinX2 0 (by decide) 3 rfl rfl dX3_fade_1 ?_
  refine lv_iconst (v := 2) hx hb dX3_fade_4 (by decide) ?_
  refine lv_icmp_ne (tgt := 10) hx hb dX3_fade_5 (by decide) (fun c5 => ?_) (fun c5 => ?_)
  · have t5 : (σ (17 + p1) 0).toInt ≠ 2 := qt_ne c5
    rw [if_neg c5] at hG
    refine lv_iload hx hb dX3_fade_10 (lv_at hl 4 rfl) ?_
    refine lv_aload_n hx hb dX3_fade_12 rfl (lv_at hl 0 rfl) ?_
    refine r_get (C := RX3) (T := TX3) (N := 14) S hK w (k := 0) (by decide) (eC_0 ad _) rfl hinX3 3 (by decide) (List.mem_of_getElem? (i := 1) rfl) rfl dX3_fade_13 ?_
    refine lv_iload_n hx hb dX3_fade_16 rfl (lv_at hl 2 rfl) ?_
    have g17 : vp_in p2 9 := vpi (by omega) (by omega)
    refine r_iald (cA := ad 100) (N := 9) S hK w (k := 4) (by decide) (fun f => eC_4 ad f) rfl g17 dX3_fade_17 ?_
    refine lv_idiv hx hb dX3_fade_18 (nz_of (okf2 _ (vpl g17)).1) ?_
    refine lv_istore (lv' := [(5, .int (p4 / (σ 4 (ix p2)))), (0, .ref (ad 0)), (1, .ref (ad (17 + p1))), (2, .int p2), (3, .int p3), (4, .int p4)]) hx hb dX3_fade_19 hl (by decide) rfl (fun ls hl => ?_)
    refine lv_aload_n hx hb dX3_fade_21 rfl (lv_at hl 2 rfl) ?_
    refine r_getN (C := RX2) (T := TX2) (N := 3) S hK hN w (k := (17 + p1)) (Nat.lt_of_lt_of_le (Nat.add_lt_add_left hp1 17) (by decide)) (eC_sg ad hp1 _) rfl hinX2 0 (by decide) 3 rfl rfl dX3_fade_22 ?_
    refine lv_iconst (v := 1) hx hb dX3_fade_25 (by decide) ?_
    have J26_38 : ∀ (k0_26_38 : Int32), (p3 >>> ((jmin k0_26_38 31) &&& 31)) = T → ∀ ls : Array Slot, lv_has ls 7 [(0, .ref (ad 0)), (3, .int p3)] → W p l e (headSpec wsX3_fade ({ frames := 1, cells := 0, slots := 0, locals := 21 })).room s m ([.ref (ad 0), .ref (ad (17 + p1)), .int p2, .int p3, .int p4] : List Value).toArray below meth c s.heap [] 0 0 (MQ below (Q0i T) ([.ref (ad 0), .ref (ad (17 + p1)), .int p2, .int p3, .int p4] : List Value).toArray s 0 0 N0) (F0 m 38 ls [.int k0_26_38]) := by
      intro k0_26_38 hG ls hl
      refine lv_istore (lv' := [(6, .int k0_26_38), (0, .ref (ad 0)), (3, .int p3)]) hx hb dX3_fade_38 hl (by decide) rfl (fun ls hl => ?_)
      refine lv_iload_n hx hb dX3_fade_40 rfl (lv_at hl 2 rfl) ?_
      refine lv_iload hx hb dX3_fade_41 (lv_at hl 0 rfl) ?_
      refine lv_bipush (v := 31) hx hb dX3_fade_43 (by decide) ?_
      refine r_min S hl.1 (List.mem_of_getElem? (i := 2) rfl) (List.mem_of_getElem? (i := 3) rfl) (List.mem_of_getElem? (i := 4) rfl) (List.mem_of_getElem? (i := 5) rfl) ⟨Nat.le_of_ble_eq_true rfl, Nat.le_of_ble_eq_true rfl, Nat.zero_le _, Nat.zero_le _⟩ dX3_fade_45 ?_
      refine lv_ishr hx hb dX3_fade_48 ?_
      exact end0i S hr hlocks hG dX3_fade_49
    refine lv_icmp_ne (tgt := 36) hx hb dX3_fade_26 (by decide) (fun c26 => ?_) (fun c26 => ?_)
    · have t26 : (σ (17 + p1) 0).toInt ≠ 1 := qt_ne c26
      simp only [if_neg c26] at hG
      refine lv_iload hx hb dX3_fade_36 (lv_at hl 0 rfl) ?_
      exact J26_38 (p4 / (σ 4 (ix p2))) hG ls (lv_sub hl [1, 4] rfl)
    · have t26 : (σ (17 + p1) 0).toInt = 1 := qt_eq c26
      simp only [if_pos c26] at hG
      refine lv_iload hx hb dX3_fade_29 (lv_at hl 0 rfl) ?_
      refine lv_iconst (v := 2) hx hb dX3_fade_31 (by decide) ?_
      refine lv_idiv hx hb dX3_fade_32 (by decide) ?_
      refine lv_goto (tgt := 38) hx hb dX3_fade_33 (by decide) ?_
      exact J26_38 ((p4 / (σ 4 (ix p2))) / 2) hG ls (lv_sub hl [1, 4] rfl)
  · have t5 : (σ (17 + p1) 0).toInt = 2 := qt_eq c5
    rw [if_pos c5] at hG
    refine lv_iload_n hx hb dX3_fade_8 rfl (lv_at hl 3 rfl) ?_
    exact end0i S hr hlocks hG dX3_fade_9
set_option maxHeartbeats 4000000 in
set_option maxRecDepth 100000 in
theorem c_X3_faded (l : Launch) (ad : Nat → Nat) (D : va_G) (sz : Nat) (σ : St) (p1 : Int32) (p2 : Int32) (p3 : Int32) (p4 : Int32) (hok : OkC σ) : Met l yX3_faded wsX3_faded ({ frames := 2, cells := 0, slots := 0, locals := 47 }) (PreW 41 (eC ad) ad D (tyC ad) σ sz ([.ref (ad 0), .int p1, .int p2, .int p3, .int p4] : List Value)) (Q0i (f_X3_faded σ p1 p2 p3 p4)) 0 0 N0 := by
  generalize hG : f_X3_faded σ p1 p2 p3 p4 = T
  refine headW (cc := cX3_faded) (maxL := 5) (ret := (some .int)) ([.ref (ad 0), .int p1, .int p2, .int p3, .int p4] : List Value) (by decide) rfl (Nat.le_of_ble_eq_true rfl) ?_
  intro p e s m below meth c S hr hlocks hK hN hsz w ls hl
  have S : CallFix p m c cX3_faded 5 s ([.ref (ad 0), .int p1, .int p2, .int p3, .int p4] : List Value).toArray wsX3_faded RX3 := S
  have hx := S.1
  have hb := S.2.1
  have z0 : (0 : Int32).toInt = 0 := by decide
  have z1 : (1 : Int32).toInt = 1 := by decide
  have hl : lv_has ls 5 [(0, .ref (ad 0)), (1, .int p1), (2, .int p2), (3, .int p3), (4, .int p4)] := hl
  have hinX3 : ∀ w ∈ wsX30, w ∈ wsX3_faded := (fun _ h => List.mem_cons_of_mem _ (List.mem_append_left _ (List.mem_append_right _ h)))
  have hinX2 : ∀ w ∈ wsX20, w ∈ wsX3_faded := (fun _ h => List.mem_cons_of_mem _ (List.mem_append_right _ h))
  have okf0 := hok.1
  have okf1 := hok.2.1
  have okf2 := hok.2.2.1
  have okf3 := hok.2.2.2.1
  have okf4 := hok.2.2.2.2.1
  have okf5 := hok.2.2.2.2.2
  rw [f_X3_faded] at hG
  refine lv_aload_n hx hb dX3_faded_0 rfl (lv_at hl 0 rfl) ?_
  refine lv_iload_n hx hb dX3_faded_1 rfl (lv_at hl 1 rfl) ?_
  refine call0i (va_runV (As := [.int p1]) (rest := []) S (c_X3_isSign l ad D s.heap.size σ p1) (cwV 1 S.2.2.2.2 gX3_faded_X3_isSign rfl rfl rfl ⟨rfl, hd_X3_isSign⟩ ⟨Nat.le_of_ble_eq_true rfl, Nat.le_of_ble_eq_true rfl⟩) (preV hK hN w (k := 0) (by decide) (eC_0 ad _) (q := (RX3, TX3, 14)) rfl) rfl rfl hl.1 rfl (lv_room (Nat.le_of_ble_eq_true rfl)) dX3_faded_2 ⟨Nat.zero_le _, Nat.zero_le _⟩) ?_
  refine lv_if_eq (tgt := 15) hx hb dX3_faded_5 (by decide) (fun c5 => ?_) (fun c5 => ?_)
  · rw [if_pos c5] at hG
    refine lv_iconst (v := (-1)) hx hb dX3_faded_15 (by decide) ?_
    exact end0i S hr hlocks hG dX3_faded_16
  · have t5 := bf_isSign_n c5
    rw [if_neg c5] at hG
    refine lv_iload_n hx hb dX3_faded_8 rfl (lv_at hl 2 rfl) ?_
    refine call0i (va_runS (As := [.int p2]) (rest := []) S (c_X3_isSmell l p2) (va_cwS 1 S.2.2.2.2 gX3_faded_X3_isSmell rfl rfl rfl hd_X3_isSmell ⟨Nat.le_of_ble_eq_true rfl, Nat.le_of_ble_eq_true rfl⟩) pre0S rfl rfl hl.1 rfl (lv_room (Nat.le_of_ble_eq_true rfl)) dX3_faded_9 ⟨Nat.zero_le _, Nat.zero_le _⟩) ?_
    refine lv_if_ne (tgt := 17) hx hb dX3_faded_12 (by decide) (fun c12 => ?_) (fun c12 => ?_)
    · have t12 := bf_isSmell_n c12
      rw [if_neg c12] at hG
      refine lv_iload_n hx hb dX3_faded_17 rfl (lv_at hl 3 rfl) ?_
      refine lv_if_lt (tgt := 40) hx hb dX3_faded_18 (by decide) (fun c18 => ?_) (fun c18 => ?_)
      · have t18 : p3.toInt < 0 := qt_lt c18
        rw [if_pos c18] at hG
        refine lv_bipush (v := (-2)) hx hb dX3_faded_40 (by decide) ?_
        exact end0i S hr hlocks hG dX3_faded_42
      · have t18 : 0 ≤ p3.toInt := qt_nlt c18
        rw [if_neg c18] at hG
        refine lv_iload_n hx hb dX3_faded_21 rfl (lv_at hl 3 rfl) ?_
        refine lv_sipush (v := 999) hx hb dX3_faded_22 (by decide) ?_
        refine lv_icmp_gt (tgt := 40) hx hb dX3_faded_25 (by decide) (fun c25 => ?_) (fun c25 => ?_)
        · have t25 : 999 < p3.toInt := qt_lt c25
          rw [if_pos c25] at hG
          refine lv_bipush (v := (-2)) hx hb dX3_faded_40 (by decide) ?_
          exact end0i S hr hlocks hG dX3_faded_42
        · have t25 : p3.toInt ≤ 999 := qt_nlt c25
          rw [if_neg c25] at hG
          refine lv_iload hx hb dX3_faded_28 (lv_at hl 4 rfl) ?_
          refine lv_if_lt (tgt := 40) hx hb dX3_faded_30 (by decide) (fun c30 => ?_) (fun c30 => ?_)
          · have t30 : p4.toInt < 0 := qt_lt c30
            rw [if_pos c30] at hG
            refine lv_bipush (v := (-2)) hx hb dX3_faded_40 (by decide) ?_
            exact end0i S hr hlocks hG dX3_faded_42
          · have t30 : 0 ≤ p4.toInt := qt_nlt c30
            rw [if_neg c30] at hG
            refine lv_iload hx hb dX3_faded_33 (lv_at hl 4 rfl) ?_
            refine lv_bipush (v := 99) hx hb dX3_faded_35 (by decide) ?_
            refine lv_icmp_le (tgt := 43) hx hb dX3_faded_37 (by decide) (fun c37 => ?_) (fun c37 => ?_)
            · have t37 : p4.toInt ≤ 99 := qt_le c37
              rw [if_pos c37] at hG
              refine lv_aload_n hx hb dX3_faded_43 rfl (lv_at hl 0 rfl) ?_
              refine lv_aload_n hx hb dX3_faded_44 rfl (lv_at hl 0 rfl) ?_
              refine r_get (C := RX3) (T := TX3) (N := 14) S hK w (k := 0) (by decide) (eC_0 ad _) rfl hinX3 1 (by decide) (List.mem_of_getElem? (i := 1) rfl) rfl dX3_faded_45 ?_
              refine lv_iload_n hx hb dX3_faded_48 rfl (lv_at hl 1 rfl) ?_
              have g49 : vp_in p1 8 := vpi (by omega) (by omega)
              refine r_aald S hK w (k := 2) (by decide) (eC_2 ad _) (t0 := 2) rfl g49 dX3_faded_49 ?_
              refine lv_iload_n hx hb dX3_faded_50 rfl (lv_at hl 2 rfl) ?_
              refine lv_iload_n hx hb dX3_faded_51 rfl (lv_at hl 3 rfl) ?_
              refine lv_iload hx hb dX3_faded_52 (lv_at hl 4 rfl) ?_
              refine call0i (va_runV (As := [.ref (ad (17 + (ix p1))), .int p2, .int p3, .int p4]) (rest := []) S (c_X3_fade l ad D s.heap.size σ (ix p1) p2 p3 p4 hok (vpl g49) (by omega)) (cwV 4 S.2.2.2.2 gX3_faded_X3_fade rfl rfl rfl ⟨rfl, hd_X3_fade⟩ ⟨Nat.le_of_ble_eq_true rfl, Nat.le_of_ble_eq_true rfl⟩) (preV hK hN w (k := 0) (by decide) (eC_0 ad _) (q := (RX3, TX3, 14)) rfl) rfl rfl hl.1 rfl (lv_room (Nat.le_of_ble_eq_true rfl)) dX3_faded_54 ⟨Nat.zero_le _, Nat.zero_le _⟩) ?_
              exact end0i S hr hlocks hG dX3_faded_57
            · have t37 : 99 < p4.toInt := qt_nle c37
              rw [if_neg c37] at hG
              refine lv_bipush (v := (-2)) hx hb dX3_faded_40 (by decide) ?_
              exact end0i S hr hlocks hG dX3_faded_42
    · rw [if_pos c12] at hG
      refine lv_iconst (v := (-1)) hx hb dX3_faded_15 (by decide) ?_
      exact end0i S hr hlocks hG dX3_faded_16
set_option maxHeartbeats 4000000 in
set_option maxRecDepth 100000 in
theorem c_X3_areTwoSigns (l : Launch) (ad : Nat → Nat) (D : va_G) (sz : Nat) (σ : St) (p1 : Int32) (p2 : Int32) : Met l yX3_areTwoSigns wsX3_areTwoSigns ({ frames := 1, cells := 0, slots := 0, locals := 21 }) (PreW 41 (eC ad) ad D (tyC ad) σ sz ([.ref (ad 0), .int p1, .int p2] : List Value)) (Q0i (f_X3_areTwoSigns σ p1 p2)) 0 0 N0 := by
  generalize hG : f_X3_areTwoSigns σ p1 p2 = T
  refine headW (cc := cX3_areTwoSigns) (maxL := 3) (ret := (some .boolean)) ([.ref (ad 0), .int p1, .int p2] : List Value) (by decide) rfl (Nat.le_of_ble_eq_true rfl) ?_
  intro p e s m below meth c S hr hlocks hK hN hsz w ls hl
  have S : CallFix p m c cX3_areTwoSigns 3 s ([.ref (ad 0), .int p1, .int p2] : List Value).toArray wsX3_areTwoSigns RX3 := S
  have hx := S.1
  have hb := S.2.1
  have z0 : (0 : Int32).toInt = 0 := by decide
  have z1 : (1 : Int32).toInt = 1 := by decide
  have hl : lv_has ls 3 [(0, .ref (ad 0)), (1, .int p1), (2, .int p2)] := hl
  have hinX3 : ∀ w ∈ wsX30, w ∈ wsX3_areTwoSigns := (fun _ h => List.mem_cons_of_mem _ (List.mem_append_right _ h))
  rw [f_X3_areTwoSigns] at hG
  refine lv_aload_n hx hb dX3_areTwoSigns_0 rfl (lv_at hl 0 rfl) ?_
  refine lv_iload_n hx hb dX3_areTwoSigns_1 rfl (lv_at hl 1 rfl) ?_
  refine call0i (va_runV (As := [.int p1]) (rest := []) S (c_X3_isSign l ad D s.heap.size σ p1) (cwV 1 S.2.2.2.2 gX3_areTwoSigns_X3_isSign rfl rfl rfl ⟨rfl, hd_X3_isSign⟩ ⟨Nat.le_of_ble_eq_true rfl, Nat.le_of_ble_eq_true rfl⟩) (preV hK hN w (k := 0) (by decide) (eC_0 ad _) (q := (RX3, TX3, 14)) rfl) rfl rfl hl.1 rfl (lv_room (Nat.le_of_ble_eq_true rfl)) dX3_areTwoSigns_2 ⟨Nat.zero_le _, Nat.zero_le _⟩) ?_
  refine lv_if_eq (tgt := 25) hx hb dX3_areTwoSigns_5 (by decide) (fun c5 => ?_) (fun c5 => ?_)
  · rw [if_pos c5] at hG
    refine lv_iconst (v := 0) hx hb dX3_areTwoSigns_25 (by decide) ?_
    exact end0z S hr hlocks (Or.inl rfl) hG dX3_areTwoSigns_26
  · have t5 := bf_isSign_n c5
    rw [if_neg c5] at hG
    refine lv_aload_n hx hb dX3_areTwoSigns_8 rfl (lv_at hl 0 rfl) ?_
    refine lv_iload_n hx hb dX3_areTwoSigns_9 rfl (lv_at hl 2 rfl) ?_
    refine call0i (va_runV (As := [.int p2]) (rest := []) S (c_X3_isSign l ad D s.heap.size σ p2) (cwV 1 S.2.2.2.2 gX3_areTwoSigns_X3_isSign rfl rfl rfl ⟨rfl, hd_X3_isSign⟩ ⟨Nat.le_of_ble_eq_true rfl, Nat.le_of_ble_eq_true rfl⟩) (preV hK hN w (k := 0) (by decide) (eC_0 ad _) (q := (RX3, TX3, 14)) rfl) rfl rfl hl.1 rfl (lv_room (Nat.le_of_ble_eq_true rfl)) dX3_areTwoSigns_10 ⟨Nat.zero_le _, Nat.zero_le _⟩) ?_
    refine lv_if_eq (tgt := 25) hx hb dX3_areTwoSigns_13 (by decide) (fun c13 => ?_) (fun c13 => ?_)
    · rw [if_pos c13] at hG
      refine lv_iconst (v := 0) hx hb dX3_areTwoSigns_25 (by decide) ?_
      exact end0z S hr hlocks (Or.inl rfl) hG dX3_areTwoSigns_26
    · have t13 := bf_isSign_n c13
      rw [if_neg c13] at hG
      refine lv_iload_n hx hb dX3_areTwoSigns_16 rfl (lv_at hl 1 rfl) ?_
      refine lv_iload_n hx hb dX3_areTwoSigns_17 rfl (lv_at hl 2 rfl) ?_
      refine lv_icmp_eq (tgt := 25) hx hb dX3_areTwoSigns_18 (by decide) (fun c18 => ?_) (fun c18 => ?_)
      · have t18 : p1.toInt = p2.toInt := qt_eq c18
        rw [if_pos c18] at hG
        refine lv_iconst (v := 0) hx hb dX3_areTwoSigns_25 (by decide) ?_
        exact end0z S hr hlocks (Or.inl rfl) hG dX3_areTwoSigns_26
      · have t18 : p1.toInt ≠ p2.toInt := qt_ne c18
        rw [if_neg c18] at hG
        refine lv_iconst (v := 1) hx hb dX3_areTwoSigns_21 (by decide) ?_
        refine lv_goto (tgt := 26) hx hb dX3_areTwoSigns_22 (by decide) ?_
        exact end0z S hr hlocks (Or.inr rfl) hG dX3_areTwoSigns_26
set_option maxHeartbeats 4000000 in
set_option maxRecDepth 100000 in
theorem c_X3_paper (l : Launch) (ad : Nat → Nat) (D : va_G) (sz : Nat) (σ : St) (p1 : Int32) (p2 : Int32) (p3 : Int32) (hok : OkC σ) : Met l yX3_paper wsX3_paper ({ frames := 2, cells := 0, slots := 0, locals := 43 }) (PreW 41 (eC ad) ad D (tyC ad) σ sz ([.ref (ad 0), .int p1, .int p2, .int p3] : List Value)) (QWi 41 (eC ad) ad D (f_X3_paper σ p1 p2 p3) (CA 41 ad sz)) 0 0 (CA 41 ad sz) := by
  generalize hG : f_X3_paper σ p1 p2 p3 = T
  refine headW (cc := cX3_paper) (maxL := 5) (ret := (some .int)) ([.ref (ad 0), .int p1, .int p2, .int p3] : List Value) (by decide) rfl (Nat.le_of_ble_eq_true rfl) ?_
  intro p e s m below meth c S hr hlocks hK hN hsz w ls hl
  have S : CallFix p m c cX3_paper 5 s ([.ref (ad 0), .int p1, .int p2, .int p3] : List Value).toArray wsX3_paper RX3 := S
  have hx := S.1
  have hb := S.2.1
  have z0 : (0 : Int32).toInt = 0 := by decide
  have z1 : (1 : Int32).toInt = 1 := by decide
  have hl : lv_has ls 5 [(0, .ref (ad 0)), (1, .int p1), (2, .int p2), (3, .int p3)] := hl
  have hinX3 : ∀ w ∈ wsX30, w ∈ wsX3_paper := (fun _ h => List.mem_cons_of_mem _ (List.mem_append_left _ (List.mem_append_right _ h)))
  have hinX0 : ∀ w ∈ wsX00, w ∈ wsX3_paper := (fun _ h => List.mem_cons_of_mem _ (List.mem_append_right _ h))
  have okf0 := hok.1
  have okf1 := hok.2.1
  have okf2 := hok.2.2.1
  have okf3 := hok.2.2.2.1
  have okf4 := hok.2.2.2.2.1
  have okf5 := hok.2.2.2.2.2
  rw [f_X3_paper] at hG
  refine lv_aload_n hx hb dX3_paper_0 rfl (lv_at hl 0 rfl) ?_
  refine lv_iload_n hx hb dX3_paper_1 rfl (lv_at hl 1 rfl) ?_
  refine lv_iload_n hx hb dX3_paper_2 rfl (lv_at hl 2 rfl) ?_
  refine call0i (va_runV (As := [.int p1, .int p2]) (rest := []) S (c_X3_areTwoSigns l ad D s.heap.size σ p1 p2) (cwV 2 S.2.2.2.2 gX3_paper_X3_areTwoSigns rfl rfl rfl ⟨rfl, hd_X3_areTwoSigns⟩ ⟨Nat.le_of_ble_eq_true rfl, Nat.le_of_ble_eq_true rfl⟩) (preV hK hN w (k := 0) (by decide) (eC_0 ad _) (q := (RX3, TX3, 14)) rfl) rfl rfl hl.1 rfl (lv_room (Nat.le_of_ble_eq_true rfl)) dX3_paper_3 ⟨Nat.zero_le _, Nat.zero_le _⟩) ?_
  refine lv_if_ne (tgt := 11) hx hb dX3_paper_6 (by decide) (fun c6 => ?_) (fun c6 => ?_)
  · have t6 := bf_areTwoSigns_n c6
    rw [if_neg c6] at hG
    refine lv_iload_n hx hb dX3_paper_11 rfl (lv_at hl 3 rfl) ?_
    refine lv_if_lt (tgt := 21) hx hb dX3_paper_12 (by decide) (fun c12 => ?_) (fun c12 => ?_)
    · have t12 : p3.toInt < 0 := qt_lt c12
      rw [if_pos c12] at hG
      refine lv_bipush (v := (-2)) hx hb dX3_paper_21 (by decide) ?_
      exact endWi S hr hlocks w hG dX3_paper_23
    · have t12 : 0 ≤ p3.toInt := qt_nlt c12
      rw [if_neg c12] at hG
      refine lv_iload_n hx hb dX3_paper_15 rfl (lv_at hl 3 rfl) ?_
      refine lv_bipush (v := 9) hx hb dX3_paper_16 (by decide) ?_
      refine lv_icmp_le (tgt := 24) hx hb dX3_paper_18 (by decide) (fun c18 => ?_) (fun c18 => ?_)
      · have t18 : p3.toInt ≤ 9 := qt_le c18
        rw [if_pos c18] at hG
        refine lv_aload_n hx hb dX3_paper_24 rfl (lv_at hl 0 rfl) ?_
        refine r_get (C := RX3) (T := TX3) (N := 14) S hK w (k := 0) (by decide) (eC_0 ad _) rfl hinX3 5 (by decide) (List.mem_of_getElem? (i := 1) rfl) rfl dX3_paper_25 ?_
        refine lv_bipush (v := 8) hx hb dX3_paper_28 (by decide) ?_
        refine lv_icmp_lt (tgt := 36) hx hb dX3_paper_30 (by decide) (fun c30 => ?_) (fun c30 => ?_)
        · have t30 : (σ 0 5).toInt < 8 := qt_lt c30
          rw [if_pos c30] at hG
          refine lv_aload_n hx hb dX3_paper_36 rfl (lv_at hl 0 rfl) ?_
          refine r_get (C := RX3) (T := TX3) (N := 14) S hK w (k := 0) (by decide) (eC_0 ad _) rfl hinX3 2 (by decide) (List.mem_of_getElem? (i := 2) rfl) rfl dX3_paper_37 ?_
          refine lv_aload_n hx hb dX3_paper_40 rfl (lv_at hl 0 rfl) ?_
          refine r_get (C := RX3) (T := TX3) (N := 14) S hK w (k := 0) (by decide) (eC_0 ad _) rfl hinX3 5 (by decide) (List.mem_of_getElem? (i := 1) rfl) rfl dX3_paper_41 ?_
          have g44 : vp_in (σ 0 5) 8 := vpi (by omega) (by omega)
          refine r_aald S hK w (k := 3) (by decide) (eC_3 ad _) (t0 := 3) rfl g44 dX3_paper_44 ?_
          refine lv_astore (lv' := [(4, .ref (ad (33 + (ix (σ 0 5))))), (0, .ref (ad 0)), (1, .int p1), (2, .int p2), (3, .int p3)]) hx hb dX3_paper_45 hl (by decide) rfl (fun ls hl => ?_)
          refine lv_aload hx hb dX3_paper_47 (lv_at hl 0 rfl) ?_
          refine lv_iload_n hx hb dX3_paper_49 rfl (lv_at hl 2 rfl) ?_
          refine r_putN (C := RX0) (T := TX0) (N := 6) S hK hN w (k := (33 + (ix (σ 0 5)))) (Nat.lt_of_lt_of_le (Nat.add_lt_add_left (vpl g44) 33) (by decide)) (eC_pa ad (vpl g44) _) rfl hinX0 tyX0 tyX0_ok nmX0 0 (by decide) 6 rfl rfl (x := p1) (ty := .int) (by decide +kernel) rfl rfl (by show _ < List.length _; exact Nat.le_of_ble_eq_true rfl) (sPa ad (vpl g44) _ _ 0 (by decide)) dX3_paper_50 (fun H locs w => ?_)
          refine lv_aload hx hb dX3_paper_53 (lv_at hl 0 rfl) ?_
          refine lv_iload_n hx hb dX3_paper_55 rfl (lv_at hl 3 rfl) ?_
          refine r_putN (C := RX0) (T := TX0) (N := 6) S hK hN w (k := (33 + (ix (σ 0 5)))) (Nat.lt_of_lt_of_le (Nat.add_lt_add_left (vpl g44) 33) (by decide)) (eC_pa ad (vpl g44) _) rfl hinX0 tyX0 tyX0_ok nmX0 1 (by decide) 7 rfl rfl (x := p2) (ty := .int) (by decide +kernel) rfl rfl (by show _ < List.length _; exact Nat.le_of_ble_eq_true rfl) (sPa ad (vpl g44) _ _ 1 (by decide)) dX3_paper_56 (fun H locs w => ?_)
          refine lv_aload hx hb dX3_paper_59 (lv_at hl 0 rfl) ?_
          refine lv_aload_n hx hb dX3_paper_61 rfl (lv_at hl 1 rfl) ?_
          refine r_get (C := RX3) (T := TX3) (N := 14) S hK w (k := 0) (by decide) (eC_0 ad _) rfl hinX3 6 (by decide) (List.mem_of_getElem? (i := 3) rfl) rfl dX3_paper_62 ?_
          refine r_putN (C := RX0) (T := TX0) (N := 6) S hK hN w (k := (33 + (ix (σ 0 5)))) (Nat.lt_of_lt_of_le (Nat.add_lt_add_left (vpl g44) 33) (by decide)) (eC_pa ad (vpl g44) _) rfl hinX0 tyX0 tyX0_ok nmX0 2 (by decide) 8 rfl rfl (x := ((u2 (u2 σ (33 + (ix (σ 0 5))) 0 p1) (33 + (ix (σ 0 5))) 1 p2) 0 6)) (ty := .int) (by decide +kernel) rfl rfl (by show _ < List.length _; exact Nat.le_of_ble_eq_true rfl) (sPa ad (vpl g44) _ _ 2 (by decide)) dX3_paper_65 (fun H locs w => ?_)
          refine lv_aload hx hb dX3_paper_68 (lv_at hl 0 rfl) ?_
          refine lv_iload_n hx hb dX3_paper_70 rfl (lv_at hl 4 rfl) ?_
          refine r_putN (C := RX0) (T := TX0) (N := 6) S hK hN w (k := (33 + (ix (σ 0 5)))) (Nat.lt_of_lt_of_le (Nat.add_lt_add_left (vpl g44) 33) (by decide)) (eC_pa ad (vpl g44) _) rfl hinX0 tyX0 tyX0_ok nmX0 3 (by decide) 9 rfl rfl (x := p3) (ty := .int) (by decide +kernel) rfl rfl (by show _ < List.length _; exact Nat.le_of_ble_eq_true rfl) (sPa ad (vpl g44) _ _ 3 (by decide)) dX3_paper_71 (fun H locs w => ?_)
          refine lv_aload hx hb dX3_paper_74 (lv_at hl 0 rfl) ?_
          refine lv_iconst (v := 0) hx hb dX3_paper_76 (by decide) ?_
          refine r_putN (C := RX0) (T := TX0) (N := 6) S hK hN w (k := (33 + (ix (σ 0 5)))) (Nat.lt_of_lt_of_le (Nat.add_lt_add_left (vpl g44) 33) (by decide)) (eC_pa ad (vpl g44) _) rfl hinX0 tyX0 tyX0_ok nmX0 4 (by decide) 10 rfl rfl (x := 0) (ty := .int) (by decide +kernel) rfl rfl (by show _ < List.length _; exact Nat.le_of_ble_eq_true rfl) (sPa ad (vpl g44) _ _ 4 (by decide)) dX3_paper_77 (fun H locs w => ?_)
          refine lv_aload hx hb dX3_paper_80 (lv_at hl 0 rfl) ?_
          refine lv_iconst (v := 0) hx hb dX3_paper_82 (by decide) ?_
          refine r_putN (C := RX0) (T := TX0) (N := 6) S hK hN w (k := (33 + (ix (σ 0 5)))) (Nat.lt_of_lt_of_le (Nat.add_lt_add_left (vpl g44) 33) (by decide)) (eC_pa ad (vpl g44) _) rfl hinX0 tyX0 tyX0_ok nmX0 5 (by decide) 11 rfl rfl (x := 0) (ty := .int) (by decide +kernel) rfl rfl (by show _ < List.length _; exact Nat.le_of_ble_eq_true rfl) (sPa ad (vpl g44) _ _ 5 (by decide)) dX3_paper_83 (fun H locs w => ?_)
          refine lv_aload_n hx hb dX3_paper_86 rfl (lv_at hl 1 rfl) ?_
          refine lv_dup hx hb dX3_paper_87 rfl ?_
          refine r_get (C := RX3) (T := TX3) (N := 14) S hK w (k := 0) (by decide) (eC_0 ad _) rfl hinX3 5 (by decide) (List.mem_of_getElem? (i := 1) rfl) rfl dX3_paper_88 ?_
          refine lv_iconst (v := 1) hx hb dX3_paper_91 (by decide) ?_
          refine lv_iadd hx hb dX3_paper_92 ?_
          refine r_put (C := RX3) (T := TX3) (N := 14) S hK w (k := 0) (by decide) (eC_0 ad _) rfl hinX3 tyX3 tyX3_ok nmX3 5 (by decide) (List.mem_of_getElem? (i := 1) rfl) rfl (x := (((u2 (u2 (u2 (u2 (u2 (u2 σ (33 + (ix (σ 0 5))) 0 p1) (33 + (ix (σ 0 5))) 1 p2) (33 + (ix (σ 0 5))) 2 ((u2 (u2 σ (33 + (ix (σ 0 5))) 0 p1) (33 + (ix (σ 0 5))) 1 p2) 0 6)) (33 + (ix (σ 0 5))) 3 p3) (33 + (ix (σ 0 5))) 4 0) (33 + (ix (σ 0 5))) 5 0) 0 5) + 1)) (ty := .int) (by decide +kernel) rfl rfl (by show _ < List.length _; exact Nat.le_of_ble_eq_true rfl) (sO ad _ _ 5 (by decide)) dX3_paper_93 (fun H locs w => ?_)
          refine lv_aload_n hx hb dX3_paper_96 rfl (lv_at hl 1 rfl) ?_
          refine r_get (C := RX3) (T := TX3) (N := 14) S hK w (k := 0) (by decide) (eC_0 ad _) rfl hinX3 5 (by decide) (List.mem_of_getElem? (i := 1) rfl) rfl dX3_paper_97 ?_
          refine lv_iconst (v := 1) hx hb dX3_paper_100 (by decide) ?_
          refine lv_isub hx hb dX3_paper_101 ?_
          exact endWi S hr hlocks w hG dX3_paper_102
        · have t30 : 8 ≤ (σ 0 5).toInt := qt_nlt c30
          rw [if_neg c30] at hG
          refine lv_bipush (v := (-4)) hx hb dX3_paper_33 (by decide) ?_
          exact endWi S hr hlocks w hG dX3_paper_35
      · have t18 : 9 < p3.toInt := qt_nle c18
        rw [if_neg c18] at hG
        refine lv_bipush (v := (-2)) hx hb dX3_paper_21 (by decide) ?_
        exact endWi S hr hlocks w hG dX3_paper_23
  · rw [if_pos c6] at hG
    refine lv_iconst (v := (-1)) hx hb dX3_paper_9 (by decide) ?_
    exact endWi S hr hlocks w hG dX3_paper_10
set_option maxHeartbeats 4000000 in
set_option maxRecDepth 100000 in
theorem c_X3_isPaper (l : Launch) (ad : Nat → Nat) (D : va_G) (sz : Nat) (σ : St) (p1 : Int32) : Met l yX3_isPaper wsX3_isPaper ({ frames := 0, cells := 0, slots := 0, locals := 0 }) (PreW 41 (eC ad) ad D (tyC ad) σ sz ([.ref (ad 0), .int p1] : List Value)) (Q0i (f_X3_isPaper σ p1)) 0 0 N0 := by
  generalize hG : f_X3_isPaper σ p1 = T
  refine headW (cc := cX3_isPaper) (maxL := 2) (ret := (some .boolean)) ([.ref (ad 0), .int p1] : List Value) (by decide) rfl (Nat.le_of_ble_eq_true rfl) ?_
  intro p e s m below meth c S hr hlocks hK hN hsz w ls hl
  have S : CallFix p m c cX3_isPaper 2 s ([.ref (ad 0), .int p1] : List Value).toArray wsX3_isPaper RX3 := S
  have hx := S.1
  have hb := S.2.1
  have z0 : (0 : Int32).toInt = 0 := by decide
  have z1 : (1 : Int32).toInt = 1 := by decide
  have hl : lv_has ls 2 [(0, .ref (ad 0)), (1, .int p1)] := hl
  have hinX3 : ∀ w ∈ wsX30, w ∈ wsX3_isPaper := (fun _ h => List.mem_cons_of_mem _ (List.mem_append_right _ h))
  rw [f_X3_isPaper] at hG
  refine lv_iload_n hx hb dX3_isPaper_0 rfl (lv_at hl 1 rfl) ?_
  refine lv_if_lt (tgt := 16) hx hb dX3_isPaper_1 (by decide) (fun c1 => ?_) (fun c1 => ?_)
  · have t1 : p1.toInt < 0 := qt_lt c1
    rw [if_pos c1] at hG
    refine lv_iconst (v := 0) hx hb dX3_isPaper_16 (by decide) ?_
    exact end0z S hr hlocks (Or.inl rfl) hG dX3_isPaper_17
  · have t1 : 0 ≤ p1.toInt := qt_nlt c1
    rw [if_neg c1] at hG
    refine lv_iload_n hx hb dX3_isPaper_4 rfl (lv_at hl 1 rfl) ?_
    refine lv_aload_n hx hb dX3_isPaper_5 rfl (lv_at hl 0 rfl) ?_
    refine r_get (C := RX3) (T := TX3) (N := 14) S hK w (k := 0) (by decide) (eC_0 ad _) rfl hinX3 5 (by decide) (List.mem_of_getElem? (i := 1) rfl) rfl dX3_isPaper_6 ?_
    refine lv_icmp_ge (tgt := 16) hx hb dX3_isPaper_9 (by decide) (fun c9 => ?_) (fun c9 => ?_)
    · have t9 : (σ 0 5).toInt ≤ p1.toInt := qt_le c9
      rw [if_pos c9] at hG
      refine lv_iconst (v := 0) hx hb dX3_isPaper_16 (by decide) ?_
      exact end0z S hr hlocks (Or.inl rfl) hG dX3_isPaper_17
    · have t9 : p1.toInt < (σ 0 5).toInt := qt_nle c9
      rw [if_neg c9] at hG
      refine lv_iconst (v := 1) hx hb dX3_isPaper_12 (by decide) ?_
      refine lv_goto (tgt := 17) hx hb dX3_isPaper_13 (by decide) ?_
      exact end0z S hr hlocks (Or.inr rfl) hG dX3_isPaper_17
set_option maxHeartbeats 4000000 in
set_option maxRecDepth 100000 in
theorem c_X3_ofPaper (l : Launch) (ad : Nat → Nat) (D : va_G) (sz : Nat) (σ : St) (p1 : Int32) (p2 : Int32) (hok : OkC σ) : Met l yX3_ofPaper wsX3_ofPaper ({ frames := 1, cells := 0, slots := 0, locals := 21 }) (PreW 41 (eC ad) ad D (tyC ad) σ sz ([.ref (ad 0), .int p1, .int p2] : List Value)) (Q0i (f_X3_ofPaper σ p1 p2)) 0 0 N0 := by
  generalize hG : f_X3_ofPaper σ p1 p2 = T
  refine headW (cc := cX3_ofPaper) (maxL := 4) (ret := (some .int)) ([.ref (ad 0), .int p1, .int p2] : List Value) (by decide) rfl (Nat.le_of_ble_eq_true rfl) ?_
  intro p e s m below meth c S hr hlocks hK hN hsz w ls hl
  have S : CallFix p m c cX3_ofPaper 4 s ([.ref (ad 0), .int p1, .int p2] : List Value).toArray wsX3_ofPaper RX3 := S
  have hx := S.1
  have hb := S.2.1
  have z0 : (0 : Int32).toInt = 0 := by decide
  have z1 : (1 : Int32).toInt = 1 := by decide
  have hl : lv_has ls 4 [(0, .ref (ad 0)), (1, .int p1), (2, .int p2)] := hl
  have hinX3 : ∀ w ∈ wsX30, w ∈ wsX3_ofPaper := (fun _ h => List.mem_cons_of_mem _ (List.mem_append_left _ (List.mem_append_right _ h)))
  have hinX0 : ∀ w ∈ wsX00, w ∈ wsX3_ofPaper := (fun _ h => List.mem_cons_of_mem _ (List.mem_append_right _ h))
  have okf0 := hok.1
  have okf1 := hok.2.1
  have okf2 := hok.2.2.1
  have okf3 := hok.2.2.2.1
  have okf4 := hok.2.2.2.2.1
  have okf5 := hok.2.2.2.2.2
  rw [f_X3_ofPaper] at hG
  refine lv_aload_n hx hb dX3_ofPaper_0 rfl (lv_at hl 0 rfl) ?_
  refine lv_iload_n hx hb dX3_ofPaper_1 rfl (lv_at hl 1 rfl) ?_
  refine call0i (va_runV (As := [.int p1]) (rest := []) S (c_X3_isPaper l ad D s.heap.size σ p1) (cwV 1 S.2.2.2.2 gX3_ofPaper_X3_isPaper rfl rfl rfl ⟨rfl, hd_X3_isPaper⟩ ⟨Nat.le_of_ble_eq_true rfl, Nat.le_of_ble_eq_true rfl⟩) (preV hK hN w (k := 0) (by decide) (eC_0 ad _) (q := (RX3, TX3, 14)) rfl) rfl rfl hl.1 rfl (lv_room (Nat.le_of_ble_eq_true rfl)) dX3_ofPaper_2 ⟨Nat.zero_le _, Nat.zero_le _⟩) ?_
  refine lv_if_ne (tgt := 10) hx hb dX3_ofPaper_5 (by decide) (fun c5 => ?_) (fun c5 => ?_)
  · have t5 := bf_isPaper_n c5
    rw [if_neg c5] at hG
    refine lv_aload_n hx hb dX3_ofPaper_10 rfl (lv_at hl 0 rfl) ?_
    refine r_get (C := RX3) (T := TX3) (N := 14) S hK w (k := 0) (by decide) (eC_0 ad _) rfl hinX3 2 (by decide) (List.mem_of_getElem? (i := 1) rfl) rfl dX3_ofPaper_11 ?_
    refine lv_iload_n hx hb dX3_ofPaper_14 rfl (lv_at hl 1 rfl) ?_
    have g15 : vp_in p1 8 := vpi (by omega) (by omega)
    refine r_aald S hK w (k := 3) (by decide) (eC_3 ad _) (t0 := 3) rfl g15 dX3_ofPaper_15 ?_
    refine lv_astore_n (lv' := [(3, .ref (ad (33 + (ix p1)))), (0, .ref (ad 0)), (1, .int p1), (2, .int p2)]) hx hb dX3_ofPaper_16 rfl hl (by decide) rfl (fun ls hl => ?_)
    refine lv_iload_n hx hb dX3_ofPaper_17 rfl (lv_at hl 3 rfl) ?_
    by_cases c18_0 : p2 = 0
    · rw [if_pos c18_0] at hG
      refine lv_tableIn (tgt := 56) hx hb dX3_ofPaper_18 (by rw [c18_0]; decide) (by rw [c18_0]; decide) (off := 38) (by rw [c18_0]; decide) (by decide) ?_
      refine lv_aload_n hx hb dX3_ofPaper_56 rfl (lv_at hl 0 rfl) ?_
      refine r_getN (C := RX0) (T := TX0) (N := 6) S hK hN w (k := (33 + (ix p1))) (Nat.lt_of_lt_of_le (Nat.add_lt_add_left (vpl g15) 33) (by decide)) (eC_pa ad (vpl g15) _) rfl hinX0 0 (by decide) 6 rfl rfl dX3_ofPaper_57 ?_
      exact end0i S hr hlocks hG dX3_ofPaper_60
    rw [if_neg c18_0] at hG
    by_cases c18_1 : p2 = 1
    · rw [if_pos c18_1] at hG
      refine lv_tableIn (tgt := 61) hx hb dX3_ofPaper_18 (by rw [c18_1]; decide) (by rw [c18_1]; decide) (off := 43) (by rw [c18_1]; decide) (by decide) ?_
      refine lv_aload_n hx hb dX3_ofPaper_61 rfl (lv_at hl 0 rfl) ?_
      refine r_getN (C := RX0) (T := TX0) (N := 6) S hK hN w (k := (33 + (ix p1))) (Nat.lt_of_lt_of_le (Nat.add_lt_add_left (vpl g15) 33) (by decide)) (eC_pa ad (vpl g15) _) rfl hinX0 1 (by decide) 7 rfl rfl dX3_ofPaper_62 ?_
      exact end0i S hr hlocks hG dX3_ofPaper_65
    rw [if_neg c18_1] at hG
    by_cases c18_2 : p2 = 2
    · rw [if_pos c18_2] at hG
      refine lv_tableIn (tgt := 66) hx hb dX3_ofPaper_18 (by rw [c18_2]; decide) (by rw [c18_2]; decide) (off := 48) (by rw [c18_2]; decide) (by decide) ?_
      refine lv_aload_n hx hb dX3_ofPaper_66 rfl (lv_at hl 0 rfl) ?_
      refine r_getN (C := RX0) (T := TX0) (N := 6) S hK hN w (k := (33 + (ix p1))) (Nat.lt_of_lt_of_le (Nat.add_lt_add_left (vpl g15) 33) (by decide)) (eC_pa ad (vpl g15) _) rfl hinX0 2 (by decide) 8 rfl rfl dX3_ofPaper_67 ?_
      exact end0i S hr hlocks hG dX3_ofPaper_70
    rw [if_neg c18_2] at hG
    by_cases c18_3 : p2 = 3
    · rw [if_pos c18_3] at hG
      refine lv_tableIn (tgt := 71) hx hb dX3_ofPaper_18 (by rw [c18_3]; decide) (by rw [c18_3]; decide) (off := 53) (by rw [c18_3]; decide) (by decide) ?_
      refine lv_aload_n hx hb dX3_ofPaper_71 rfl (lv_at hl 0 rfl) ?_
      refine r_getN (C := RX0) (T := TX0) (N := 6) S hK hN w (k := (33 + (ix p1))) (Nat.lt_of_lt_of_le (Nat.add_lt_add_left (vpl g15) 33) (by decide)) (eC_pa ad (vpl g15) _) rfl hinX0 3 (by decide) 9 rfl rfl dX3_ofPaper_72 ?_
      exact end0i S hr hlocks hG dX3_ofPaper_75
    rw [if_neg c18_3] at hG
    by_cases c18_4 : p2 = 4
    · rw [if_pos c18_4] at hG
      refine lv_tableIn (tgt := 76) hx hb dX3_ofPaper_18 (by rw [c18_4]; decide) (by rw [c18_4]; decide) (off := 58) (by rw [c18_4]; decide) (by decide) ?_
      refine lv_aload_n hx hb dX3_ofPaper_76 rfl (lv_at hl 0 rfl) ?_
      refine r_getN (C := RX0) (T := TX0) (N := 6) S hK hN w (k := (33 + (ix p1))) (Nat.lt_of_lt_of_le (Nat.add_lt_add_left (vpl g15) 33) (by decide)) (eC_pa ad (vpl g15) _) rfl hinX0 4 (by decide) 10 rfl rfl dX3_ofPaper_77 ?_
      exact end0i S hr hlocks hG dX3_ofPaper_80
    rw [if_neg c18_4] at hG
    by_cases c18_5 : p2 = 5
    · rw [if_pos c18_5] at hG
      refine lv_tableIn (tgt := 81) hx hb dX3_ofPaper_18 (by rw [c18_5]; decide) (by rw [c18_5]; decide) (off := 63) (by rw [c18_5]; decide) (by decide) ?_
      refine lv_aload_n hx hb dX3_ofPaper_81 rfl (lv_at hl 0 rfl) ?_
      refine r_getN (C := RX0) (T := TX0) (N := 6) S hK hN w (k := (33 + (ix p1))) (Nat.lt_of_lt_of_le (Nat.add_lt_add_left (vpl g15) 33) (by decide)) (eC_pa ad (vpl g15) _) rfl hinX0 5 (by decide) 11 rfl rfl dX3_ofPaper_82 ?_
      exact end0i S hr hlocks hG dX3_ofPaper_85
    rw [if_neg c18_5] at hG
    have y18_0 : p2.toInt ≠ 0 := qt_ne c18_0
    have y18_1 : p2.toInt ≠ 1 := qt_ne c18_1
    have y18_2 : p2.toInt ≠ 2 := qt_ne c18_2
    have y18_3 : p2.toInt ≠ 3 := qt_ne c18_3
    have y18_4 : p2.toInt ≠ 4 := qt_ne c18_4
    have y18_5 : p2.toInt ≠ 5 := qt_ne c18_5
    refine lv_tableOut (tgt := 86) hx hb dX3_ofPaper_18 (by omega) (by decide) ?_
    refine lv_bipush (v := (-2)) hx hb dX3_ofPaper_86 (by decide) ?_
    exact end0i S hr hlocks hG dX3_ofPaper_88
  · rw [if_pos c5] at hG
    refine lv_iconst (v := (-1)) hx hb dX3_ofPaper_8 (by decide) ?_
    exact end0i S hr hlocks hG dX3_ofPaper_9
set_option maxHeartbeats 4000000 in
set_option maxRecDepth 100000 in
theorem c_X3_isWashed (l : Launch) (ad : Nat → Nat) (D : va_G) (sz : Nat) (σ : St) (p1 : Nat) (p2 : Int32) (hp1 : p1 < 8) : Met l yX3_isWashed wsX3_isWashed ({ frames := 0, cells := 0, slots := 0, locals := 0 }) (PreW 41 (eC ad) ad D (tyC ad) σ sz ([.ref (ad (33 + p1)), .int p2] : List Value)) (Q0i (f_X3_isWashed σ p1 p2)) 0 0 N0 := by
  generalize hG : f_X3_isWashed σ p1 p2 = T
  refine headW (cc := cX3_isWashed) (maxL := 2) (ret := (some .boolean)) ([.ref (ad (33 + p1)), .int p2] : List Value) (by decide) rfl (Nat.le_of_ble_eq_true rfl) ?_
  intro p e s m below meth c S hr hlocks hK hN hsz w ls hl
  have S : CallFix p m c cX3_isWashed 2 s ([.ref (ad (33 + p1)), .int p2] : List Value).toArray wsX3_isWashed RX3 := S
  have hx := S.1
  have hb := S.2.1
  have z0 : (0 : Int32).toInt = 0 := by decide
  have z1 : (1 : Int32).toInt = 1 := by decide
  have hl : lv_has ls 2 [(0, .ref (ad (33 + p1))), (1, .int p2)] := hl
  have hinX0 : ∀ w ∈ wsX00, w ∈ wsX3_isWashed := (fun _ h => List.mem_cons_of_mem _ (List.mem_append_right _ h))
  rw [f_X3_isWashed] at hG
  refine lv_aload_n hx hb dX3_isWashed_0 rfl (lv_at hl 0 rfl) ?_
  refine r_getN (C := RX0) (T := TX0) (N := 6) S hK hN w (k := (33 + p1)) (Nat.lt_of_lt_of_le (Nat.add_lt_add_left hp1 33) (by decide)) (eC_pa ad hp1 _) rfl hinX0 4 (by decide) 10 rfl rfl dX3_isWashed_1 ?_
  refine lv_iload_n hx hb dX3_isWashed_4 rfl (lv_at hl 1 rfl) ?_
  refine lv_ishr hx hb dX3_isWashed_5 ?_
  refine lv_iconst (v := 1) hx hb dX3_isWashed_6 (by decide) ?_
  refine lv_iand hx hb dX3_isWashed_7 ?_
  refine lv_if_eq (tgt := 15) hx hb dX3_isWashed_8 (by decide) (fun c8 => ?_) (fun c8 => ?_)
  · have t8 : (((σ (33 + p1) 4) >>> (p2 &&& 31)) &&& 1).toInt = 0 := qt_eq c8
    rw [if_pos c8] at hG
    refine lv_iconst (v := 0) hx hb dX3_isWashed_15 (by decide) ?_
    exact end0z S hr hlocks (Or.inl rfl) hG dX3_isWashed_16
  · have t8 : (((σ (33 + p1) 4) >>> (p2 &&& 31)) &&& 1).toInt ≠ 0 := qt_ne c8
    rw [if_neg c8] at hG
    refine lv_iconst (v := 1) hx hb dX3_isWashed_11 (by decide) ?_
    refine lv_goto (tgt := 16) hx hb dX3_isWashed_12 (by decide) ?_
    exact end0z S hr hlocks (Or.inr rfl) hG dX3_isWashed_16
set_option maxHeartbeats 4000000 in
set_option maxRecDepth 100000 in
theorem c_X3_fadedInk (l : Launch) (ad : Nat → Nat) (D : va_G) (sz : Nat) (σ : St) (p1 : Nat) (p2 : Int32) (p3 : Int32) (hok : OkC σ) (hp1 : p1 < 8) (hsm : 0 ≤ p2.toInt ∧ p2.toInt < 9) : Met l yX3_fadedInk wsX3_fadedInk ({ frames := 2, cells := 0, slots := 0, locals := 47 }) (PreW 41 (eC ad) ad D (tyC ad) σ sz ([.ref (ad 0), .ref (ad (17 + p1)), .int p2, .int p3] : List Value)) (Q0i (f_X3_fadedInk σ p1 p2 p3)) 0 0 N0 := by
  generalize hG : f_X3_fadedInk σ p1 p2 p3 = T
  refine headW (cc := cX3_fadedInk) (maxL := 4) (ret := (some .int)) ([.ref (ad 0), .ref (ad (17 + p1)), .int p2, .int p3] : List Value) (by decide) rfl (Nat.le_of_ble_eq_true rfl) ?_
  intro p e s m below meth c S hr hlocks hK hN hsz w ls hl
  have S : CallFix p m c cX3_fadedInk 4 s ([.ref (ad 0), .ref (ad (17 + p1)), .int p2, .int p3] : List Value).toArray wsX3_fadedInk RX3 := S
  have hx := S.1
  have hb := S.2.1
  have z0 : (0 : Int32).toInt = 0 := by decide
  have z1 : (1 : Int32).toInt = 1 := by decide
  have hl : lv_has ls 4 [(0, .ref (ad 0)), (1, .ref (ad (17 + p1))), (2, .int p2), (3, .int p3)] := hl
  have hinX2 : ∀ w ∈ wsX20, w ∈ wsX3_fadedInk := (fun _ h => List.mem_cons_of_mem _ (List.mem_append_left _ (List.mem_append_right _ h)))
  have hinX3 : ∀ w ∈ wsX30, w ∈ wsX3_fadedInk := (fun _ h => List.mem_cons_of_mem _ (List.mem_append_right _ h))
  have okf0 := hok.1
  have okf1 := hok.2.1
  have okf2 := hok.2.2.1
  have okf3 := hok.2.2.2.1
  have okf4 := hok.2.2.2.2.1
  have okf5 := hok.2.2.2.2.2
  rw [f_X3_fadedInk] at hG
  refine lv_aload_n hx hb dX3_fadedInk_0 rfl (lv_at hl 0 rfl) ?_
  refine lv_aload_n hx hb dX3_fadedInk_1 rfl (lv_at hl 1 rfl) ?_
  refine lv_iload_n hx hb dX3_fadedInk_2 rfl (lv_at hl 2 rfl) ?_
  refine lv_iconst (v := 4) hx hb dX3_fadedInk_3 (by decide) ?_
  refine lv_aload_n hx hb dX3_fadedInk_4 rfl (lv_at hl 1 rfl) ?_
  refine r_getN (C := RX2) (T := TX2) (N := 3) S hK hN w (k := (17 + p1)) (Nat.lt_of_lt_of_le (Nat.add_lt_add_left hp1 17) (by decide)) (eC_sg ad hp1 _) rfl hinX2 2 (by decide) 5 rfl rfl dX3_fadedInk_5 ?_
  refine lv_iload_n hx hb dX3_fadedInk_8 rfl (lv_at hl 2 rfl) ?_
  have g9 : vp_in p2 9 := vpi (by omega) (by omega)
  refine r_iald (cA := ad 100) (N := 9) S hK w (k := (25 + p1)) (Nat.lt_of_lt_of_le (Nat.add_lt_add_left hp1 25) (by decide)) (fun f => eC_st ad hp1 f) rfl g9 dX3_fadedInk_9 ?_
  refine lv_imul hx hb dX3_fadedInk_10 ?_
  refine lv_iload_n hx hb dX3_fadedInk_11 rfl (lv_at hl 3 rfl) ?_
  refine call0i (va_runV (As := [.ref (ad (17 + p1)), .int p2, .int (4 * (σ (25 + p1) (ix p2))), .int p3]) (rest := []) S (c_X3_fade l ad D s.heap.size σ p1 p2 (4 * (σ (25 + p1) (ix p2))) p3 hok hp1 (by omega)) (cwV 4 S.2.2.2.2 gX3_fadedInk_X3_fade rfl rfl rfl ⟨rfl, hd_X3_fade⟩ ⟨Nat.le_of_ble_eq_true rfl, Nat.le_of_ble_eq_true rfl⟩) (preV hK hN w (k := 0) (by decide) (eC_0 ad _) (q := (RX3, TX3, 14)) rfl) rfl rfl hl.1 rfl (lv_room (Nat.le_of_ble_eq_true rfl)) dX3_fadedInk_12 ⟨Nat.zero_le _, Nat.zero_le _⟩) ?_
  exact end0i S hr hlocks hG dX3_fadedInk_15
set_option maxHeartbeats 4000000 in
set_option maxRecDepth 100000 in
theorem c_X3_smellOf (l : Launch) (ad : Nat → Nat) (D : va_G) (sz : Nat) (σ : St) (p1 : Nat) (p2 : Int32) (p3 : Int32) (hok : OkC σ) (hp1 : p1 < 8) (hsm : 0 ≤ p2.toInt ∧ p2.toInt < 9) : Met l yX3_smellOf wsX3_smellOf ({ frames := 3, cells := 0, slots := 0, locals := 70 }) (PreW 41 (eC ad) ad D (tyC ad) σ sz ([.ref (ad 0), .ref (ad (33 + p1)), .int p2, .int p3] : List Value)) (Q0i (f_X3_smellOf σ p1 p2 p3)) 0 0 N0 := by
  generalize hG : f_X3_smellOf σ p1 p2 p3 = T
  refine headW (cc := cX3_smellOf) (maxL := 6) (ret := (some .int)) ([.ref (ad 0), .ref (ad (33 + p1)), .int p2, .int p3] : List Value) (by decide) rfl (Nat.le_of_ble_eq_true rfl) ?_
  intro p e s m below meth c S hr hlocks hK hN hsz w ls hl
  have S : CallFix p m c cX3_smellOf 6 s ([.ref (ad 0), .ref (ad (33 + p1)), .int p2, .int p3] : List Value).toArray wsX3_smellOf RX3 := S
  have hx := S.1
  have hb := S.2.1
  have z0 : (0 : Int32).toInt = 0 := by decide
  have z1 : (1 : Int32).toInt = 1 := by decide
  have hl : lv_has ls 6 [(0, .ref (ad 0)), (1, .ref (ad (33 + p1))), (2, .int p2), (3, .int p3)] := hl
  have hinX0 : ∀ w ∈ wsX00, w ∈ wsX3_smellOf := (fun _ h => List.mem_cons_of_mem _ (List.mem_append_left _ (List.mem_append_left _ (List.mem_append_right _ h))))
  have hinX3 : ∀ w ∈ wsX30, w ∈ wsX3_smellOf := (fun _ h => List.mem_cons_of_mem _ (List.mem_append_left _ (List.mem_append_right _ h)))
  have hinX2 : ∀ w ∈ wsX20, w ∈ wsX3_smellOf := (fun _ h => List.mem_cons_of_mem _ (List.mem_append_right _ h))
  have okf0 := hok.1
  have okf1 := hok.2.1
  have okf2 := hok.2.2.1
  have okf3 := hok.2.2.2.1
  have okf4 := hok.2.2.2.2.1
  have okf5 := hok.2.2.2.2.2
  rw [f_X3_smellOf] at hG
  refine lv_aload_n hx hb dX3_smellOf_0 rfl (lv_at hl 1 rfl) ?_
  refine lv_iload_n hx hb dX3_smellOf_1 rfl (lv_at hl 2 rfl) ?_
  refine call0i (va_runS (As := [.ref (ad (33 + p1)), .int p2]) (rest := []) S (c_X3_isWashed l ad D s.heap.size σ p1 p2 hp1) (va_cwS 2 S.2.2.2.2 gX3_smellOf_X3_isWashed rfl rfl rfl hd_X3_isWashed ⟨Nat.le_of_ble_eq_true rfl, Nat.le_of_ble_eq_true rfl⟩) (preS hK hN w) rfl rfl hl.1 rfl (lv_room (Nat.le_of_ble_eq_true rfl)) dX3_smellOf_2 ⟨Nat.zero_le _, Nat.zero_le _⟩) ?_
  refine lv_if_eq (tgt := 13) hx hb dX3_smellOf_5 (by decide) (fun c5 => ?_) (fun c5 => ?_)
  · rw [if_pos c5] at hG
    refine lv_iload_n hx hb dX3_smellOf_13 rfl (lv_at hl 3 rfl) ?_
    refine lv_aload_n hx hb dX3_smellOf_14 rfl (lv_at hl 1 rfl) ?_
    refine r_getN (C := RX0) (T := TX0) (N := 6) S hK hN w (k := (33 + p1)) (Nat.lt_of_lt_of_le (Nat.add_lt_add_left hp1 33) (by decide)) (eC_pa ad hp1 _) rfl hinX0 2 (by decide) 8 rfl rfl dX3_smellOf_15 ?_
    refine lv_isub hx hb dX3_smellOf_18 ?_
    refine lv_istore (lv' := [(4, .int (p3 - (σ (33 + p1) 2))), (0, .ref (ad 0)), (1, .ref (ad (33 + p1))), (2, .int p2), (3, .int p3)]) hx hb dX3_smellOf_19 hl (by decide) rfl (fun ls hl => ?_)
    refine lv_aload_n hx hb dX3_smellOf_21 rfl (lv_at hl 1 rfl) ?_
    refine lv_aload_n hx hb dX3_smellOf_22 rfl (lv_at hl 1 rfl) ?_
    refine r_get (C := RX3) (T := TX3) (N := 14) S hK w (k := 0) (by decide) (eC_0 ad _) rfl hinX3 1 (by decide) (List.mem_of_getElem? (i := 1) rfl) rfl dX3_smellOf_23 ?_
    refine lv_aload_n hx hb dX3_smellOf_26 rfl (lv_at hl 2 rfl) ?_
    refine r_getN (C := RX0) (T := TX0) (N := 6) S hK hN w (k := (33 + p1)) (Nat.lt_of_lt_of_le (Nat.add_lt_add_left hp1 33) (by decide)) (eC_pa ad hp1 _) rfl hinX0 0 (by decide) 6 rfl rfl dX3_smellOf_27 ?_
    have g30 : vp_in (σ (33 + p1) 0) 8 := (okf4 p1 hp1).1
    refine r_aald S hK w (k := 2) (by decide) (eC_2 ad _) (t0 := 2) rfl g30 dX3_smellOf_30 ?_
    refine lv_iload_n hx hb dX3_smellOf_31 rfl (lv_at hl 3 rfl) ?_
    refine lv_iload hx hb dX3_smellOf_32 (lv_at hl 0 rfl) ?_
    refine call0i (va_runV (As := [.ref (ad (17 + (ix (σ (33 + p1) 0)))), .int p2, .int (p3 - (σ (33 + p1) 2))]) (rest := []) S (c_X3_fadedInk l ad D s.heap.size σ (ix (σ (33 + p1) 0)) p2 (p3 - (σ (33 + p1) 2)) hok (vpl g30) (by omega)) (cwV 3 S.2.2.2.2 gX3_smellOf_X3_fadedInk rfl rfl rfl ⟨rfl, hd_X3_fadedInk⟩ ⟨Nat.le_of_ble_eq_true rfl, Nat.le_of_ble_eq_true rfl⟩) (preV hK hN w (k := 0) (by decide) (eC_0 ad _) (q := (RX3, TX3, 14)) rfl) rfl rfl hl.1 rfl (lv_room (Nat.le_of_ble_eq_true rfl)) dX3_smellOf_34 ⟨Nat.zero_le _, Nat.zero_le _⟩) ?_
    refine lv_aload_n hx hb dX3_smellOf_37 rfl (lv_at hl 1 rfl) ?_
    refine lv_aload_n hx hb dX3_smellOf_38 rfl (lv_at hl 1 rfl) ?_
    refine r_get (C := RX3) (T := TX3) (N := 14) S hK w (k := 0) (by decide) (eC_0 ad _) rfl hinX3 1 (by decide) (List.mem_of_getElem? (i := 1) rfl) rfl dX3_smellOf_39 ?_
    refine lv_aload_n hx hb dX3_smellOf_42 rfl (lv_at hl 2 rfl) ?_
    refine r_getN (C := RX0) (T := TX0) (N := 6) S hK hN w (k := (33 + p1)) (Nat.lt_of_lt_of_le (Nat.add_lt_add_left hp1 33) (by decide)) (eC_pa ad hp1 _) rfl hinX0 1 (by decide) 7 rfl rfl dX3_smellOf_43 ?_
    have g46 : vp_in (σ (33 + p1) 1) 8 := (okf4 p1 hp1).2
    refine r_aald S hK w (k := 2) (by decide) (eC_2 ad _) (t0 := 2) rfl g46 dX3_smellOf_46 ?_
    refine lv_iload_n hx hb dX3_smellOf_47 rfl (lv_at hl 3 rfl) ?_
    refine lv_iload hx hb dX3_smellOf_48 (lv_at hl 0 rfl) ?_
    refine call0i (va_runV (As := [.ref (ad (17 + (ix (σ (33 + p1) 1)))), .int p2, .int (p3 - (σ (33 + p1) 2))]) (rest := [.int (f_X3_fadedInk σ (ix (σ (33 + p1) 0)) p2 (p3 - (σ (33 + p1) 2)))]) S (c_X3_fadedInk l ad D s.heap.size σ (ix (σ (33 + p1) 1)) p2 (p3 - (σ (33 + p1) 2)) hok (vpl g46) (by omega)) (cwV 3 S.2.2.2.2 gX3_smellOf_X3_fadedInk rfl rfl rfl ⟨rfl, hd_X3_fadedInk⟩ ⟨Nat.le_of_ble_eq_true rfl, Nat.le_of_ble_eq_true rfl⟩) (preV hK hN w (k := 0) (by decide) (eC_0 ad _) (q := (RX3, TX3, 14)) rfl) rfl rfl hl.1 rfl (lv_room (Nat.le_of_ble_eq_true rfl)) dX3_smellOf_50 ⟨Nat.zero_le _, Nat.zero_le _⟩) ?_
    refine lv_iadd hx hb dX3_smellOf_53 ?_
    refine lv_istore (lv' := [(5, .int ((f_X3_fadedInk σ (ix (σ (33 + p1) 0)) p2 (p3 - (σ (33 + p1) 2))) + (f_X3_fadedInk σ (ix (σ (33 + p1) 1)) p2 (p3 - (σ (33 + p1) 2))))), (4, .int (p3 - (σ (33 + p1) 2))), (0, .ref (ad 0)), (1, .ref (ad (33 + p1))), (2, .int p2), (3, .int p3)]) hx hb dX3_smellOf_54 hl (by decide) rfl (fun ls hl => ?_)
    refine lv_iconst (v := 0) hx hb dX3_smellOf_56 (by decide) ?_
    refine lv_iload hx hb dX3_smellOf_57 (lv_at hl 0 rfl) ?_
    refine lv_aload_n hx hb dX3_smellOf_59 rfl (lv_at hl 3 rfl) ?_
    refine r_getN (C := RX0) (T := TX0) (N := 6) S hK hN w (k := (33 + p1)) (Nat.lt_of_lt_of_le (Nat.add_lt_add_left hp1 33) (by decide)) (eC_pa ad hp1 _) rfl hinX0 3 (by decide) 9 rfl rfl dX3_smellOf_60 ?_
    refine lv_isub hx hb dX3_smellOf_63 ?_
    refine r_max S hl.1 (List.mem_of_getElem? (i := 2) rfl) (List.mem_of_getElem? (i := 3) rfl) (List.mem_of_getElem? (i := 4) rfl) (List.mem_of_getElem? (i := 5) rfl) ⟨Nat.le_of_ble_eq_true rfl, Nat.le_of_ble_eq_true rfl, Nat.zero_le _, Nat.zero_le _⟩ dX3_smellOf_64 ?_
    refine lv_aload_n hx hb dX3_smellOf_67 rfl (lv_at hl 3 rfl) ?_
    refine r_getN (C := RX0) (T := TX0) (N := 6) S hK hN w (k := (33 + p1)) (Nat.lt_of_lt_of_le (Nat.add_lt_add_left hp1 33) (by decide)) (eC_pa ad hp1 _) rfl hinX0 5 (by decide) 11 rfl rfl dX3_smellOf_68 ?_
    refine lv_iadd hx hb dX3_smellOf_71 ?_
    exact end0i S hr hlocks hG dX3_smellOf_72
  · rw [if_neg c5] at hG
    refine lv_aload_n hx hb dX3_smellOf_8 rfl (lv_at hl 1 rfl) ?_
    refine r_getN (C := RX0) (T := TX0) (N := 6) S hK hN w (k := (33 + p1)) (Nat.lt_of_lt_of_le (Nat.add_lt_add_left hp1 33) (by decide)) (eC_pa ad hp1 _) rfl hinX0 5 (by decide) 11 rfl rfl dX3_smellOf_9 ?_
    exact end0i S hr hlocks hG dX3_smellOf_12
set_option maxHeartbeats 4000000 in
set_option maxRecDepth 100000 in
theorem c_X3_smells (l : Launch) (ad : Nat → Nat) (D : va_G) (sz : Nat) (σ : St) (p1 : Int32) (p2 : Int32) (p3 : Int32) (hok : OkC σ) : Met l yX3_smells wsX3_smells ({ frames := 4, cells := 0, slots := 0, locals := 95 }) (PreW 41 (eC ad) ad D (tyC ad) σ sz ([.ref (ad 0), .int p1, .int p2, .int p3] : List Value)) (Q0i (f_X3_smells σ p1 p2 p3)) 0 0 N0 := by
  generalize hG : f_X3_smells σ p1 p2 p3 = T
  refine headW (cc := cX3_smells) (maxL := 4) (ret := (some .int)) ([.ref (ad 0), .int p1, .int p2, .int p3] : List Value) (by decide) rfl (Nat.le_of_ble_eq_true rfl) ?_
  intro p e s m below meth c S hr hlocks hK hN hsz w ls hl
  have S : CallFix p m c cX3_smells 4 s ([.ref (ad 0), .int p1, .int p2, .int p3] : List Value).toArray wsX3_smells RX3 := S
  have hx := S.1
  have hb := S.2.1
  have z0 : (0 : Int32).toInt = 0 := by decide
  have z1 : (1 : Int32).toInt = 1 := by decide
  have hl : lv_has ls 4 [(0, .ref (ad 0)), (1, .int p1), (2, .int p2), (3, .int p3)] := hl
  have hinX3 : ∀ w ∈ wsX30, w ∈ wsX3_smells := (fun _ h => List.mem_cons_of_mem _ (List.mem_append_left _ (List.mem_append_left _ (List.mem_append_right _ h))))
  have hinX0 : ∀ w ∈ wsX00, w ∈ wsX3_smells := (fun _ h => List.mem_cons_of_mem _ (List.mem_append_left _ (List.mem_append_right _ h)))
  have hinX2 : ∀ w ∈ wsX20, w ∈ wsX3_smells := (fun _ h => List.mem_cons_of_mem _ (List.mem_append_right _ h))
  have okf0 := hok.1
  have okf1 := hok.2.1
  have okf2 := hok.2.2.1
  have okf3 := hok.2.2.2.1
  have okf4 := hok.2.2.2.2.1
  have okf5 := hok.2.2.2.2.2
  rw [f_X3_smells] at hG
  refine lv_aload_n hx hb dX3_smells_0 rfl (lv_at hl 0 rfl) ?_
  refine lv_iload_n hx hb dX3_smells_1 rfl (lv_at hl 1 rfl) ?_
  refine call0i (va_runV (As := [.int p1]) (rest := []) S (c_X3_isPaper l ad D s.heap.size σ p1) (cwV 1 S.2.2.2.2 gX3_smells_X3_isPaper rfl rfl rfl ⟨rfl, hd_X3_isPaper⟩ ⟨Nat.le_of_ble_eq_true rfl, Nat.le_of_ble_eq_true rfl⟩) (preV hK hN w (k := 0) (by decide) (eC_0 ad _) (q := (RX3, TX3, 14)) rfl) rfl rfl hl.1 rfl (lv_room (Nat.le_of_ble_eq_true rfl)) dX3_smells_2 ⟨Nat.zero_le _, Nat.zero_le _⟩) ?_
  refine lv_if_eq (tgt := 15) hx hb dX3_smells_5 (by decide) (fun c5 => ?_) (fun c5 => ?_)
  · rw [if_pos c5] at hG
    refine lv_iconst (v := (-1)) hx hb dX3_smells_15 (by decide) ?_
    exact end0i S hr hlocks hG dX3_smells_16
  · have t5 := bf_isPaper_n c5
    rw [if_neg c5] at hG
    refine lv_iload_n hx hb dX3_smells_8 rfl (lv_at hl 2 rfl) ?_
    refine call0i (va_runS (As := [.int p2]) (rest := []) S (c_X3_isSmell l p2) (va_cwS 1 S.2.2.2.2 gX3_smells_X3_isSmell rfl rfl rfl hd_X3_isSmell ⟨Nat.le_of_ble_eq_true rfl, Nat.le_of_ble_eq_true rfl⟩) pre0S rfl rfl hl.1 rfl (lv_room (Nat.le_of_ble_eq_true rfl)) dX3_smells_9 ⟨Nat.zero_le _, Nat.zero_le _⟩) ?_
    refine lv_if_ne (tgt := 17) hx hb dX3_smells_12 (by decide) (fun c12 => ?_) (fun c12 => ?_)
    · have t12 := bf_isSmell_n c12
      rw [if_neg c12] at hG
      refine lv_iload_n hx hb dX3_smells_17 rfl (lv_at hl 3 rfl) ?_
      refine lv_aload_n hx hb dX3_smells_18 rfl (lv_at hl 0 rfl) ?_
      refine r_get (C := RX3) (T := TX3) (N := 14) S hK w (k := 0) (by decide) (eC_0 ad _) rfl hinX3 2 (by decide) (List.mem_of_getElem? (i := 1) rfl) rfl dX3_smells_19 ?_
      refine lv_iload_n hx hb dX3_smells_22 rfl (lv_at hl 1 rfl) ?_
      have g23 : vp_in p1 8 := vpi (by omega) (by omega)
      refine r_aald S hK w (k := 3) (by decide) (eC_3 ad _) (t0 := 3) rfl g23 dX3_smells_23 ?_
      refine r_getN (C := RX0) (T := TX0) (N := 6) S hK hN w (k := (33 + (ix p1))) (Nat.lt_of_lt_of_le (Nat.add_lt_add_left (vpl g23) 33) (by decide)) (eC_pa ad (vpl g23) _) rfl hinX0 2 (by decide) 8 rfl rfl dX3_smells_24 ?_
      refine lv_icmp_lt (tgt := 36) hx hb dX3_smells_27 (by decide) (fun c27 => ?_) (fun c27 => ?_)
      · have t27 : p3.toInt < (σ (33 + (ix p1)) 2).toInt := qt_lt c27
        rw [if_pos c27] at hG
        refine lv_bipush (v := (-2)) hx hb dX3_smells_36 (by decide) ?_
        exact end0i S hr hlocks hG dX3_smells_38
      · have t27 : (σ (33 + (ix p1)) 2).toInt ≤ p3.toInt := qt_nlt c27
        rw [if_neg c27] at hG
        refine lv_iload_n hx hb dX3_smells_30 rfl (lv_at hl 3 rfl) ?_
        refine lv_bipush (v := 99) hx hb dX3_smells_31 (by decide) ?_
        refine lv_icmp_le (tgt := 39) hx hb dX3_smells_33 (by decide) (fun c33 => ?_) (fun c33 => ?_)
        · have t33 : p3.toInt ≤ 99 := qt_le c33
          rw [if_pos c33] at hG
          refine lv_aload_n hx hb dX3_smells_39 rfl (lv_at hl 0 rfl) ?_
          refine lv_aload_n hx hb dX3_smells_40 rfl (lv_at hl 0 rfl) ?_
          refine r_get (C := RX3) (T := TX3) (N := 14) S hK w (k := 0) (by decide) (eC_0 ad _) rfl hinX3 2 (by decide) (List.mem_of_getElem? (i := 1) rfl) rfl dX3_smells_41 ?_
          refine lv_iload_n hx hb dX3_smells_44 rfl (lv_at hl 1 rfl) ?_
          have g45 : vp_in p1 8 := vpi (by omega) (by omega)
          refine r_aald S hK w (k := 3) (by decide) (eC_3 ad _) (t0 := 3) rfl g45 dX3_smells_45 ?_
          refine lv_iload_n hx hb dX3_smells_46 rfl (lv_at hl 2 rfl) ?_
          refine lv_iload_n hx hb dX3_smells_47 rfl (lv_at hl 3 rfl) ?_
          refine call0i (va_runV (As := [.ref (ad (33 + (ix p1))), .int p2, .int p3]) (rest := []) S (c_X3_smellOf l ad D s.heap.size σ (ix p1) p2 p3 hok (vpl g45) (by omega)) (cwV 3 S.2.2.2.2 gX3_smells_X3_smellOf rfl rfl rfl ⟨rfl, hd_X3_smellOf⟩ ⟨Nat.le_of_ble_eq_true rfl, Nat.le_of_ble_eq_true rfl⟩) (preV hK hN w (k := 0) (by decide) (eC_0 ad _) (q := (RX3, TX3, 14)) rfl) rfl rfl hl.1 rfl (lv_room (Nat.le_of_ble_eq_true rfl)) dX3_smells_48 ⟨Nat.zero_le _, Nat.zero_le _⟩) ?_
          exact end0i S hr hlocks hG dX3_smells_51
        · have t33 : 99 < p3.toInt := qt_nle c33
          rw [if_neg c33] at hG
          refine lv_bipush (v := (-2)) hx hb dX3_smells_36 (by decide) ?_
          exact end0i S hr hlocks hG dX3_smells_38
    · rw [if_pos c12] at hG
      refine lv_iconst (v := (-1)) hx hb dX3_smells_15 (by decide) ?_
      exact end0i S hr hlocks hG dX3_smells_16
set_option maxHeartbeats 4000000 in
set_option maxRecDepth 100000 in
theorem c_X3_wash (l : Launch) (ad : Nat → Nat) (D : va_G) (sz : Nat) (σ : St) (p1 : Int32) (p2 : Int32) (hok : OkC σ) : Met l yX3_wash wsX3_wash ({ frames := 1, cells := 0, slots := 0, locals := 21 }) (PreW 41 (eC ad) ad D (tyC ad) σ sz ([.ref (ad 0), .int p1, .int p2] : List Value)) (QWi 41 (eC ad) ad D (f_X3_wash σ p1 p2) (CA 41 ad sz)) 0 0 (CA 41 ad sz) := by
  generalize hG : f_X3_wash σ p1 p2 = T
  refine headW (cc := cX3_wash) (maxL := 4) (ret := (some .int)) ([.ref (ad 0), .int p1, .int p2] : List Value) (by decide) rfl (Nat.le_of_ble_eq_true rfl) ?_
  intro p e s m below meth c S hr hlocks hK hN hsz w ls hl
  have S : CallFix p m c cX3_wash 4 s ([.ref (ad 0), .int p1, .int p2] : List Value).toArray wsX3_wash RX3 := S
  have hx := S.1
  have hb := S.2.1
  have z0 : (0 : Int32).toInt = 0 := by decide
  have z1 : (1 : Int32).toInt = 1 := by decide
  have hl : lv_has ls 4 [(0, .ref (ad 0)), (1, .int p1), (2, .int p2)] := hl
  have hinX3 : ∀ w ∈ wsX30, w ∈ wsX3_wash := (fun _ h => List.mem_cons_of_mem _ (List.mem_append_left _ (List.mem_append_right _ h)))
  have hinX0 : ∀ w ∈ wsX00, w ∈ wsX3_wash := (fun _ h => List.mem_cons_of_mem _ (List.mem_append_right _ h))
  have okf0 := hok.1
  have okf1 := hok.2.1
  have okf2 := hok.2.2.1
  have okf3 := hok.2.2.2.1
  have okf4 := hok.2.2.2.2.1
  have okf5 := hok.2.2.2.2.2
  rw [f_X3_wash] at hG
  refine lv_aload_n hx hb dX3_wash_0 rfl (lv_at hl 0 rfl) ?_
  refine lv_iload_n hx hb dX3_wash_1 rfl (lv_at hl 1 rfl) ?_
  refine call0i (va_runV (As := [.int p1]) (rest := []) S (c_X3_isPaper l ad D s.heap.size σ p1) (cwV 1 S.2.2.2.2 gX3_wash_X3_isPaper rfl rfl rfl ⟨rfl, hd_X3_isPaper⟩ ⟨Nat.le_of_ble_eq_true rfl, Nat.le_of_ble_eq_true rfl⟩) (preV hK hN w (k := 0) (by decide) (eC_0 ad _) (q := (RX3, TX3, 14)) rfl) rfl rfl hl.1 rfl (lv_room (Nat.le_of_ble_eq_true rfl)) dX3_wash_2 ⟨Nat.zero_le _, Nat.zero_le _⟩) ?_
  refine lv_if_eq (tgt := 15) hx hb dX3_wash_5 (by decide) (fun c5 => ?_) (fun c5 => ?_)
  · rw [if_pos c5] at hG
    refine lv_iconst (v := (-1)) hx hb dX3_wash_15 (by decide) ?_
    exact endWi S hr hlocks w hG dX3_wash_16
  · have t5 := bf_isPaper_n c5
    rw [if_neg c5] at hG
    refine lv_iload_n hx hb dX3_wash_8 rfl (lv_at hl 2 rfl) ?_
    refine call0i (va_runS (As := [.int p2]) (rest := []) S (c_X3_isSmell l p2) (va_cwS 1 S.2.2.2.2 gX3_wash_X3_isSmell rfl rfl rfl hd_X3_isSmell ⟨Nat.le_of_ble_eq_true rfl, Nat.le_of_ble_eq_true rfl⟩) pre0S rfl rfl hl.1 rfl (lv_room (Nat.le_of_ble_eq_true rfl)) dX3_wash_9 ⟨Nat.zero_le _, Nat.zero_le _⟩) ?_
    refine lv_if_ne (tgt := 17) hx hb dX3_wash_12 (by decide) (fun c12 => ?_) (fun c12 => ?_)
    · have t12 := bf_isSmell_n c12
      rw [if_neg c12] at hG
      refine lv_aload_n hx hb dX3_wash_17 rfl (lv_at hl 0 rfl) ?_
      refine r_get (C := RX3) (T := TX3) (N := 14) S hK w (k := 0) (by decide) (eC_0 ad _) rfl hinX3 2 (by decide) (List.mem_of_getElem? (i := 1) rfl) rfl dX3_wash_18 ?_
      refine lv_iload_n hx hb dX3_wash_21 rfl (lv_at hl 1 rfl) ?_
      have g22 : vp_in p1 8 := vpi (by omega) (by omega)
      refine r_aald S hK w (k := 3) (by decide) (eC_3 ad _) (t0 := 3) rfl g22 dX3_wash_22 ?_
      refine lv_astore_n (lv' := [(3, .ref (ad (33 + (ix p1)))), (0, .ref (ad 0)), (1, .int p1), (2, .int p2)]) hx hb dX3_wash_23 rfl hl (by decide) rfl (fun ls hl => ?_)
      refine lv_aload_n hx hb dX3_wash_24 rfl (lv_at hl 0 rfl) ?_
      refine lv_iload_n hx hb dX3_wash_25 rfl (lv_at hl 3 rfl) ?_
      refine call0i (va_runS (As := [.ref (ad (33 + (ix p1))), .int p2]) (rest := []) S (c_X3_isWashed l ad D s.heap.size σ (ix p1) p2 (vpl g22)) (va_cwS 2 S.2.2.2.2 gX3_wash_X3_isWashed rfl rfl rfl hd_X3_isWashed ⟨Nat.le_of_ble_eq_true rfl, Nat.le_of_ble_eq_true rfl⟩) (preS hK hN w) rfl rfl hl.1 rfl (lv_room (Nat.le_of_ble_eq_true rfl)) dX3_wash_26 ⟨Nat.zero_le _, Nat.zero_le _⟩) ?_
      refine lv_if_eq (tgt := 34) hx hb dX3_wash_29 (by decide) (fun c29 => ?_) (fun c29 => ?_)
      · rw [if_pos c29] at hG
        refine lv_aload_n hx hb dX3_wash_34 rfl (lv_at hl 0 rfl) ?_
        refine lv_dup hx hb dX3_wash_35 rfl ?_
        refine r_getN (C := RX0) (T := TX0) (N := 6) S hK hN w (k := (33 + (ix p1))) (Nat.lt_of_lt_of_le (Nat.add_lt_add_left (vpl g22) 33) (by decide)) (eC_pa ad (vpl g22) _) rfl hinX0 4 (by decide) 10 rfl rfl dX3_wash_36 ?_
        refine lv_iconst (v := 1) hx hb dX3_wash_39 (by decide) ?_
        refine lv_iload_n hx hb dX3_wash_40 rfl (lv_at hl 3 rfl) ?_
        refine lv_ishl hx hb dX3_wash_41 ?_
        refine lv_ior hx hb dX3_wash_42 ?_
        refine r_putN (C := RX0) (T := TX0) (N := 6) S hK hN w (k := (33 + (ix p1))) (Nat.lt_of_lt_of_le (Nat.add_lt_add_left (vpl g22) 33) (by decide)) (eC_pa ad (vpl g22) _) rfl hinX0 tyX0 tyX0_ok nmX0 4 (by decide) 10 rfl rfl (x := ((σ (33 + (ix p1)) 4) ||| ((1 : Int32) <<< (p2 &&& 31)))) (ty := .int) (by decide +kernel) rfl rfl (by show _ < List.length _; exact Nat.le_of_ble_eq_true rfl) (sPa ad (vpl g22) _ _ 4 (by decide)) dX3_wash_43 (fun H locs w => ?_)
        refine lv_iconst (v := 1) hx hb dX3_wash_46 (by decide) ?_
        exact endWi S hr hlocks w hG dX3_wash_47
      · rw [if_neg c29] at hG
        refine lv_iconst (v := 0) hx hb dX3_wash_32 (by decide) ?_
        exact endWi S hr hlocks w hG dX3_wash_33
    · rw [if_pos c12] at hG
      refine lv_iconst (v := (-1)) hx hb dX3_wash_15 (by decide) ?_
      exact endWi S hr hlocks w hG dX3_wash_16
set_option maxHeartbeats 4000000 in
set_option maxRecDepth 100000 in
theorem c_X3_flood (l : Launch) (ad : Nat → Nat) (D : va_G) (sz : Nat) (σ : St) (p1 : Int32) (hok : OkC σ) : Met l yX3_flood wsX3_flood ({ frames := 0, cells := 0, slots := 0, locals := 0 }) (PreW 41 (eC ad) ad D (tyC ad) σ sz ([.ref (ad 0), .int p1] : List Value)) (QWi 41 (eC ad) ad D (f_X3_flood σ p1) (CA 41 ad sz)) 0 0 (CA 41 ad sz) := by
  generalize hG : f_X3_flood σ p1 = T
  refine headW (cc := cX3_flood) (maxL := 3) (ret := (some .int)) ([.ref (ad 0), .int p1] : List Value) (by decide) rfl (Nat.le_of_ble_eq_true rfl) ?_
  intro p e s m below meth c S hr hlocks hK hN hsz w ls hl
  have S : CallFix p m c cX3_flood 3 s ([.ref (ad 0), .int p1] : List Value).toArray wsX3_flood RX3 := S
  have hx := S.1
  have hb := S.2.1
  have z0 : (0 : Int32).toInt = 0 := by decide
  have z1 : (1 : Int32).toInt = 1 := by decide
  have hl : lv_has ls 3 [(0, .ref (ad 0)), (1, .int p1)] := hl
  have hinX3 : ∀ w ∈ wsX30, w ∈ wsX3_flood := (fun _ h => List.mem_cons_of_mem _ (List.mem_append_left _ (List.mem_append_right _ h)))
  have hinX0 : ∀ w ∈ wsX00, w ∈ wsX3_flood := (fun _ h => List.mem_cons_of_mem _ (List.mem_append_right _ h))
  have okf0 := hok.1
  have okf1 := hok.2.1
  have okf2 := hok.2.2.1
  have okf3 := hok.2.2.2.1
  have okf4 := hok.2.2.2.2.1
  have okf5 := hok.2.2.2.2.2
  rw [f_X3_flood] at hG
  refine lv_iload_n hx hb dX3_flood_0 rfl (lv_at hl 1 rfl) ?_
  refine lv_iconst (v := 1) hx hb dX3_flood_1 (by decide) ?_
  refine lv_icmp_lt (tgt := 11) hx hb dX3_flood_2 (by decide) (fun c2 => ?_) (fun c2 => ?_)
  · have t2 : p1.toInt < 1 := qt_lt c2
    rw [if_pos c2] at hG
    refine lv_bipush (v := (-2)) hx hb dX3_flood_11 (by decide) ?_
    exact endWi S hr hlocks w hG dX3_flood_13
  · have t2 : 1 ≤ p1.toInt := qt_nlt c2
    rw [if_neg c2] at hG
    refine lv_iload_n hx hb dX3_flood_5 rfl (lv_at hl 1 rfl) ?_
    refine lv_bipush (v := 9) hx hb dX3_flood_6 (by decide) ?_
    refine lv_icmp_le (tgt := 14) hx hb dX3_flood_8 (by decide) (fun c8 => ?_) (fun c8 => ?_)
    · have t8 : p1.toInt ≤ 9 := qt_le c8
      rw [if_pos c8] at hG
      refine lv_iconst (v := 0) hx hb dX3_flood_14 (by decide) ?_
      refine lv_istore_n (lv' := [(2, .int 0), (0, .ref (ad 0)), (1, .int p1)]) hx hb dX3_flood_15 rfl hl (by decide) rfl (fun ls hl => ?_)
      have L16 : ∀ (n : Nat) (res16 : St), ∀ (v2_16 : Int32), ∀ (S_16 : St), ((OkC S_16) ∧ (0 ≤ v2_16.toInt ∧ v2_16.toInt ≤ 8)) → (8 - v2_16.toInt).toNat < n → (lp_X3_flood_16 p1 n v2_16 S_16) = res16 → (∀ (S_16e : St), (OkC S_16e) → res16 = S_16e → ∀ (H : Heap) (locs : List Loc), CW 41 (eC ad) ad D (CA 41 ad sz) s.heap S_16e H locs → ∀ ls : Array Slot, lv_has ls 3 [(0, .ref (ad 0))] → W p l e (headSpec wsX3_flood ({ frames := 0, cells := 0, slots := 0, locals := 0 })).room s m ([.ref (ad 0), .int p1] : List Value).toArray below meth c H locs 0 0 (MQ below (QWi 41 (eC ad) ad D T (CA 41 ad sz)) ([.ref (ad 0), .int p1] : List Value).toArray s 0 0 (CA 41 ad sz)) (F0 m 45 ls [])) → ∀ (H : Heap) (locs : List Loc), CW 41 (eC ad) ad D (CA 41 ad sz) s.heap S_16 H locs → ∀ ls : Array Slot, lv_has ls 3 [(0, .ref (ad 0)), (1, .int p1), (2, .int v2_16)] → W p l e (headSpec wsX3_flood ({ frames := 0, cells := 0, slots := 0, locals := 0 })).room s m ([.ref (ad 0), .int p1] : List Value).toArray below meth c H locs 0 0 (MQ below (QWi 41 (eC ad) ad D T (CA 41 ad sz)) ([.ref (ad 0), .int p1] : List Value).toArray s 0 0 (CA 41 ad sz)) (F0 m 16 ls []) := by
        intro n
        induction n with
        | zero => intro _ _ _ _ hm; exact absurd hm (Nat.not_lt_zero _)
        | succ n ih16 =>
          intro res16 v2_16 S_16 hI16 hm16 hG hex16 H locs w ls hl
          obtain ⟨hok, i16_1⟩ := id hI16
          have okf0 := hok.1
          have okf1 := hok.2.1
          have okf2 := hok.2.2.1
          have okf3 := hok.2.2.2.1
          have okf4 := hok.2.2.2.2.1
          have okf5 := hok.2.2.2.2.2
          rw [lp_X3_flood_16] at hG
          refine lv_iload_n hx hb dX3_flood_16 rfl (lv_at hl 2 rfl) ?_
          refine lv_aload_n hx hb dX3_flood_17 rfl (lv_at hl 0 rfl) ?_
          refine r_get (C := RX3) (T := TX3) (N := 14) S hK w (k := 0) (by decide) (eC_0 ad _) rfl hinX3 5 (by decide) (List.mem_of_getElem? (i := 1) rfl) rfl dX3_flood_18 ?_
          refine lv_icmp_ge (tgt := 45) hx hb dX3_flood_21 (by decide) (fun c21 => ?_) (fun c21 => ?_)
          · have t21 : (S_16 0 5).toInt ≤ v2_16.toInt := qt_le c21
            rw [if_pos c21] at hG
            exact hex16 S_16 hok hG.symm _ _ w ls (lv_sub hl [0] rfl)
          · have t21 : v2_16.toInt < (S_16 0 5).toInt := qt_nle c21
            rw [if_neg c21] at hG
            refine lv_aload_n hx hb dX3_flood_24 rfl (lv_at hl 0 rfl) ?_
            refine r_get (C := RX3) (T := TX3) (N := 14) S hK w (k := 0) (by decide) (eC_0 ad _) rfl hinX3 2 (by decide) (List.mem_of_getElem? (i := 2) rfl) rfl dX3_flood_25 ?_
            refine lv_iload_n hx hb dX3_flood_28 rfl (lv_at hl 2 rfl) ?_
            have g29 : vp_in v2_16 8 := vpi (by omega) (by omega)
            refine r_aald S hK w (k := 3) (by decide) (eC_3 ad _) (t0 := 3) rfl g29 dX3_flood_29 ?_
            refine lv_dup hx hb dX3_flood_30 rfl ?_
            refine r_getN (C := RX0) (T := TX0) (N := 6) S hK hN w (k := (33 + (ix v2_16))) (Nat.lt_of_lt_of_le (Nat.add_lt_add_left (vpl g29) 33) (by decide)) (eC_pa ad (vpl g29) _) rfl hinX0 5 (by decide) 11 rfl rfl dX3_flood_31 ?_
            refine lv_iload_n hx hb dX3_flood_34 rfl (lv_at hl 1 rfl) ?_
            refine lv_iadd hx hb dX3_flood_35 ?_
            refine r_putN (C := RX0) (T := TX0) (N := 6) S hK hN w (k := (33 + (ix v2_16))) (Nat.lt_of_lt_of_le (Nat.add_lt_add_left (vpl g29) 33) (by decide)) (eC_pa ad (vpl g29) _) rfl hinX0 tyX0 tyX0_ok nmX0 5 (by decide) 11 rfl rfl (x := ((S_16 (33 + (ix v2_16)) 5) + p1)) (ty := .int) (by decide +kernel) rfl rfl (by show _ < List.length _; exact Nat.le_of_ble_eq_true rfl) (sPa ad (vpl g29) _ _ 5 (by decide)) dX3_flood_36 (fun H locs w => ?_)
            have hok : OkC (u2 S_16 (33 + (ix v2_16)) 5 ((S_16 (33 + (ix v2_16)) 5) + p1)) := okC_pa (by decide) hok
            have okf0 := hok.1
            have okf1 := hok.2.1
            have okf2 := hok.2.2.1
            have okf3 := hok.2.2.2.1
            have okf4 := hok.2.2.2.2.1
            have okf5 := hok.2.2.2.2.2
            refine lv_iinc (v := (v2_16 + 1)) (lv' := [(2, .int (v2_16 + 1)), (0, .ref (ad 0)), (1, .int p1)]) hx hb dX3_flood_39 hl (k := 2) rfl rfl (by decide) rfl (fun ls hl => ?_)
            refine lv_goto (tgt := 16) hx hb dX3_flood_42 (by decide) ?_
            have b2_16 : (v2_16 + 1).toInt = v2_16.toInt + 1 := inc_toInt (by omega) (by omega)
            exact ih16 _ (v2_16 + 1) (u2 S_16 (33 + (ix v2_16)) 5 ((S_16 (33 + (ix v2_16)) 5) + p1)) ⟨hok, (by omega)⟩ (by omega) hG hex16 _ _ w ls (lv_sub hl [1, 2, 0] rfl)
      refine L16 200 _ 0 σ ⟨hok, (by omega)⟩ (by omega) rfl (fun S_16e hok hr16 H locs w ls hl => ?_) _ _ w ls (lv_sub hl [1, 2, 0] rfl)
      rw [hr16] at hG
      have okf0 := hok.1
      have okf1 := hok.2.1
      have okf2 := hok.2.2.1
      have okf3 := hok.2.2.2.1
      have okf4 := hok.2.2.2.2.1
      have okf5 := hok.2.2.2.2.2
      refine lv_aload_n hx hb dX3_flood_45 rfl (lv_at hl 0 rfl) ?_
      refine r_get (C := RX3) (T := TX3) (N := 14) S hK w (k := 0) (by decide) (eC_0 ad _) rfl hinX3 5 (by decide) (List.mem_of_getElem? (i := 1) rfl) rfl dX3_flood_46 ?_
      exact endWi S hr hlocks w hG dX3_flood_49
    · have t8 : 9 < p1.toInt := qt_nle c8
      rw [if_neg c8] at hG
      refine lv_bipush (v := (-2)) hx hb dX3_flood_11 (by decide) ?_
      exact endWi S hr hlocks w hG dX3_flood_13
set_option maxHeartbeats 4000000 in
set_option maxRecDepth 100000 in
theorem c_X3_smellPaper (l : Launch) (ad : Nat → Nat) (D : va_G) (sz : Nat) (σ : St) (p1 : Nat) (p2 : Int32) (hok : OkC σ) (hp1 : p1 < 8) : Met l yX3_smellPaper wsX3_smellPaper ({ frames := 4, cells := 0, slots := 0, locals := 95 }) (PreW 41 (eC ad) ad D (tyC ad) σ sz ([.ref (ad 0), .ref (ad (33 + p1)), .int p2] : List Value)) (QWv 41 (eC ad) ad D (f_X3_smellPaper σ p1 p2) (CA 41 ad sz)) 0 0 (CA 41 ad sz) := by
  generalize hG : f_X3_smellPaper σ p1 p2 = T
  refine headW (cc := cX3_smellPaper) (maxL := 4) (ret := none) ([.ref (ad 0), .ref (ad (33 + p1)), .int p2] : List Value) (by decide) rfl (Nat.le_of_ble_eq_true rfl) ?_
  intro p e s m below meth c S hr hlocks hK hN hsz w ls hl
  have S : CallFix p m c cX3_smellPaper 4 s ([.ref (ad 0), .ref (ad (33 + p1)), .int p2] : List Value).toArray wsX3_smellPaper RX3 := S
  have hx := S.1
  have hb := S.2.1
  have z0 : (0 : Int32).toInt = 0 := by decide
  have z1 : (1 : Int32).toInt = 1 := by decide
  have hl : lv_has ls 4 [(0, .ref (ad 0)), (1, .ref (ad (33 + p1))), (2, .int p2)] := hl
  have hinX3 : ∀ w ∈ wsX30, w ∈ wsX3_smellPaper := (fun _ h => List.mem_cons_of_mem _ (List.mem_append_left _ (List.mem_append_left _ (List.mem_append_right _ h))))
  have hinX0 : ∀ w ∈ wsX00, w ∈ wsX3_smellPaper := (fun _ h => List.mem_cons_of_mem _ (List.mem_append_left _ (List.mem_append_right _ h)))
  have hinX2 : ∀ w ∈ wsX20, w ∈ wsX3_smellPaper := (fun _ h => List.mem_cons_of_mem _ (List.mem_append_right _ h))
  have okf0 := hok.1
  have okf1 := hok.2.1
  have okf2 := hok.2.2.1
  have okf3 := hok.2.2.2.1
  have okf4 := hok.2.2.2.2.1
  have okf5 := hok.2.2.2.2.2
  rw [f_X3_smellPaper] at hG
  refine lv_iconst (v := 0) hx hb dX3_smellPaper_0 (by decide) ?_
  refine lv_istore_n (lv' := [(3, .int 0), (0, .ref (ad 0)), (1, .ref (ad (33 + p1))), (2, .int p2)]) hx hb dX3_smellPaper_1 rfl hl (by decide) rfl (fun ls hl => ?_)
  have L2 : ∀ (n : Nat) (res2 : St), ∀ (v3_2 : Int32), ∀ (S_2 : St), ((OkC S_2) ∧ (0 ≤ v3_2.toInt ∧ v3_2.toInt ≤ 9)) → (9 - v3_2.toInt).toNat < n → (lp_X3_smellPaper_2 p1 p2 n v3_2 S_2) = res2 → (∀ (S_2e : St), (OkC S_2e) → res2 = S_2e → ∀ (H : Heap) (locs : List Loc), CW 41 (eC ad) ad D (CA 41 ad sz) s.heap S_2e H locs → ∀ ls : Array Slot, lv_has ls 4 [(0, .ref (ad 0))] → W p l e (headSpec wsX3_smellPaper ({ frames := 4, cells := 0, slots := 0, locals := 95 })).room s m ([.ref (ad 0), .ref (ad (33 + p1)), .int p2] : List Value).toArray below meth c H locs 0 0 (MQ below (QWv 41 (eC ad) ad D T (CA 41 ad sz)) ([.ref (ad 0), .ref (ad (33 + p1)), .int p2] : List Value).toArray s 0 0 (CA 41 ad sz)) (F0 m 27 ls [])) → ∀ (H : Heap) (locs : List Loc), CW 41 (eC ad) ad D (CA 41 ad sz) s.heap S_2 H locs → ∀ ls : Array Slot, lv_has ls 4 [(0, .ref (ad 0)), (1, .ref (ad (33 + p1))), (2, .int p2), (3, .int v3_2)] → W p l e (headSpec wsX3_smellPaper ({ frames := 4, cells := 0, slots := 0, locals := 95 })).room s m ([.ref (ad 0), .ref (ad (33 + p1)), .int p2] : List Value).toArray below meth c H locs 0 0 (MQ below (QWv 41 (eC ad) ad D T (CA 41 ad sz)) ([.ref (ad 0), .ref (ad (33 + p1)), .int p2] : List Value).toArray s 0 0 (CA 41 ad sz)) (F0 m 2 ls []) := by
    intro n
    induction n with
    | zero => intro _ _ _ _ hm; exact absurd hm (Nat.not_lt_zero _)
    | succ n ih2 =>
      intro res2 v3_2 S_2 hI2 hm2 hG hex2 H locs w ls hl
      obtain ⟨hok, i2_1⟩ := id hI2
      have okf0 := hok.1
      have okf1 := hok.2.1
      have okf2 := hok.2.2.1
      have okf3 := hok.2.2.2.1
      have okf4 := hok.2.2.2.2.1
      have okf5 := hok.2.2.2.2.2
      rw [lp_X3_smellPaper_2] at hG
      refine lv_iload_n hx hb dX3_smellPaper_2 rfl (lv_at hl 3 rfl) ?_
      refine lv_bipush (v := 9) hx hb dX3_smellPaper_3 (by decide) ?_
      refine lv_icmp_ge (tgt := 27) hx hb dX3_smellPaper_5 (by decide) (fun c5 => ?_) (fun c5 => ?_)
      · have t5 : 9 ≤ v3_2.toInt := qt_le c5
        rw [if_pos c5] at hG
        exact hex2 S_2 hok hG.symm _ _ w ls (lv_sub hl [0] rfl)
      · have t5 : v3_2.toInt < 9 := qt_nle c5
        rw [if_neg c5] at hG
        refine lv_aload_n hx hb dX3_smellPaper_8 rfl (lv_at hl 0 rfl) ?_
        refine r_get (C := RX3) (T := TX3) (N := 14) S hK w (k := 0) (by decide) (eC_0 ad _) rfl hinX3 10 (by decide) (List.mem_of_getElem? (i := 1) rfl) rfl dX3_smellPaper_9 ?_
        refine lv_iload_n hx hb dX3_smellPaper_12 rfl (lv_at hl 3 rfl) ?_
        refine lv_aload_n hx hb dX3_smellPaper_13 rfl (lv_at hl 0 rfl) ?_
        refine lv_aload_n hx hb dX3_smellPaper_14 rfl (lv_at hl 1 rfl) ?_
        refine lv_iload_n hx hb dX3_smellPaper_15 rfl (lv_at hl 3 rfl) ?_
        refine lv_iload_n hx hb dX3_smellPaper_16 rfl (lv_at hl 2 rfl) ?_
        refine call0i (va_runV (As := [.ref (ad (33 + p1)), .int v3_2, .int p2]) (rest := [.int v3_2, .ref (ad 5)]) S (c_X3_smellOf l ad D H.size S_2 p1 v3_2 p2 hok hp1 (by omega)) (cwV 3 S.2.2.2.2 gX3_smellPaper_X3_smellOf rfl rfl rfl ⟨rfl, hd_X3_smellOf⟩ ⟨Nat.le_of_ble_eq_true rfl, Nat.le_of_ble_eq_true rfl⟩) (preV hK hN w (k := 0) (by decide) (eC_0 ad _) (q := (RX3, TX3, 14)) rfl) rfl rfl hl.1 rfl (lv_room (Nat.le_of_ble_eq_true rfl)) dX3_smellPaper_17 ⟨Nat.zero_le _, Nat.zero_le _⟩) ?_
        have g20 : vp_in v3_2 9 := vpi (by omega) (by omega)
        refine r_iast (cA := ad 100) (N := 9) S hK w (k := 5) (by decide) (fun f => eC_5 ad f) rfl g20 dX3_smellPaper_20 (fun H locs w => ?_)
        have hok : OkC (u2 S_2 5 (ix v3_2) (f_X3_smellOf S_2 p1 v3_2 p2)) := okC_scr (show scrC 5 by unfold scrC; omega) hok
        have okf0 := hok.1
        have okf1 := hok.2.1
        have okf2 := hok.2.2.1
        have okf3 := hok.2.2.2.1
        have okf4 := hok.2.2.2.2.1
        have okf5 := hok.2.2.2.2.2
        refine lv_iinc (v := (v3_2 + 1)) (lv' := [(3, .int (v3_2 + 1)), (0, .ref (ad 0)), (1, .ref (ad (33 + p1))), (2, .int p2)]) hx hb dX3_smellPaper_21 hl (k := 3) rfl rfl (by decide) rfl (fun ls hl => ?_)
        refine lv_goto (tgt := 2) hx hb dX3_smellPaper_24 (by decide) ?_
        have b3_2 : (v3_2 + 1).toInt = v3_2.toInt + 1 := inc_toInt (by omega) (by omega)
        exact ih2 _ (v3_2 + 1) (u2 S_2 5 (ix v3_2) (f_X3_smellOf S_2 p1 v3_2 p2)) ⟨hok, (by omega)⟩ (by omega) hG hex2 _ _ w ls (lv_sub hl [1, 2, 3, 0] rfl)
  refine L2 200 _ 0 σ ⟨hok, (by omega)⟩ (by omega) rfl (fun S_2e hok hr2 H locs w ls hl => ?_) _ _ w ls (lv_sub hl [1, 2, 3, 0] rfl)
  rw [hr2] at hG
  have okf0 := hok.1
  have okf1 := hok.2.1
  have okf2 := hok.2.2.1
  have okf3 := hok.2.2.2.1
  have okf4 := hok.2.2.2.2.1
  have okf5 := hok.2.2.2.2.2
  exact endWv S hr hlocks w hG dX3_smellPaper_27
set_option maxHeartbeats 4000000 in
set_option maxRecDepth 100000 in
theorem c_X3_smeltFrom (l : Launch) (ad : Nat → Nat) (D : va_G) (sz : Nat) (σ : St) (p1 : Int32) (p2 : Int32) (hx1 : 0 ≤ p1.toInt ∧ p1.toInt < 8) (hx2 : 0 ≤ p2.toInt ∧ p2.toInt < 8) : Met l yX3_smeltFrom wsX3_smeltFrom ({ frames := 1, cells := 0, slots := 0, locals := 21 }) (PreW 41 (eC ad) ad D (tyC ad) σ sz ([.ref (ad 0), .int p1, .int p2] : List Value)) (Q0i (f_X3_smeltFrom σ p1 p2)) 0 0 N0 := by
  generalize hG : f_X3_smeltFrom σ p1 p2 = T
  refine headW (cc := cX3_smeltFrom) (maxL := 6) (ret := (some .int)) ([.ref (ad 0), .int p1, .int p2] : List Value) (by decide) rfl (Nat.le_of_ble_eq_true rfl) ?_
  intro p e s m below meth c S hr hlocks hK hN hsz w ls hl
  have S : CallFix p m c cX3_smeltFrom 6 s ([.ref (ad 0), .int p1, .int p2] : List Value).toArray wsX3_smeltFrom RX3 := S
  have hx := S.1
  have hb := S.2.1
  have z0 : (0 : Int32).toInt = 0 := by decide
  have z1 : (1 : Int32).toInt = 1 := by decide
  have hl : lv_has ls 6 [(0, .ref (ad 0)), (1, .int p1), (2, .int p2)] := hl
  have hinX3 : ∀ w ∈ wsX30, w ∈ wsX3_smeltFrom := (fun _ h => List.mem_cons_of_mem _ (List.mem_append_left _ (List.mem_append_right _ h)))
  have hinX2 : ∀ w ∈ wsX20, w ∈ wsX3_smeltFrom := (fun _ h => List.mem_cons_of_mem _ (List.mem_append_right _ h))
  rw [f_X3_smeltFrom] at hG
  refine lv_iconst (v := 0) hx hb dX3_smeltFrom_0 (by decide) ?_
  refine lv_istore_n (lv' := [(3, .int 0), (0, .ref (ad 0)), (1, .int p1), (2, .int p2)]) hx hb dX3_smeltFrom_1 rfl hl (by decide) rfl (fun ls hl => ?_)
  refine lv_iconst (v := 0) hx hb dX3_smeltFrom_2 (by decide) ?_
  refine lv_istore (lv' := [(4, .int 0), (3, .int 0), (0, .ref (ad 0)), (1, .int p1), (2, .int p2)]) hx hb dX3_smeltFrom_3 hl (by decide) rfl (fun ls hl => ?_)
  have L5 : ∀ (n : Nat) (res5 : Int32), ∀ (v3_5 : Int32), ∀ (v4_5 : Int32), ((0 ≤ v4_5.toInt ∧ v4_5.toInt ≤ 9)) → (9 - v4_5.toInt).toNat < n → (lp_X3_smeltFrom_5 σ p1 p2 n v3_5 v4_5) = res5 → (∀ (v3_5e : Int32), res5 = v3_5e → ∀ ls : Array Slot, lv_has ls 6 [(0, .ref (ad 0)), (3, .int v3_5e)] → W p l e (headSpec wsX3_smeltFrom ({ frames := 1, cells := 0, slots := 0, locals := 21 })).room s m ([.ref (ad 0), .int p1, .int p2] : List Value).toArray below meth c s.heap [] 0 0 (MQ below (Q0i T) ([.ref (ad 0), .int p1, .int p2] : List Value).toArray s 0 0 N0) (F0 m 63 ls [])) → ∀ ls : Array Slot, lv_has ls 6 [(0, .ref (ad 0)), (1, .int p1), (2, .int p2), (3, .int v3_5), (4, .int v4_5)] → W p l e (headSpec wsX3_smeltFrom ({ frames := 1, cells := 0, slots := 0, locals := 21 })).room s m ([.ref (ad 0), .int p1, .int p2] : List Value).toArray below meth c s.heap [] 0 0 (MQ below (Q0i T) ([.ref (ad 0), .int p1, .int p2] : List Value).toArray s 0 0 N0) (F0 m 5 ls []) := by
    intro n
    induction n with
    | zero => intro _ _ _ _ hm; exact absurd hm (Nat.not_lt_zero _)
    | succ n ih5 =>
      intro res5 v3_5 v4_5 hI5 hm5 hG hex5 ls hl
      have i5_0 := hI5
      rw [lp_X3_smeltFrom_5] at hG
      refine lv_iload hx hb dX3_smeltFrom_5 (lv_at hl 4 rfl) ?_
      refine lv_bipush (v := 9) hx hb dX3_smeltFrom_7 (by decide) ?_
      refine lv_icmp_ge (tgt := 63) hx hb dX3_smeltFrom_9 (by decide) (fun c9 => ?_) (fun c9 => ?_)
      · have t9 : 9 ≤ v4_5.toInt := qt_le c9
        rw [if_pos c9] at hG
        exact hex5 v3_5 hG.symm ls (lv_sub hl [0, 3] rfl)
      · have t9 : v4_5.toInt < 9 := qt_nle c9
        rw [if_neg c9] at hG
        refine lv_aload_n hx hb dX3_smeltFrom_12 rfl (lv_at hl 0 rfl) ?_
        refine r_get (C := RX3) (T := TX3) (N := 14) S hK w (k := 0) (by decide) (eC_0 ad _) rfl hinX3 1 (by decide) (List.mem_of_getElem? (i := 1) rfl) rfl dX3_smeltFrom_13 ?_
        refine lv_iload_n hx hb dX3_smeltFrom_16 rfl (lv_at hl 1 rfl) ?_
        have g17 : vp_in p1 8 := vpi (by omega) (by omega)
        refine r_aald S hK w (k := 2) (by decide) (eC_2 ad _) (t0 := 2) rfl g17 dX3_smeltFrom_17 ?_
        refine r_getN (C := RX2) (T := TX2) (N := 3) S hK hN w (k := (17 + (ix p1))) (Nat.lt_of_lt_of_le (Nat.add_lt_add_left (vpl g17) 17) (by decide)) (eC_sg ad (vpl g17) _) rfl hinX2 2 (by decide) 5 rfl rfl dX3_smeltFrom_18 ?_
        refine lv_iload hx hb dX3_smeltFrom_21 (lv_at hl 4 rfl) ?_
        have g23 : vp_in v4_5 9 := vpi (by omega) (by omega)
        refine r_iald (cA := ad 100) (N := 9) S hK w (k := (25 + (ix p1))) (Nat.lt_of_lt_of_le (Nat.add_lt_add_left (vpl g17) 25) (by decide)) (fun f => eC_st ad (vpl g17) f) rfl g23 dX3_smeltFrom_23 ?_
        refine lv_aload_n hx hb dX3_smeltFrom_24 rfl (lv_at hl 0 rfl) ?_
        refine r_get (C := RX3) (T := TX3) (N := 14) S hK w (k := 0) (by decide) (eC_0 ad _) rfl hinX3 1 (by decide) (List.mem_of_getElem? (i := 1) rfl) rfl dX3_smeltFrom_25 ?_
        refine lv_iload_n hx hb dX3_smeltFrom_28 rfl (lv_at hl 2 rfl) ?_
        have g29 : vp_in p2 8 := vpi (by omega) (by omega)
        refine r_aald S hK w (k := 2) (by decide) (eC_2 ad _) (t0 := 2) rfl g29 dX3_smeltFrom_29 ?_
        refine r_getN (C := RX2) (T := TX2) (N := 3) S hK hN w (k := (17 + (ix p2))) (Nat.lt_of_lt_of_le (Nat.add_lt_add_left (vpl g29) 17) (by decide)) (eC_sg ad (vpl g29) _) rfl hinX2 2 (by decide) 5 rfl rfl dX3_smeltFrom_30 ?_
        refine lv_iload hx hb dX3_smeltFrom_33 (lv_at hl 4 rfl) ?_
        have g35 : vp_in v4_5 9 := vpi (by omega) (by omega)
        refine r_iald (cA := ad 100) (N := 9) S hK w (k := (25 + (ix p2))) (Nat.lt_of_lt_of_le (Nat.add_lt_add_left (vpl g29) 25) (by decide)) (fun f => eC_st ad (vpl g29) f) rfl g35 dX3_smeltFrom_35 ?_
        refine lv_iadd hx hb dX3_smeltFrom_36 ?_
        refine lv_istore (lv' := [(5, .int ((σ (25 + (ix p1)) (ix v4_5)) + (σ (25 + (ix p2)) (ix v4_5)))), (0, .ref (ad 0)), (1, .int p1), (2, .int p2), (3, .int v3_5), (4, .int v4_5)]) hx hb dX3_smeltFrom_37 hl (by decide) rfl (fun ls hl => ?_)
        refine lv_iload_n hx hb dX3_smeltFrom_39 rfl (lv_at hl 4 rfl) ?_
        refine lv_aload_n hx hb dX3_smeltFrom_40 rfl (lv_at hl 1 rfl) ?_
        refine r_get (C := RX3) (T := TX3) (N := 14) S hK w (k := 0) (by decide) (eC_0 ad _) rfl hinX3 10 (by decide) (List.mem_of_getElem? (i := 2) rfl) rfl dX3_smeltFrom_41 ?_
        refine lv_iload hx hb dX3_smeltFrom_44 (lv_at hl 5 rfl) ?_
        have g46 : vp_in v4_5 9 := vpi (by omega) (by omega)
        refine r_iald (cA := ad 100) (N := 9) S hK w (k := 5) (by decide) (fun f => eC_5 ad f) rfl g46 dX3_smeltFrom_46 ?_
        refine lv_iconst (v := 4) hx hb dX3_smeltFrom_47 (by decide) ?_
        refine lv_iload hx hb dX3_smeltFrom_48 (lv_at hl 0 rfl) ?_
        refine lv_imul hx hb dX3_smeltFrom_50 ?_
        refine lv_isub hx hb dX3_smeltFrom_51 ?_
        refine r_abs S hl.1 (List.mem_of_getElem? (i := 3) rfl) (List.mem_of_getElem? (i := 4) rfl) (List.mem_of_getElem? (i := 5) rfl) (List.mem_of_getElem? (i := 6) rfl) ⟨Nat.le_of_ble_eq_true rfl, Nat.le_of_ble_eq_true rfl, Nat.zero_le _, Nat.zero_le _⟩ dX3_smeltFrom_52 ?_
        refine lv_iadd hx hb dX3_smeltFrom_55 ?_
        refine lv_istore_n (lv' := [(3, .int (v3_5 + (jabs ((σ 5 (ix v4_5)) - (4 * ((σ (25 + (ix p1)) (ix v4_5)) + (σ (25 + (ix p2)) (ix v4_5)))))))), (5, .int ((σ (25 + (ix p1)) (ix v4_5)) + (σ (25 + (ix p2)) (ix v4_5)))), (0, .ref (ad 0)), (1, .int p1), (2, .int p2), (4, .int v4_5)]) hx hb dX3_smeltFrom_56 rfl hl (by decide) rfl (fun ls hl => ?_)
        refine lv_iinc (v := (v4_5 + 1)) (lv' := [(4, .int (v4_5 + 1)), (3, .int (v3_5 + (jabs ((σ 5 (ix v4_5)) - (4 * ((σ (25 + (ix p1)) (ix v4_5)) + (σ (25 + (ix p2)) (ix v4_5)))))))), (5, .int ((σ (25 + (ix p1)) (ix v4_5)) + (σ (25 + (ix p2)) (ix v4_5)))), (0, .ref (ad 0)), (1, .int p1), (2, .int p2)]) hx hb dX3_smeltFrom_57 hl (k := 5) rfl rfl (by decide) rfl (fun ls hl => ?_)
        refine lv_goto (tgt := 5) hx hb dX3_smeltFrom_60 (by decide) ?_
        have b4_5 : (v4_5 + 1).toInt = v4_5.toInt + 1 := inc_toInt (by omega) (by omega)
        exact ih5 _ (v3_5 + (jabs ((σ 5 (ix v4_5)) - (4 * ((σ (25 + (ix p1)) (ix v4_5)) + (σ (25 + (ix p2)) (ix v4_5))))))) (v4_5 + 1) (by omega) (by omega) hG hex5 ls (lv_sub hl [3, 4, 5, 1, 0] rfl)
  refine L5 200 _ 0 0 (by omega) (by omega) rfl (fun v3_5e hr5 ls hl => ?_) ls (lv_sub hl [2, 3, 4, 1, 0] rfl)
  rw [hr5] at hG
  refine lv_iload_n hx hb dX3_smeltFrom_63 rfl (lv_at hl 1 rfl) ?_
  exact end0i S hr hlocks hG dX3_smeltFrom_64
set_option maxHeartbeats 4000000 in
set_option maxRecDepth 100000 in
theorem c_X3_far (l : Launch) (ad : Nat → Nat) (D : va_G) (sz : Nat) (σ : St) (p1 : Int32) (p2 : Int32) (p3 : Int32) (hok : OkC σ) : Met l yX3_far wsX3_far ({ frames := 5, cells := 0, slots := 0, locals := 118 }) (PreW 41 (eC ad) ad D (tyC ad) σ sz ([.ref (ad 0), .int p1, .int p2, .int p3] : List Value)) (QWi 41 (eC ad) ad D (f_X3_far σ p1 p2 p3) (CA 41 ad sz)) 0 0 (CA 41 ad sz) := by
  generalize hG : f_X3_far σ p1 p2 p3 = T
  refine headW (cc := cX3_far) (maxL := 4) (ret := (some .int)) ([.ref (ad 0), .int p1, .int p2, .int p3] : List Value) (by decide) rfl (Nat.le_of_ble_eq_true rfl) ?_
  intro p e s m below meth c S hr hlocks hK hN hsz w ls hl
  have S : CallFix p m c cX3_far 4 s ([.ref (ad 0), .int p1, .int p2, .int p3] : List Value).toArray wsX3_far RX3 := S
  have hx := S.1
  have hb := S.2.1
  have z0 : (0 : Int32).toInt = 0 := by decide
  have z1 : (1 : Int32).toInt = 1 := by decide
  have hl : lv_has ls 4 [(0, .ref (ad 0)), (1, .int p1), (2, .int p2), (3, .int p3)] := hl
  have hinX3 : ∀ w ∈ wsX30, w ∈ wsX3_far := (fun _ h => List.mem_cons_of_mem _ (List.mem_append_left _ (List.mem_append_left _ (List.mem_append_right _ h))))
  have hinX0 : ∀ w ∈ wsX00, w ∈ wsX3_far := (fun _ h => List.mem_cons_of_mem _ (List.mem_append_left _ (List.mem_append_right _ h)))
  have hinX2 : ∀ w ∈ wsX20, w ∈ wsX3_far := (fun _ h => List.mem_cons_of_mem _ (List.mem_append_right _ h))
  have okf0 := hok.1
  have okf1 := hok.2.1
  have okf2 := hok.2.2.1
  have okf3 := hok.2.2.2.1
  have okf4 := hok.2.2.2.2.1
  have okf5 := hok.2.2.2.2.2
  rw [f_X3_far] at hG
  refine lv_aload_n hx hb dX3_far_0 rfl (lv_at hl 0 rfl) ?_
  refine lv_iload_n hx hb dX3_far_1 rfl (lv_at hl 1 rfl) ?_
  refine call0i (va_runV (As := [.int p1]) (rest := []) S (c_X3_isPaper l ad D s.heap.size σ p1) (cwV 1 S.2.2.2.2 gX3_far_X3_isPaper rfl rfl rfl ⟨rfl, hd_X3_isPaper⟩ ⟨Nat.le_of_ble_eq_true rfl, Nat.le_of_ble_eq_true rfl⟩) (preV hK hN w (k := 0) (by decide) (eC_0 ad _) (q := (RX3, TX3, 14)) rfl) rfl rfl hl.1 rfl (lv_room (Nat.le_of_ble_eq_true rfl)) dX3_far_2 ⟨Nat.zero_le _, Nat.zero_le _⟩) ?_
  refine lv_if_eq (tgt := 17) hx hb dX3_far_5 (by decide) (fun c5 => ?_) (fun c5 => ?_)
  · rw [if_pos c5] at hG
    refine lv_iconst (v := (-1)) hx hb dX3_far_17 (by decide) ?_
    exact endWi S hr hlocks w hG dX3_far_18
  · have t5 := bf_isPaper_n c5
    rw [if_neg c5] at hG
    refine lv_aload_n hx hb dX3_far_8 rfl (lv_at hl 0 rfl) ?_
    refine lv_iload_n hx hb dX3_far_9 rfl (lv_at hl 2 rfl) ?_
    refine lv_iload_n hx hb dX3_far_10 rfl (lv_at hl 3 rfl) ?_
    refine call0i (va_runV (As := [.int p2, .int p3]) (rest := []) S (c_X3_areTwoSigns l ad D s.heap.size σ p2 p3) (cwV 2 S.2.2.2.2 gX3_far_X3_areTwoSigns rfl rfl rfl ⟨rfl, hd_X3_areTwoSigns⟩ ⟨Nat.le_of_ble_eq_true rfl, Nat.le_of_ble_eq_true rfl⟩) (preV hK hN w (k := 0) (by decide) (eC_0 ad _) (q := (RX3, TX3, 14)) rfl) rfl rfl hl.1 rfl (lv_room (Nat.le_of_ble_eq_true rfl)) dX3_far_11 ⟨Nat.zero_le _, Nat.zero_le _⟩) ?_
    refine lv_if_ne (tgt := 19) hx hb dX3_far_14 (by decide) (fun c14 => ?_) (fun c14 => ?_)
    · have t14 := bf_areTwoSigns_n c14
      rw [if_neg c14] at hG
      refine lv_aload_n hx hb dX3_far_19 rfl (lv_at hl 0 rfl) ?_
      refine lv_aload_n hx hb dX3_far_20 rfl (lv_at hl 0 rfl) ?_
      refine r_get (C := RX3) (T := TX3) (N := 14) S hK w (k := 0) (by decide) (eC_0 ad _) rfl hinX3 2 (by decide) (List.mem_of_getElem? (i := 1) rfl) rfl dX3_far_21 ?_
      refine lv_iload_n hx hb dX3_far_24 rfl (lv_at hl 1 rfl) ?_
      have g25 : vp_in p1 8 := vpi (by omega) (by omega)
      refine r_aald S hK w (k := 3) (by decide) (eC_3 ad _) (t0 := 3) rfl g25 dX3_far_25 ?_
      refine lv_aload_n hx hb dX3_far_26 rfl (lv_at hl 0 rfl) ?_
      refine r_get (C := RX3) (T := TX3) (N := 14) S hK w (k := 0) (by decide) (eC_0 ad _) rfl hinX3 6 (by decide) (List.mem_of_getElem? (i := 2) rfl) rfl dX3_far_27 ?_
      refine callWv w (va_runV (As := [.ref (ad (33 + (ix p1))), .int (σ 0 6)]) (rest := []) S (c_X3_smellPaper l ad D s.heap.size σ (ix p1) (σ 0 6) hok (vpl g25)) (cwV 2 S.2.2.2.2 gX3_far_X3_smellPaper rfl rfl rfl ⟨rfl, hd_X3_smellPaper⟩ ⟨Nat.le_of_ble_eq_true rfl, Nat.le_of_ble_eq_true rfl⟩) (preV hK hN w (k := 0) (by decide) (eC_0 ad _) (q := (RX3, TX3, 14)) rfl) rfl rfl hl.1 rfl (lv_room (Nat.le_of_ble_eq_true rfl)) dX3_far_30 ⟨Nat.zero_le _, Nat.zero_le _⟩) (fun H locs w => ?_)
      have hok : OkC (f_X3_smellPaper σ (ix p1) (σ 0 6)) := ok_X3_smellPaper hok
      have okf0 := hok.1
      have okf1 := hok.2.1
      have okf2 := hok.2.2.1
      have okf3 := hok.2.2.2.1
      have okf4 := hok.2.2.2.2.1
      have okf5 := hok.2.2.2.2.2
      refine lv_aload_n hx hb dX3_far_33 rfl (lv_at hl 0 rfl) ?_
      refine lv_iload_n hx hb dX3_far_34 rfl (lv_at hl 2 rfl) ?_
      refine lv_iload_n hx hb dX3_far_35 rfl (lv_at hl 3 rfl) ?_
      refine call0i (va_runV (As := [.int p2, .int p3]) (rest := []) S (c_X3_smeltFrom l ad D H.size (f_X3_smellPaper σ (ix p1) (σ 0 6)) p2 p3 (by omega) (by omega)) (cwV 2 S.2.2.2.2 gX3_far_X3_smeltFrom rfl rfl rfl ⟨rfl, hd_X3_smeltFrom⟩ ⟨Nat.le_of_ble_eq_true rfl, Nat.le_of_ble_eq_true rfl⟩) (preV hK hN w (k := 0) (by decide) (eC_0 ad _) (q := (RX3, TX3, 14)) rfl) rfl rfl hl.1 rfl (lv_room (Nat.le_of_ble_eq_true rfl)) dX3_far_36 ⟨Nat.zero_le _, Nat.zero_le _⟩) ?_
      exact endWi S hr hlocks w hG dX3_far_39
    · rw [if_pos c14] at hG
      refine lv_iconst (v := (-1)) hx hb dX3_far_17 (by decide) ?_
      exact endWi S hr hlocks w hG dX3_far_18
set_option maxHeartbeats 4000000 in
set_option maxRecDepth 100000 in
theorem c_X3_pairNumber (l : Launch) (p1 : Int32) (p2 : Int32) : Met l yX3_pairNumber wsX3_pairNumber ({ frames := 0, cells := 0, slots := 0, locals := 0 }) (Pre0 ([.int p1, .int p2] : List Value)) (Q0i (f_X3_pairNumber p1 p2)) 0 0 N0 := by
  generalize hG : f_X3_pairNumber p1 p2 = T
  refine head0 (cc := cX3_pairNumber) (maxL := 2) (ret := (some .int)) ([.int p1, .int p2] : List Value) (by decide) rfl (Nat.le_of_ble_eq_true rfl) ?_
  intro p e s m below meth c S hr hlocks ls hl
  have S : CallFix p m c cX3_pairNumber 2 s ([.int p1, .int p2] : List Value).toArray wsX3_pairNumber RX3 := S
  have hx := S.1
  have hb := S.2.1
  have z0 : (0 : Int32).toInt = 0 := by decide
  have z1 : (1 : Int32).toInt = 1 := by decide
  have hl : lv_has ls 2 [(0, .int p1), (1, .int p2)] := hl
  rw [f_X3_pairNumber] at hG
  refine lv_bipush (v := 10) hx hb dX3_pairNumber_0 (by decide) ?_
  refine lv_iload_n hx hb dX3_pairNumber_2 rfl (lv_at hl 0 rfl) ?_
  refine lv_imul hx hb dX3_pairNumber_3 ?_
  refine lv_iload_n hx hb dX3_pairNumber_4 rfl (lv_at hl 1 rfl) ?_
  refine lv_iadd hx hb dX3_pairNumber_5 ?_
  exact end0i S hr hlocks hG dX3_pairNumber_6
set_option maxHeartbeats 4000000 in
set_option maxRecDepth 100000 in
theorem c_X3_fits (l : Launch) (ad : Nat → Nat) (D : va_G) (sz : Nat) (σ : St) (p1 : Int32) (p2 : Int32) (hok : OkC σ) : Met l yX3_fits wsX3_fits ({ frames := 5, cells := 0, slots := 0, locals := 118 }) (PreW 41 (eC ad) ad D (tyC ad) σ sz ([.ref (ad 0), .int p1, .int p2] : List Value)) (QWi 41 (eC ad) ad D (f_X3_fits σ p1 p2) (CA 41 ad sz)) 0 0 (CA 41 ad sz) := by
  generalize hG : f_X3_fits σ p1 p2 = T
  refine headW (cc := cX3_fits) (maxL := 9) (ret := (some .int)) ([.ref (ad 0), .int p1, .int p2] : List Value) (by decide) rfl (Nat.le_of_ble_eq_true rfl) ?_
  intro p e s m below meth c S hr hlocks hK hN hsz w ls hl
  have S : CallFix p m c cX3_fits 9 s ([.ref (ad 0), .int p1, .int p2] : List Value).toArray wsX3_fits RX3 := S
  have hx := S.1
  have hb := S.2.1
  have z0 : (0 : Int32).toInt = 0 := by decide
  have z1 : (1 : Int32).toInt = 1 := by decide
  have hl : lv_has ls 9 [(0, .ref (ad 0)), (1, .int p1), (2, .int p2)] := hl
  have hinX3 : ∀ w ∈ wsX30, w ∈ wsX3_fits := (fun _ h => List.mem_cons_of_mem _ (List.mem_append_left _ (List.mem_append_left _ (List.mem_append_right _ h))))
  have hinX0 : ∀ w ∈ wsX00, w ∈ wsX3_fits := (fun _ h => List.mem_cons_of_mem _ (List.mem_append_left _ (List.mem_append_right _ h)))
  have hinX2 : ∀ w ∈ wsX20, w ∈ wsX3_fits := (fun _ h => List.mem_cons_of_mem _ (List.mem_append_right _ h))
  have okf0 := hok.1
  have okf1 := hok.2.1
  have okf2 := hok.2.2.1
  have okf3 := hok.2.2.2.1
  have okf4 := hok.2.2.2.2.1
  have okf5 := hok.2.2.2.2.2
  rw [f_X3_fits] at hG
  refine lv_aload_n hx hb dX3_fits_0 rfl (lv_at hl 0 rfl) ?_
  refine lv_iload_n hx hb dX3_fits_1 rfl (lv_at hl 1 rfl) ?_
  refine call0i (va_runV (As := [.int p1]) (rest := []) S (c_X3_isPaper l ad D s.heap.size σ p1) (cwV 1 S.2.2.2.2 gX3_fits_X3_isPaper rfl rfl rfl ⟨rfl, hd_X3_isPaper⟩ ⟨Nat.le_of_ble_eq_true rfl, Nat.le_of_ble_eq_true rfl⟩) (preV hK hN w (k := 0) (by decide) (eC_0 ad _) (q := (RX3, TX3, 14)) rfl) rfl rfl hl.1 rfl (lv_room (Nat.le_of_ble_eq_true rfl)) dX3_fits_2 ⟨Nat.zero_le _, Nat.zero_le _⟩) ?_
  refine lv_if_ne (tgt := 10) hx hb dX3_fits_5 (by decide) (fun c5 => ?_) (fun c5 => ?_)
  · have t5 := bf_isPaper_n c5
    rw [if_neg c5] at hG
    refine lv_iload_n hx hb dX3_fits_10 rfl (lv_at hl 2 rfl) ?_
    refine lv_if_lt (tgt := 19) hx hb dX3_fits_11 (by decide) (fun c11 => ?_) (fun c11 => ?_)
    · have t11 : p2.toInt < 0 := qt_lt c11
      rw [if_pos c11] at hG
      refine lv_bipush (v := (-2)) hx hb dX3_fits_19 (by decide) ?_
      exact endWi S hr hlocks w hG dX3_fits_21
    · have t11 : 0 ≤ p2.toInt := qt_nlt c11
      rw [if_neg c11] at hG
      refine lv_iload_n hx hb dX3_fits_14 rfl (lv_at hl 2 rfl) ?_
      refine lv_iconst (v := 2) hx hb dX3_fits_15 (by decide) ?_
      refine lv_icmp_le (tgt := 22) hx hb dX3_fits_16 (by decide) (fun c16 => ?_) (fun c16 => ?_)
      · have t16 : p2.toInt ≤ 2 := qt_le c16
        rw [if_pos c16] at hG
        refine lv_aload_n hx hb dX3_fits_22 rfl (lv_at hl 0 rfl) ?_
        refine lv_aload_n hx hb dX3_fits_23 rfl (lv_at hl 0 rfl) ?_
        refine r_get (C := RX3) (T := TX3) (N := 14) S hK w (k := 0) (by decide) (eC_0 ad _) rfl hinX3 2 (by decide) (List.mem_of_getElem? (i := 1) rfl) rfl dX3_fits_24 ?_
        refine lv_iload_n hx hb dX3_fits_27 rfl (lv_at hl 1 rfl) ?_
        have g28 : vp_in p1 8 := vpi (by omega) (by omega)
        refine r_aald S hK w (k := 3) (by decide) (eC_3 ad _) (t0 := 3) rfl g28 dX3_fits_28 ?_
        refine lv_aload_n hx hb dX3_fits_29 rfl (lv_at hl 0 rfl) ?_
        refine r_get (C := RX3) (T := TX3) (N := 14) S hK w (k := 0) (by decide) (eC_0 ad _) rfl hinX3 6 (by decide) (List.mem_of_getElem? (i := 2) rfl) rfl dX3_fits_30 ?_
        refine callWv w (va_runV (As := [.ref (ad (33 + (ix p1))), .int (σ 0 6)]) (rest := []) S (c_X3_smellPaper l ad D s.heap.size σ (ix p1) (σ 0 6) hok (vpl g28)) (cwV 2 S.2.2.2.2 gX3_fits_X3_smellPaper rfl rfl rfl ⟨rfl, hd_X3_smellPaper⟩ ⟨Nat.le_of_ble_eq_true rfl, Nat.le_of_ble_eq_true rfl⟩) (preV hK hN w (k := 0) (by decide) (eC_0 ad _) (q := (RX3, TX3, 14)) rfl) rfl rfl hl.1 rfl (lv_room (Nat.le_of_ble_eq_true rfl)) dX3_fits_33 ⟨Nat.zero_le _, Nat.zero_le _⟩) (fun H locs w => ?_)
        have hok : OkC (f_X3_smellPaper σ (ix p1) (σ 0 6)) := ok_X3_smellPaper hok
        have okf0 := hok.1
        have okf1 := hok.2.1
        have okf2 := hok.2.2.1
        have okf3 := hok.2.2.2.1
        have okf4 := hok.2.2.2.2.1
        have okf5 := hok.2.2.2.2.2
        refine lv_iconst (v := 0) hx hb dX3_fits_36 (by decide) ?_
        refine lv_istore_n (lv' := [(3, .int 0), (0, .ref (ad 0)), (1, .int p1), (2, .int p2)]) hx hb dX3_fits_37 rfl hl (by decide) rfl (fun ls hl => ?_)
        refine lv_iconst (v := 0) hx hb dX3_fits_38 (by decide) ?_
        refine lv_istore (lv' := [(4, .int 0), (3, .int 0), (0, .ref (ad 0)), (1, .int p1), (2, .int p2)]) hx hb dX3_fits_39 hl (by decide) rfl (fun ls hl => ?_)
        refine lv_ldc hx hb S.2.2.2.1 (S.2.2.2.2 _ (List.mem_of_getElem? (i := 3) rfl)) dX3_fits_41 ?_
        refine lv_istore (lv' := [(5, .int 2147483647), (4, .int 0), (3, .int 0), (0, .ref (ad 0)), (1, .int p1), (2, .int p2)]) hx hb dX3_fits_43 hl (by decide) rfl (fun ls hl => ?_)
        refine lv_iconst (v := 0) hx hb dX3_fits_45 (by decide) ?_
        refine lv_istore (lv' := [(6, .int 0), (5, .int 2147483647), (4, .int 0), (3, .int 0), (0, .ref (ad 0)), (1, .int p1), (2, .int p2)]) hx hb dX3_fits_46 hl (by decide) rfl (fun ls hl => ?_)
        have L48 : ∀ (n : Nat) (res48 : Int32 × Int32 × Int32), ∀ (v3_48 : Int32), ∀ (v4_48 : Int32), ∀ (v5_48 : Int32), ∀ (v6_48 : Int32), ((0 ≤ v6_48.toInt ∧ v6_48.toInt ≤ 8)) → (8 - v6_48.toInt).toNat < n → (lp_X3_fits_48 (f_X3_smellPaper σ (ix p1) (σ 0 6)) p2 n v3_48 v4_48 v5_48 v6_48) = res48 → (∀ (v3_48e : Int32), ∀ (v4_48e : Int32), ∀ (v5_48e : Int32), res48 = (v3_48e, v4_48e, v5_48e) → ∀ (H : Heap) (locs : List Loc), CW 41 (eC ad) ad D (CA 41 ad sz) s.heap (f_X3_smellPaper σ (ix p1) (σ 0 6)) H locs → ∀ ls : Array Slot, lv_has ls 9 [(0, .ref (ad 0)), (2, .int p2), (3, .int v3_48e), (4, .int v4_48e), (5, .int v5_48e)] → W p l e (headSpec wsX3_fits ({ frames := 5, cells := 0, slots := 0, locals := 118 })).room s m ([.ref (ad 0), .int p1, .int p2] : List Value).toArray below meth c H locs 0 0 (MQ below (QWi 41 (eC ad) ad D T (CA 41 ad sz)) ([.ref (ad 0), .int p1, .int p2] : List Value).toArray s 0 0 (CA 41 ad sz)) (F0 m 131 ls [])) → ∀ (H : Heap) (locs : List Loc), CW 41 (eC ad) ad D (CA 41 ad sz) s.heap (f_X3_smellPaper σ (ix p1) (σ 0 6)) H locs → ∀ ls : Array Slot, lv_has ls 9 [(0, .ref (ad 0)), (2, .int p2), (3, .int v3_48), (4, .int v4_48), (5, .int v5_48), (6, .int v6_48)] → W p l e (headSpec wsX3_fits ({ frames := 5, cells := 0, slots := 0, locals := 118 })).room s m ([.ref (ad 0), .int p1, .int p2] : List Value).toArray below meth c H locs 0 0 (MQ below (QWi 41 (eC ad) ad D T (CA 41 ad sz)) ([.ref (ad 0), .int p1, .int p2] : List Value).toArray s 0 0 (CA 41 ad sz)) (F0 m 48 ls []) := by
          intro n
          induction n with
          | zero => intro _ _ _ _ _ _ hm; exact absurd hm (Nat.not_lt_zero _)
          | succ n ih48 =>
            intro res48 v3_48 v4_48 v5_48 v6_48 hI48 hm48 hG hex48 H locs w ls hl
            have i48_0 := hI48
            rw [lp_X3_fits_48] at hG
            refine lv_iload hx hb dX3_fits_48 (lv_at hl 5 rfl) ?_
            refine lv_aload_n hx hb dX3_fits_50 rfl (lv_at hl 0 rfl) ?_
            refine r_get (C := RX3) (T := TX3) (N := 14) S hK w (k := 0) (by decide) (eC_0 ad _) rfl hinX3 4 (by decide) (List.mem_of_getElem? (i := 4) rfl) rfl dX3_fits_51 ?_
            refine lv_icmp_ge (tgt := 131) hx hb dX3_fits_54 (by decide) (fun c54 => ?_) (fun c54 => ?_)
            · have t54 : ((f_X3_smellPaper σ (ix p1) (σ 0 6)) 0 4).toInt ≤ v6_48.toInt := qt_le c54
              rw [if_pos c54] at hG
              exact hex48 v3_48 v4_48 v5_48 hG.symm _ _ w ls (lv_sub hl [0, 1, 2, 3, 4] rfl)
            · have t54 : v6_48.toInt < ((f_X3_smellPaper σ (ix p1) (σ 0 6)) 0 4).toInt := qt_nle c54
              rw [if_neg c54] at hG
              refine lv_iload hx hb dX3_fits_57 (lv_at hl 5 rfl) ?_
              refine lv_iconst (v := 1) hx hb dX3_fits_59 (by decide) ?_
              refine lv_iadd hx hb dX3_fits_60 ?_
              refine lv_istore (lv' := [(7, .int (v6_48 + 1)), (0, .ref (ad 0)), (2, .int p2), (3, .int v3_48), (4, .int v4_48), (5, .int v5_48), (6, .int v6_48)]) hx hb dX3_fits_61 hl (by decide) rfl (fun ls hl => ?_)
              have L63 : ∀ (n : Nat) (res63 : Int32 × Int32 × Int32), ∀ (v3_63 : Int32), ∀ (v4_63 : Int32), ∀ (v5_63 : Int32), ∀ (v7_63 : Int32), ((0 ≤ v7_63.toInt ∧ v7_63.toInt ≤ 8)) → (8 - v7_63.toInt).toNat < n → (lp_X3_fits_63 (f_X3_smellPaper σ (ix p1) (σ 0 6)) p2 v6_48 n v3_63 v4_63 v5_63 v7_63) = res63 → (∀ (v3_63e : Int32), ∀ (v4_63e : Int32), ∀ (v5_63e : Int32), res63 = (v3_63e, v4_63e, v5_63e) → ∀ (H : Heap) (locs : List Loc), CW 41 (eC ad) ad D (CA 41 ad sz) s.heap (f_X3_smellPaper σ (ix p1) (σ 0 6)) H locs → ∀ ls : Array Slot, lv_has ls 9 [(0, .ref (ad 0)), (2, .int p2), (3, .int v3_63e), (4, .int v4_63e), (5, .int v5_63e), (6, .int v6_48)] → W p l e (headSpec wsX3_fits ({ frames := 5, cells := 0, slots := 0, locals := 118 })).room s m ([.ref (ad 0), .int p1, .int p2] : List Value).toArray below meth c H locs 0 0 (MQ below (QWi 41 (eC ad) ad D T (CA 41 ad sz)) ([.ref (ad 0), .int p1, .int p2] : List Value).toArray s 0 0 (CA 41 ad sz)) (F0 m 125 ls [])) → ∀ (H : Heap) (locs : List Loc), CW 41 (eC ad) ad D (CA 41 ad sz) s.heap (f_X3_smellPaper σ (ix p1) (σ 0 6)) H locs → ∀ ls : Array Slot, lv_has ls 9 [(0, .ref (ad 0)), (2, .int p2), (3, .int v3_63), (4, .int v4_63), (5, .int v5_63), (6, .int v6_48), (7, .int v7_63)] → W p l e (headSpec wsX3_fits ({ frames := 5, cells := 0, slots := 0, locals := 118 })).room s m ([.ref (ad 0), .int p1, .int p2] : List Value).toArray below meth c H locs 0 0 (MQ below (QWi 41 (eC ad) ad D T (CA 41 ad sz)) ([.ref (ad 0), .int p1, .int p2] : List Value).toArray s 0 0 (CA 41 ad sz)) (F0 m 63 ls []) := by
                intro n
                induction n with
                | zero => intro _ _ _ _ _ _ hm; exact absurd hm (Nat.not_lt_zero _)
                | succ n ih63 =>
                  intro res63 v3_63 v4_63 v5_63 v7_63 hI63 hm63 hG hex63 H locs w ls hl
                  have i63_0 := hI63
                  rw [lp_X3_fits_63] at hG
                  refine lv_iload hx hb dX3_fits_63 (lv_at hl 6 rfl) ?_
                  refine lv_aload_n hx hb dX3_fits_65 rfl (lv_at hl 0 rfl) ?_
                  refine r_get (C := RX3) (T := TX3) (N := 14) S hK w (k := 0) (by decide) (eC_0 ad _) rfl hinX3 4 (by decide) (List.mem_of_getElem? (i := 4) rfl) rfl dX3_fits_66 ?_
                  refine lv_icmp_ge (tgt := 125) hx hb dX3_fits_69 (by decide) (fun c69 => ?_) (fun c69 => ?_)
                  · have t69 : ((f_X3_smellPaper σ (ix p1) (σ 0 6)) 0 4).toInt ≤ v7_63.toInt := qt_le c69
                    rw [if_pos c69] at hG
                    exact hex63 v3_63 v4_63 v5_63 hG.symm _ _ w ls (lv_sub hl [0, 1, 2, 3, 4, 5] rfl)
                  · have t69 : v7_63.toInt < ((f_X3_smellPaper σ (ix p1) (σ 0 6)) 0 4).toInt := qt_nle c69
                    rw [if_neg c69] at hG
                    refine lv_aload_n hx hb dX3_fits_72 rfl (lv_at hl 0 rfl) ?_
                    refine lv_iload hx hb dX3_fits_73 (lv_at hl 5 rfl) ?_
                    refine lv_iload hx hb dX3_fits_75 (lv_at hl 6 rfl) ?_
                    refine call0i (va_runV (As := [.int v6_48, .int v7_63]) (rest := []) S (c_X3_smeltFrom l ad D H.size (f_X3_smellPaper σ (ix p1) (σ 0 6)) v6_48 v7_63 (by omega) (by omega)) (cwV 2 S.2.2.2.2 gX3_fits_X3_smeltFrom rfl rfl rfl ⟨rfl, hd_X3_smeltFrom⟩ ⟨Nat.le_of_ble_eq_true rfl, Nat.le_of_ble_eq_true rfl⟩) (preV hK hN w (k := 0) (by decide) (eC_0 ad _) (q := (RX3, TX3, 14)) rfl) rfl rfl hl.1 rfl (lv_room (Nat.le_of_ble_eq_true rfl)) dX3_fits_77 ⟨Nat.zero_le _, Nat.zero_le _⟩) ?_
                    refine lv_istore (lv' := [(8, .int (f_X3_smeltFrom (f_X3_smellPaper σ (ix p1) (σ 0 6)) v6_48 v7_63)), (0, .ref (ad 0)), (2, .int p2), (3, .int v3_63), (4, .int v4_63), (5, .int v5_63), (6, .int v6_48), (7, .int v7_63)]) hx hb dX3_fits_80 hl (by decide) rfl (fun ls hl => ?_)
                    refine lv_iload_n hx hb dX3_fits_82 rfl (lv_at hl 3 rfl) ?_
                    refine lv_iload hx hb dX3_fits_83 (lv_at hl 0 rfl) ?_
                    refine lv_aload_n hx hb dX3_fits_85 rfl (lv_at hl 1 rfl) ?_
                    refine r_get (C := RX3) (T := TX3) (N := 14) S hK w (k := 0) (by decide) (eC_0 ad _) rfl hinX3 7 (by decide) (List.mem_of_getElem? (i := 5) rfl) rfl dX3_fits_86 ?_
                    have J89_97 : ∀ (k1_89_97 : Int32), (if v5_63 ≤ (f_X3_smeltFrom (f_X3_smellPaper σ (ix p1) (σ 0 6)) v6_48 v7_63) then (lp_X3_fits_63 (f_X3_smellPaper σ (ix p1) (σ 0 6)) p2 v6_48 n (v3_63 + k1_89_97) v4_63 v5_63 (v7_63 + 1)) else (lp_X3_fits_63 (f_X3_smellPaper σ (ix p1) (σ 0 6)) p2 v6_48 n (v3_63 + k1_89_97) (f_X3_pairNumber v6_48 v7_63) (f_X3_smeltFrom (f_X3_smellPaper σ (ix p1) (σ 0 6)) v6_48 v7_63) (v7_63 + 1))) = res63 → ∀ (H : Heap) (locs : List Loc), CW 41 (eC ad) ad D (CA 41 ad sz) s.heap (f_X3_smellPaper σ (ix p1) (σ 0 6)) H locs → ∀ ls : Array Slot, lv_has ls 9 [(0, .ref (ad 0)), (2, .int p2), (4, .int v4_63), (5, .int v5_63), (6, .int v6_48), (7, .int v7_63), (8, .int (f_X3_smeltFrom (f_X3_smellPaper σ (ix p1) (σ 0 6)) v6_48 v7_63))] → W p l e (headSpec wsX3_fits ({ frames := 5, cells := 0, slots := 0, locals := 118 })).room s m ([.ref (ad 0), .int p1, .int p2] : List Value).toArray below meth c H locs 0 0 (MQ below (QWi 41 (eC ad) ad D T (CA 41 ad sz)) ([.ref (ad 0), .int p1, .int p2] : List Value).toArray s 0 0 (CA 41 ad sz)) (F0 m 97 ls [.int k1_89_97, .int v3_63]) := by
                      intro k1_89_97 hG H locs w ls hl
                      refine lv_iadd hx hb dX3_fits_97 ?_
                      refine lv_istore_n (lv' := [(3, .int (v3_63 + k1_89_97)), (0, .ref (ad 0)), (2, .int p2), (4, .int v4_63), (5, .int v5_63), (6, .int v6_48), (7, .int v7_63), (8, .int (f_X3_smeltFrom (f_X3_smellPaper σ (ix p1) (σ 0 6)) v6_48 v7_63))]) hx hb dX3_fits_98 rfl hl (by decide) rfl (fun ls hl => ?_)
                      refine lv_iload hx hb dX3_fits_99 (lv_at hl 7 rfl) ?_
                      refine lv_iload hx hb dX3_fits_101 (lv_at hl 4 rfl) ?_
                      refine lv_icmp_ge (tgt := 119) hx hb dX3_fits_103 (by decide) (fun c103 => ?_) (fun c103 => ?_)
                      · have t103 : v5_63.toInt ≤ (f_X3_smeltFrom (f_X3_smellPaper σ (ix p1) (σ 0 6)) v6_48 v7_63).toInt := qt_le c103
                        rw [if_pos c103] at hG
                        refine lv_iinc (v := (v7_63 + 1)) (lv' := [(7, .int (v7_63 + 1)), (3, .int (v3_63 + k1_89_97)), (0, .ref (ad 0)), (2, .int p2), (4, .int v4_63), (5, .int v5_63), (6, .int v6_48), (8, .int (f_X3_smeltFrom (f_X3_smellPaper σ (ix p1) (σ 0 6)) v6_48 v7_63))]) hx hb dX3_fits_119 hl (k := 6) rfl rfl (by decide) rfl (fun ls hl => ?_)
                        refine lv_goto (tgt := 63) hx hb dX3_fits_122 (by decide) ?_
                        have b7_63 : (v7_63 + 1).toInt = v7_63.toInt + 1 := inc_toInt (by omega) (by omega)
                        exact ih63 _ (v3_63 + k1_89_97) v4_63 v5_63 (v7_63 + 1) (by omega) (by omega) hG hex63 _ _ w ls (lv_sub hl [2, 3, 1, 4, 5, 6, 0] rfl)
                      · have t103 : (f_X3_smeltFrom (f_X3_smellPaper σ (ix p1) (σ 0 6)) v6_48 v7_63).toInt < v5_63.toInt := qt_nle c103
                        rw [if_neg c103] at hG
                        refine lv_iload hx hb dX3_fits_106 (lv_at hl 7 rfl) ?_
                        refine lv_istore (lv' := [(5, .int (f_X3_smeltFrom (f_X3_smellPaper σ (ix p1) (σ 0 6)) v6_48 v7_63)), (3, .int (v3_63 + k1_89_97)), (0, .ref (ad 0)), (2, .int p2), (4, .int v4_63), (6, .int v6_48), (7, .int v7_63), (8, .int (f_X3_smeltFrom (f_X3_smellPaper σ (ix p1) (σ 0 6)) v6_48 v7_63))]) hx hb dX3_fits_108 hl (by decide) rfl (fun ls hl => ?_)
                        refine lv_iload hx hb dX3_fits_110 (lv_at hl 5 rfl) ?_
                        refine lv_iload hx hb dX3_fits_112 (lv_at hl 6 rfl) ?_
                        refine call0i (va_runS (As := [.int v6_48, .int v7_63]) (rest := []) S (c_X3_pairNumber l v6_48 v7_63) (va_cwS 2 S.2.2.2.2 gX3_fits_X3_pairNumber rfl rfl rfl hd_X3_pairNumber ⟨Nat.le_of_ble_eq_true rfl, Nat.le_of_ble_eq_true rfl⟩) pre0S rfl rfl hl.1 rfl (lv_room (Nat.le_of_ble_eq_true rfl)) dX3_fits_114 ⟨Nat.zero_le _, Nat.zero_le _⟩) ?_
                        refine lv_istore (lv' := [(4, .int (f_X3_pairNumber v6_48 v7_63)), (5, .int (f_X3_smeltFrom (f_X3_smellPaper σ (ix p1) (σ 0 6)) v6_48 v7_63)), (3, .int (v3_63 + k1_89_97)), (0, .ref (ad 0)), (2, .int p2), (6, .int v6_48), (7, .int v7_63), (8, .int (f_X3_smeltFrom (f_X3_smellPaper σ (ix p1) (σ 0 6)) v6_48 v7_63))]) hx hb dX3_fits_117 hl (by decide) rfl (fun ls hl => ?_)
                        refine lv_iinc (v := (v7_63 + 1)) (lv' := [(7, .int (v7_63 + 1)), (4, .int (f_X3_pairNumber v6_48 v7_63)), (5, .int (f_X3_smeltFrom (f_X3_smellPaper σ (ix p1) (σ 0 6)) v6_48 v7_63)), (3, .int (v3_63 + k1_89_97)), (0, .ref (ad 0)), (2, .int p2), (6, .int v6_48), (8, .int (f_X3_smeltFrom (f_X3_smellPaper σ (ix p1) (σ 0 6)) v6_48 v7_63))]) hx hb dX3_fits_119 hl (k := 6) rfl rfl (by decide) rfl (fun ls hl => ?_)
                        refine lv_goto (tgt := 63) hx hb dX3_fits_122 (by decide) ?_
                        have b7_63 : (v7_63 + 1).toInt = v7_63.toInt + 1 := inc_toInt (by omega) (by omega)
                        exact ih63 _ (v3_63 + k1_89_97) (f_X3_pairNumber v6_48 v7_63) (f_X3_smeltFrom (f_X3_smellPaper σ (ix p1) (σ 0 6)) v6_48 v7_63) (v7_63 + 1) (by omega) (by omega) hG hex63 _ _ w ls (lv_sub hl [4, 5, 3, 1, 2, 6, 0] rfl)
                    refine lv_icmp_gt (tgt := 96) hx hb dX3_fits_89 (by decide) (fun c89 => ?_) (fun c89 => ?_)
                    · have t89 : ((f_X3_smellPaper σ (ix p1) (σ 0 6)) 0 7).toInt < (f_X3_smeltFrom (f_X3_smellPaper σ (ix p1) (σ 0 6)) v6_48 v7_63).toInt := qt_lt c89
                      simp only [if_pos c89] at hG
                      refine lv_iconst (v := 0) hx hb dX3_fits_96 (by decide) ?_
                      exact J89_97 0 hG _ _ w ls (lv_sub hl [1, 2, 4, 5, 6, 7, 0] rfl)
                    · have t89 : (f_X3_smeltFrom (f_X3_smellPaper σ (ix p1) (σ 0 6)) v6_48 v7_63).toInt ≤ ((f_X3_smellPaper σ (ix p1) (σ 0 6)) 0 7).toInt := qt_nlt c89
                      simp only [if_neg c89] at hG
                      refine lv_iconst (v := 1) hx hb dX3_fits_92 (by decide) ?_
                      refine lv_goto (tgt := 97) hx hb dX3_fits_93 (by decide) ?_
                      exact J89_97 1 hG _ _ w ls (lv_sub hl [1, 2, 4, 5, 6, 7, 0] rfl)
              have e63 := inc_toInt (a := v6_48) (by omega) (by omega)
              refine L63 200 _ v3_48 v4_48 v5_48 (v6_48 + 1) (by omega) (by omega) rfl (fun v3_63e v4_63e v5_63e hr63 H locs w ls hl => ?_) _ _ w ls (lv_sub hl [1, 2, 3, 4, 5, 6, 0] rfl)
              rw [hr63] at hG
              dsimp only at hG
              refine lv_iinc (v := (v6_48 + 1)) (lv' := [(6, .int (v6_48 + 1)), (0, .ref (ad 0)), (2, .int p2), (3, .int v3_63e), (4, .int v4_63e), (5, .int v5_63e)]) hx hb dX3_fits_125 hl (k := 5) rfl rfl (by decide) rfl (fun ls hl => ?_)
              refine lv_goto (tgt := 48) hx hb dX3_fits_128 (by decide) ?_
              have b6_48 : (v6_48 + 1).toInt = v6_48.toInt + 1 := inc_toInt (by omega) (by omega)
              exact ih48 _ v3_63e v4_63e v5_63e (v6_48 + 1) (by omega) (by omega) hG hex48 _ _ w ls (lv_sub hl [1, 2, 3, 4, 5, 0] rfl)
        refine L48 200 _ 0 0 2147483647 0 (by omega) (by omega) rfl (fun v3_48e v4_48e v5_48e hr48 H locs w ls hl => ?_) _ _ w ls (lv_sub hl [4, 6, 3, 2, 1, 0] rfl)
        rw [hr48] at hG
        dsimp only at hG
        refine lv_iload_n hx hb dX3_fits_131 rfl (lv_at hl 1 rfl) ?_
        refine lv_if_ne (tgt := 137) hx hb dX3_fits_132 (by decide) (fun c132 => ?_) (fun c132 => ?_)
        · have t132 : p2.toInt ≠ 0 := qt_ne c132
          rw [if_neg c132] at hG
          refine lv_iload_n hx hb dX3_fits_137 rfl (lv_at hl 1 rfl) ?_
          refine lv_iconst (v := 1) hx hb dX3_fits_138 (by decide) ?_
          refine lv_icmp_ne (tgt := 147) hx hb dX3_fits_139 (by decide) (fun c139 => ?_) (fun c139 => ?_)
          · have t139 : p2.toInt ≠ 1 := qt_ne c139
            rw [if_neg c139] at hG
            refine lv_iload hx hb dX3_fits_147 (lv_at hl 4 rfl) ?_
            exact endWi S hr hlocks w hG dX3_fits_149
          · have t139 : p2.toInt = 1 := qt_eq c139
            rw [if_pos c139] at hG
            refine lv_iload hx hb dX3_fits_142 (lv_at hl 3 rfl) ?_
            refine lv_goto (tgt := 149) hx hb dX3_fits_144 (by decide) ?_
            exact endWi S hr hlocks w hG dX3_fits_149
        · have t132 : p2.toInt = 0 := qt_eq c132
          rw [if_pos c132] at hG
          refine lv_iload_n hx hb dX3_fits_135 rfl (lv_at hl 2 rfl) ?_
          exact endWi S hr hlocks w hG dX3_fits_136
      · have t16 : 2 < p2.toInt := qt_nle c16
        rw [if_neg c16] at hG
        refine lv_bipush (v := (-2)) hx hb dX3_fits_19 (by decide) ?_
        exact endWi S hr hlocks w hG dX3_fits_21
  · rw [if_pos c5] at hG
    refine lv_iconst (v := (-1)) hx hb dX3_fits_8 (by decide) ?_
    exact endWi S hr hlocks w hG dX3_fits_9
set_option maxHeartbeats 4000000 in
set_option maxRecDepth 100000 in
theorem c_X3_isProved (l : Launch) (ad : Nat → Nat) (D : va_G) (sz : Nat) (σ : St) (p1 : Nat) (p2 : Int32) (hok : OkC σ) (hp1 : p1 < 8) : Met l yX3_isProved wsX3_isProved ({ frames := 5, cells := 0, slots := 0, locals := 118 }) (PreW 41 (eC ad) ad D (tyC ad) σ sz ([.ref (ad 0), .ref (ad (33 + p1)), .int p2] : List Value)) (QWi 41 (eC ad) ad D (f_X3_isProved σ p1 p2) (CA 41 ad sz)) 0 0 (CA 41 ad sz) := by
  generalize hG : f_X3_isProved σ p1 p2 = T
  refine headW (cc := cX3_isProved) (maxL := 9) (ret := (some .boolean)) ([.ref (ad 0), .ref (ad (33 + p1)), .int p2] : List Value) (by decide) rfl (Nat.le_of_ble_eq_true rfl) ?_
  intro p e s m below meth c S hr hlocks hK hN hsz w ls hl
  have S : CallFix p m c cX3_isProved 9 s ([.ref (ad 0), .ref (ad (33 + p1)), .int p2] : List Value).toArray wsX3_isProved RX3 := S
  have hx := S.1
  have hb := S.2.1
  have z0 : (0 : Int32).toInt = 0 := by decide
  have z1 : (1 : Int32).toInt = 1 := by decide
  have hl : lv_has ls 9 [(0, .ref (ad 0)), (1, .ref (ad (33 + p1))), (2, .int p2)] := hl
  have hinX0 : ∀ w ∈ wsX00, w ∈ wsX3_isProved := (fun _ h => List.mem_cons_of_mem _ (List.mem_append_left _ (List.mem_append_left _ (List.mem_append_right _ h))))
  have hinX3 : ∀ w ∈ wsX30, w ∈ wsX3_isProved := (fun _ h => List.mem_cons_of_mem _ (List.mem_append_left _ (List.mem_append_right _ h)))
  have hinX2 : ∀ w ∈ wsX20, w ∈ wsX3_isProved := (fun _ h => List.mem_cons_of_mem _ (List.mem_append_right _ h))
  have okf0 := hok.1
  have okf1 := hok.2.1
  have okf2 := hok.2.2.1
  have okf3 := hok.2.2.2.1
  have okf4 := hok.2.2.2.2.1
  have okf5 := hok.2.2.2.2.2
  rw [f_X3_isProved] at hG
  refine lv_aload_n hx hb dX3_isProved_0 rfl (lv_at hl 0 rfl) ?_
  refine lv_aload_n hx hb dX3_isProved_1 rfl (lv_at hl 1 rfl) ?_
  refine lv_iload_n hx hb dX3_isProved_2 rfl (lv_at hl 2 rfl) ?_
  refine callWv w (va_runV (As := [.ref (ad (33 + p1)), .int p2]) (rest := []) S (c_X3_smellPaper l ad D s.heap.size σ p1 p2 hok hp1) (cwV 2 S.2.2.2.2 gX3_isProved_X3_smellPaper rfl rfl rfl ⟨rfl, hd_X3_smellPaper⟩ ⟨Nat.le_of_ble_eq_true rfl, Nat.le_of_ble_eq_true rfl⟩) (preV hK hN w (k := 0) (by decide) (eC_0 ad _) (q := (RX3, TX3, 14)) rfl) rfl rfl hl.1 rfl (lv_room (Nat.le_of_ble_eq_true rfl)) dX3_isProved_3 ⟨Nat.zero_le _, Nat.zero_le _⟩) (fun H locs w => ?_)
  have hok : OkC (f_X3_smellPaper σ p1 p2) := ok_X3_smellPaper hok
  have okf0 := hok.1
  have okf1 := hok.2.1
  have okf2 := hok.2.2.1
  have okf3 := hok.2.2.2.1
  have okf4 := hok.2.2.2.2.1
  have okf5 := hok.2.2.2.2.2
  have f0 := vp_in_iff.mp (okf4 p1 hp1).1
  have f1 := vp_in_iff.mp (okf4 p1 hp1).2
  refine lv_aload_n hx hb dX3_isProved_6 rfl (lv_at hl 0 rfl) ?_
  refine lv_aload_n hx hb dX3_isProved_7 rfl (lv_at hl 1 rfl) ?_
  refine r_getN (C := RX0) (T := TX0) (N := 6) S hK hN w (k := (33 + p1)) (Nat.lt_of_lt_of_le (Nat.add_lt_add_left hp1 33) (by decide)) (eC_pa ad hp1 _) rfl hinX0 0 (by decide) 6 rfl rfl dX3_isProved_8 ?_
  refine lv_aload_n hx hb dX3_isProved_11 rfl (lv_at hl 1 rfl) ?_
  refine r_getN (C := RX0) (T := TX0) (N := 6) S hK hN w (k := (33 + p1)) (Nat.lt_of_lt_of_le (Nat.add_lt_add_left hp1 33) (by decide)) (eC_pa ad hp1 _) rfl hinX0 1 (by decide) 7 rfl rfl dX3_isProved_12 ?_
  refine call0i (va_runV (As := [.int ((f_X3_smellPaper σ p1 p2) (33 + p1) 0), .int ((f_X3_smellPaper σ p1 p2) (33 + p1) 1)]) (rest := []) S (c_X3_smeltFrom l ad D H.size (f_X3_smellPaper σ p1 p2) ((f_X3_smellPaper σ p1 p2) (33 + p1) 0) ((f_X3_smellPaper σ p1 p2) (33 + p1) 1) (by omega) (by omega)) (cwV 2 S.2.2.2.2 gX3_isProved_X3_smeltFrom rfl rfl rfl ⟨rfl, hd_X3_smeltFrom⟩ ⟨Nat.le_of_ble_eq_true rfl, Nat.le_of_ble_eq_true rfl⟩) (preV hK hN w (k := 0) (by decide) (eC_0 ad _) (q := (RX3, TX3, 14)) rfl) rfl rfl hl.1 rfl (lv_room (Nat.le_of_ble_eq_true rfl)) dX3_isProved_15 ⟨Nat.zero_le _, Nat.zero_le _⟩) ?_
  refine lv_istore_n (lv' := [(3, .int (f_X3_smeltFrom (f_X3_smellPaper σ p1 p2) ((f_X3_smellPaper σ p1 p2) (33 + p1) 0) ((f_X3_smellPaper σ p1 p2) (33 + p1) 1))), (0, .ref (ad 0)), (1, .ref (ad (33 + p1))), (2, .int p2)]) hx hb dX3_isProved_18 rfl hl (by decide) rfl (fun ls hl => ?_)
  refine lv_iload_n hx hb dX3_isProved_19 rfl (lv_at hl 0 rfl) ?_
  refine lv_aload_n hx hb dX3_isProved_20 rfl (lv_at hl 1 rfl) ?_
  refine r_get (C := RX3) (T := TX3) (N := 14) S hK w (k := 0) (by decide) (eC_0 ad _) rfl hinX3 7 (by decide) (List.mem_of_getElem? (i := 1) rfl) rfl dX3_isProved_21 ?_
  refine lv_icmp_le (tgt := 29) hx hb dX3_isProved_24 (by decide) (fun c24 => ?_) (fun c24 => ?_)
  · have t24 : (f_X3_smeltFrom (f_X3_smellPaper σ p1 p2) ((f_X3_smellPaper σ p1 p2) (33 + p1) 0) ((f_X3_smellPaper σ p1 p2) (33 + p1) 1)).toInt ≤ ((f_X3_smellPaper σ p1 p2) 0 7).toInt := qt_le c24
    rw [if_pos c24] at hG
    refine lv_aload_n hx hb dX3_isProved_29 rfl (lv_at hl 2 rfl) ?_
    refine r_getN (C := RX0) (T := TX0) (N := 6) S hK hN w (k := (33 + p1)) (Nat.lt_of_lt_of_le (Nat.add_lt_add_left hp1 33) (by decide)) (eC_pa ad hp1 _) rfl hinX0 0 (by decide) 6 rfl rfl dX3_isProved_30 ?_
    refine lv_aload_n hx hb dX3_isProved_33 rfl (lv_at hl 2 rfl) ?_
    refine r_getN (C := RX0) (T := TX0) (N := 6) S hK hN w (k := (33 + p1)) (Nat.lt_of_lt_of_le (Nat.add_lt_add_left hp1 33) (by decide)) (eC_pa ad hp1 _) rfl hinX0 1 (by decide) 7 rfl rfl dX3_isProved_34 ?_
    refine r_min S hl.1 (List.mem_of_getElem? (i := 2) rfl) (List.mem_of_getElem? (i := 3) rfl) (List.mem_of_getElem? (i := 4) rfl) (List.mem_of_getElem? (i := 5) rfl) ⟨Nat.le_of_ble_eq_true rfl, Nat.le_of_ble_eq_true rfl, Nat.zero_le _, Nat.zero_le _⟩ dX3_isProved_37 ?_
    refine lv_istore (lv' := [(4, .int (jmin ((f_X3_smellPaper σ p1 p2) (33 + p1) 0) ((f_X3_smellPaper σ p1 p2) (33 + p1) 1))), (3, .int (f_X3_smeltFrom (f_X3_smellPaper σ p1 p2) ((f_X3_smellPaper σ p1 p2) (33 + p1) 0) ((f_X3_smellPaper σ p1 p2) (33 + p1) 1))), (0, .ref (ad 0)), (1, .ref (ad (33 + p1))), (2, .int p2)]) hx hb dX3_isProved_40 hl (by decide) rfl (fun ls hl => ?_)
    refine lv_aload_n hx hb dX3_isProved_42 rfl (lv_at hl 3 rfl) ?_
    refine r_getN (C := RX0) (T := TX0) (N := 6) S hK hN w (k := (33 + p1)) (Nat.lt_of_lt_of_le (Nat.add_lt_add_left hp1 33) (by decide)) (eC_pa ad hp1 _) rfl hinX0 0 (by decide) 6 rfl rfl dX3_isProved_43 ?_
    refine lv_aload_n hx hb dX3_isProved_46 rfl (lv_at hl 3 rfl) ?_
    refine r_getN (C := RX0) (T := TX0) (N := 6) S hK hN w (k := (33 + p1)) (Nat.lt_of_lt_of_le (Nat.add_lt_add_left hp1 33) (by decide)) (eC_pa ad hp1 _) rfl hinX0 1 (by decide) 7 rfl rfl dX3_isProved_47 ?_
    refine r_max S hl.1 (List.mem_of_getElem? (i := 6) rfl) (List.mem_of_getElem? (i := 7) rfl) (List.mem_of_getElem? (i := 4) rfl) (List.mem_of_getElem? (i := 8) rfl) ⟨Nat.le_of_ble_eq_true rfl, Nat.le_of_ble_eq_true rfl, Nat.zero_le _, Nat.zero_le _⟩ dX3_isProved_50 ?_
    refine lv_istore (lv' := [(5, .int (jmax ((f_X3_smellPaper σ p1 p2) (33 + p1) 0) ((f_X3_smellPaper σ p1 p2) (33 + p1) 1))), (4, .int (jmin ((f_X3_smellPaper σ p1 p2) (33 + p1) 0) ((f_X3_smellPaper σ p1 p2) (33 + p1) 1))), (3, .int (f_X3_smeltFrom (f_X3_smellPaper σ p1 p2) ((f_X3_smellPaper σ p1 p2) (33 + p1) 0) ((f_X3_smellPaper σ p1 p2) (33 + p1) 1))), (0, .ref (ad 0)), (1, .ref (ad (33 + p1))), (2, .int p2)]) hx hb dX3_isProved_53 hl (by decide) rfl (fun ls hl => ?_)
    refine lv_iconst (v := 0) hx hb dX3_isProved_55 (by decide) ?_
    refine lv_istore (lv' := [(6, .int 0), (5, .int (jmax ((f_X3_smellPaper σ p1 p2) (33 + p1) 0) ((f_X3_smellPaper σ p1 p2) (33 + p1) 1))), (4, .int (jmin ((f_X3_smellPaper σ p1 p2) (33 + p1) 0) ((f_X3_smellPaper σ p1 p2) (33 + p1) 1))), (3, .int (f_X3_smeltFrom (f_X3_smellPaper σ p1 p2) ((f_X3_smellPaper σ p1 p2) (33 + p1) 0) ((f_X3_smellPaper σ p1 p2) (33 + p1) 1))), (0, .ref (ad 0)), (1, .ref (ad (33 + p1))), (2, .int p2)]) hx hb dX3_isProved_56 hl (by decide) rfl (fun ls hl => ?_)
    have L58 : ∀ (n : Nat) (res58 : (Int32 × St) ⊕ (Unit)), ∀ (v6_58 : Int32), ((0 ≤ v6_58.toInt ∧ v6_58.toInt ≤ 8)) → (8 - v6_58.toInt).toNat < n → (lp_X3_isProved_58 (f_X3_smellPaper σ p1 p2) (f_X3_smeltFrom (f_X3_smellPaper σ p1 p2) ((f_X3_smellPaper σ p1 p2) (33 + p1) 0) ((f_X3_smellPaper σ p1 p2) (33 + p1) 1)) (jmin ((f_X3_smellPaper σ p1 p2) (33 + p1) 0) ((f_X3_smellPaper σ p1 p2) (33 + p1) 1)) (jmax ((f_X3_smellPaper σ p1 p2) (33 + p1) 0) ((f_X3_smellPaper σ p1 p2) (33 + p1) 1)) n v6_58) = res58 → (∀ r : Int32 × St, res58 = Sum.inl r → r = T) → (res58 = Sum.inr () → ∀ (H : Heap) (locs : List Loc), CW 41 (eC ad) ad D (CA 41 ad sz) s.heap (f_X3_smellPaper σ p1 p2) H locs → ∀ ls : Array Slot, lv_has ls 9 [(0, .ref (ad 0))] → W p l e (headSpec wsX3_isProved ({ frames := 5, cells := 0, slots := 0, locals := 118 })).room s m ([.ref (ad 0), .ref (ad (33 + p1)), .int p2] : List Value).toArray below meth c H locs 0 0 (MQ below (QWi 41 (eC ad) ad D T (CA 41 ad sz)) ([.ref (ad 0), .ref (ad (33 + p1)), .int p2] : List Value).toArray s 0 0 (CA 41 ad sz)) (F0 m 134 ls [])) → ∀ (H : Heap) (locs : List Loc), CW 41 (eC ad) ad D (CA 41 ad sz) s.heap (f_X3_smellPaper σ p1 p2) H locs → ∀ ls : Array Slot, lv_has ls 9 [(0, .ref (ad 0)), (3, .int (f_X3_smeltFrom (f_X3_smellPaper σ p1 p2) ((f_X3_smellPaper σ p1 p2) (33 + p1) 0) ((f_X3_smellPaper σ p1 p2) (33 + p1) 1))), (4, .int (jmin ((f_X3_smellPaper σ p1 p2) (33 + p1) 0) ((f_X3_smellPaper σ p1 p2) (33 + p1) 1))), (5, .int (jmax ((f_X3_smellPaper σ p1 p2) (33 + p1) 0) ((f_X3_smellPaper σ p1 p2) (33 + p1) 1))), (6, .int v6_58)] → W p l e (headSpec wsX3_isProved ({ frames := 5, cells := 0, slots := 0, locals := 118 })).room s m ([.ref (ad 0), .ref (ad (33 + p1)), .int p2] : List Value).toArray below meth c H locs 0 0 (MQ below (QWi 41 (eC ad) ad D T (CA 41 ad sz)) ([.ref (ad 0), .ref (ad (33 + p1)), .int p2] : List Value).toArray s 0 0 (CA 41 ad sz)) (F0 m 58 ls []) := by
      intro n
      induction n with
      | zero => intro _ _ _ hm; exact absurd hm (Nat.not_lt_zero _)
      | succ n ih58 =>
        intro res58 v6_58 hI58 hm58 hG hret58 hex58 H locs w ls hl
        have i58_0 := hI58
        rw [lp_X3_isProved_58] at hG
        refine lv_iload hx hb dX3_isProved_58 (lv_at hl 4 rfl) ?_
        refine lv_aload_n hx hb dX3_isProved_60 rfl (lv_at hl 0 rfl) ?_
        refine r_get (C := RX3) (T := TX3) (N := 14) S hK w (k := 0) (by decide) (eC_0 ad _) rfl hinX3 4 (by decide) (List.mem_of_getElem? (i := 9) rfl) rfl dX3_isProved_61 ?_
        refine lv_icmp_ge (tgt := 134) hx hb dX3_isProved_64 (by decide) (fun c64 => ?_) (fun c64 => ?_)
        · have t64 : ((f_X3_smellPaper σ p1 p2) 0 4).toInt ≤ v6_58.toInt := qt_le c64
          rw [if_pos c64] at hG
          exact hex58  hG.symm _ _ w ls (lv_sub hl [0] rfl)
        · have t64 : v6_58.toInt < ((f_X3_smellPaper σ p1 p2) 0 4).toInt := qt_nle c64
          rw [if_neg c64] at hG
          refine lv_iload hx hb dX3_isProved_67 (lv_at hl 4 rfl) ?_
          refine lv_iconst (v := 1) hx hb dX3_isProved_69 (by decide) ?_
          refine lv_iadd hx hb dX3_isProved_70 ?_
          refine lv_istore (lv' := [(7, .int (v6_58 + 1)), (0, .ref (ad 0)), (3, .int (f_X3_smeltFrom (f_X3_smellPaper σ p1 p2) ((f_X3_smellPaper σ p1 p2) (33 + p1) 0) ((f_X3_smellPaper σ p1 p2) (33 + p1) 1))), (4, .int (jmin ((f_X3_smellPaper σ p1 p2) (33 + p1) 0) ((f_X3_smellPaper σ p1 p2) (33 + p1) 1))), (5, .int (jmax ((f_X3_smellPaper σ p1 p2) (33 + p1) 0) ((f_X3_smellPaper σ p1 p2) (33 + p1) 1))), (6, .int v6_58)]) hx hb dX3_isProved_71 hl (by decide) rfl (fun ls hl => ?_)
          have L73 : ∀ (n : Nat) (res73 : (Int32 × St) ⊕ (Unit)), ∀ (v7_73 : Int32), ((0 ≤ v7_73.toInt ∧ v7_73.toInt ≤ 8)) → (8 - v7_73.toInt).toNat < n → (lp_X3_isProved_73 (f_X3_smellPaper σ p1 p2) (f_X3_smeltFrom (f_X3_smellPaper σ p1 p2) ((f_X3_smellPaper σ p1 p2) (33 + p1) 0) ((f_X3_smellPaper σ p1 p2) (33 + p1) 1)) (jmin ((f_X3_smellPaper σ p1 p2) (33 + p1) 0) ((f_X3_smellPaper σ p1 p2) (33 + p1) 1)) (jmax ((f_X3_smellPaper σ p1 p2) (33 + p1) 0) ((f_X3_smellPaper σ p1 p2) (33 + p1) 1)) v6_58 n v7_73) = res73 → (∀ r : Int32 × St, res73 = Sum.inl r → r = T) → (res73 = Sum.inr () → ∀ (H : Heap) (locs : List Loc), CW 41 (eC ad) ad D (CA 41 ad sz) s.heap (f_X3_smellPaper σ p1 p2) H locs → ∀ ls : Array Slot, lv_has ls 9 [(0, .ref (ad 0)), (3, .int (f_X3_smeltFrom (f_X3_smellPaper σ p1 p2) ((f_X3_smellPaper σ p1 p2) (33 + p1) 0) ((f_X3_smellPaper σ p1 p2) (33 + p1) 1))), (4, .int (jmin ((f_X3_smellPaper σ p1 p2) (33 + p1) 0) ((f_X3_smellPaper σ p1 p2) (33 + p1) 1))), (5, .int (jmax ((f_X3_smellPaper σ p1 p2) (33 + p1) 0) ((f_X3_smellPaper σ p1 p2) (33 + p1) 1))), (6, .int v6_58)] → W p l e (headSpec wsX3_isProved ({ frames := 5, cells := 0, slots := 0, locals := 118 })).room s m ([.ref (ad 0), .ref (ad (33 + p1)), .int p2] : List Value).toArray below meth c H locs 0 0 (MQ below (QWi 41 (eC ad) ad D T (CA 41 ad sz)) ([.ref (ad 0), .ref (ad (33 + p1)), .int p2] : List Value).toArray s 0 0 (CA 41 ad sz)) (F0 m 128 ls [])) → ∀ (H : Heap) (locs : List Loc), CW 41 (eC ad) ad D (CA 41 ad sz) s.heap (f_X3_smellPaper σ p1 p2) H locs → ∀ ls : Array Slot, lv_has ls 9 [(0, .ref (ad 0)), (3, .int (f_X3_smeltFrom (f_X3_smellPaper σ p1 p2) ((f_X3_smellPaper σ p1 p2) (33 + p1) 0) ((f_X3_smellPaper σ p1 p2) (33 + p1) 1))), (4, .int (jmin ((f_X3_smellPaper σ p1 p2) (33 + p1) 0) ((f_X3_smellPaper σ p1 p2) (33 + p1) 1))), (5, .int (jmax ((f_X3_smellPaper σ p1 p2) (33 + p1) 0) ((f_X3_smellPaper σ p1 p2) (33 + p1) 1))), (6, .int v6_58), (7, .int v7_73)] → W p l e (headSpec wsX3_isProved ({ frames := 5, cells := 0, slots := 0, locals := 118 })).room s m ([.ref (ad 0), .ref (ad (33 + p1)), .int p2] : List Value).toArray below meth c H locs 0 0 (MQ below (QWi 41 (eC ad) ad D T (CA 41 ad sz)) ([.ref (ad 0), .ref (ad (33 + p1)), .int p2] : List Value).toArray s 0 0 (CA 41 ad sz)) (F0 m 73 ls []) := by
            intro n
            induction n with
            | zero => intro _ _ _ hm; exact absurd hm (Nat.not_lt_zero _)
            | succ n ih73 =>
              intro res73 v7_73 hI73 hm73 hG hret73 hex73 H locs w ls hl
              have i73_0 := hI73
              rw [lp_X3_isProved_73] at hG
              refine lv_iload hx hb dX3_isProved_73 (lv_at hl 5 rfl) ?_
              refine lv_aload_n hx hb dX3_isProved_75 rfl (lv_at hl 0 rfl) ?_
              refine r_get (C := RX3) (T := TX3) (N := 14) S hK w (k := 0) (by decide) (eC_0 ad _) rfl hinX3 4 (by decide) (List.mem_of_getElem? (i := 9) rfl) rfl dX3_isProved_76 ?_
              refine lv_icmp_ge (tgt := 128) hx hb dX3_isProved_79 (by decide) (fun c79 => ?_) (fun c79 => ?_)
              · have t79 : ((f_X3_smellPaper σ p1 p2) 0 4).toInt ≤ v7_73.toInt := qt_le c79
                rw [if_pos c79] at hG
                exact hex73  hG.symm _ _ w ls (lv_sub hl [0, 1, 2, 3, 4] rfl)
              · have t79 : v7_73.toInt < ((f_X3_smellPaper σ p1 p2) 0 4).toInt := qt_nle c79
                rw [if_neg c79] at hG
                refine lv_iload hx hb dX3_isProved_82 (lv_at hl 4 rfl) ?_
                refine lv_iload hx hb dX3_isProved_84 (lv_at hl 2 rfl) ?_
                have J86_101 : ∀ (k0_86_101 : Int32), (if k0_86_101 = 0 then (if (f_X3_smeltFrom (f_X3_smellPaper σ p1 p2) ((f_X3_smellPaper σ p1 p2) (33 + p1) 0) ((f_X3_smellPaper σ p1 p2) (33 + p1) 1)) < (f_X3_smeltFrom (f_X3_smellPaper σ p1 p2) v6_58 v7_73) then (lp_X3_isProved_73 (f_X3_smellPaper σ p1 p2) (f_X3_smeltFrom (f_X3_smellPaper σ p1 p2) ((f_X3_smellPaper σ p1 p2) (33 + p1) 0) ((f_X3_smellPaper σ p1 p2) (33 + p1) 1)) (jmin ((f_X3_smellPaper σ p1 p2) (33 + p1) 0) ((f_X3_smellPaper σ p1 p2) (33 + p1) 1)) (jmax ((f_X3_smellPaper σ p1 p2) (33 + p1) 0) ((f_X3_smellPaper σ p1 p2) (33 + p1) 1)) v6_58 n (v7_73 + 1)) else (Sum.inl (0, (f_X3_smellPaper σ p1 p2)))) else (lp_X3_isProved_73 (f_X3_smellPaper σ p1 p2) (f_X3_smeltFrom (f_X3_smellPaper σ p1 p2) ((f_X3_smellPaper σ p1 p2) (33 + p1) 0) ((f_X3_smellPaper σ p1 p2) (33 + p1) 1)) (jmin ((f_X3_smellPaper σ p1 p2) (33 + p1) 0) ((f_X3_smellPaper σ p1 p2) (33 + p1) 1)) (jmax ((f_X3_smellPaper σ p1 p2) (33 + p1) 0) ((f_X3_smellPaper σ p1 p2) (33 + p1) 1)) v6_58 n (v7_73 + 1))) = res73 → ∀ (H : Heap) (locs : List Loc), CW 41 (eC ad) ad D (CA 41 ad sz) s.heap (f_X3_smellPaper σ p1 p2) H locs → ∀ ls : Array Slot, lv_has ls 9 [(0, .ref (ad 0)), (3, .int (f_X3_smeltFrom (f_X3_smellPaper σ p1 p2) ((f_X3_smellPaper σ p1 p2) (33 + p1) 0) ((f_X3_smellPaper σ p1 p2) (33 + p1) 1))), (4, .int (jmin ((f_X3_smellPaper σ p1 p2) (33 + p1) 0) ((f_X3_smellPaper σ p1 p2) (33 + p1) 1))), (5, .int (jmax ((f_X3_smellPaper σ p1 p2) (33 + p1) 0) ((f_X3_smellPaper σ p1 p2) (33 + p1) 1))), (6, .int v6_58), (7, .int v7_73)] → W p l e (headSpec wsX3_isProved ({ frames := 5, cells := 0, slots := 0, locals := 118 })).room s m ([.ref (ad 0), .ref (ad (33 + p1)), .int p2] : List Value).toArray below meth c H locs 0 0 (MQ below (QWi 41 (eC ad) ad D T (CA 41 ad sz)) ([.ref (ad 0), .ref (ad (33 + p1)), .int p2] : List Value).toArray s 0 0 (CA 41 ad sz)) (F0 m 101 ls [.int k0_86_101]) := by
                  intro k0_86_101 hG H locs w ls hl
                  refine lv_istore (lv' := [(8, .int k0_86_101), (0, .ref (ad 0)), (3, .int (f_X3_smeltFrom (f_X3_smellPaper σ p1 p2) ((f_X3_smellPaper σ p1 p2) (33 + p1) 0) ((f_X3_smellPaper σ p1 p2) (33 + p1) 1))), (4, .int (jmin ((f_X3_smellPaper σ p1 p2) (33 + p1) 0) ((f_X3_smellPaper σ p1 p2) (33 + p1) 1))), (5, .int (jmax ((f_X3_smellPaper σ p1 p2) (33 + p1) 0) ((f_X3_smellPaper σ p1 p2) (33 + p1) 1))), (6, .int v6_58), (7, .int v7_73)]) hx hb dX3_isProved_101 hl (by decide) rfl (fun ls hl => ?_)
                  refine lv_iload hx hb dX3_isProved_103 (lv_at hl 0 rfl) ?_
                  refine lv_if_ne (tgt := 122) hx hb dX3_isProved_105 (by decide) (fun c105 => ?_) (fun c105 => ?_)
                  · have t105 : k0_86_101.toInt ≠ 0 := qt_ne c105
                    rw [if_neg c105] at hG
                    refine lv_iinc (v := (v7_73 + 1)) (lv' := [(7, .int (v7_73 + 1)), (8, .int k0_86_101), (0, .ref (ad 0)), (3, .int (f_X3_smeltFrom (f_X3_smellPaper σ p1 p2) ((f_X3_smellPaper σ p1 p2) (33 + p1) 0) ((f_X3_smellPaper σ p1 p2) (33 + p1) 1))), (4, .int (jmin ((f_X3_smellPaper σ p1 p2) (33 + p1) 0) ((f_X3_smellPaper σ p1 p2) (33 + p1) 1))), (5, .int (jmax ((f_X3_smellPaper σ p1 p2) (33 + p1) 0) ((f_X3_smellPaper σ p1 p2) (33 + p1) 1))), (6, .int v6_58)]) hx hb dX3_isProved_122 hl (k := 6) rfl rfl (by decide) rfl (fun ls hl => ?_)
                    refine lv_goto (tgt := 73) hx hb dX3_isProved_125 (by decide) ?_
                    have b7_73 : (v7_73 + 1).toInt = v7_73.toInt + 1 := inc_toInt (by omega) (by omega)
                    exact ih73 _ (v7_73 + 1) (by omega) (by omega) hG hret73 hex73 _ _ w ls (lv_sub hl [2, 3, 4, 5, 6, 0] rfl)
                  · have t105 : k0_86_101.toInt = 0 := qt_eq c105
                    rw [if_pos c105] at hG
                    refine lv_aload_n hx hb dX3_isProved_108 rfl (lv_at hl 1 rfl) ?_
                    refine lv_iload hx hb dX3_isProved_109 (lv_at hl 5 rfl) ?_
                    refine lv_iload hx hb dX3_isProved_111 (lv_at hl 6 rfl) ?_
                    refine call0i (va_runV (As := [.int v6_58, .int v7_73]) (rest := []) S (c_X3_smeltFrom l ad D H.size (f_X3_smellPaper σ p1 p2) v6_58 v7_73 (by omega) (by omega)) (cwV 2 S.2.2.2.2 gX3_isProved_X3_smeltFrom rfl rfl rfl ⟨rfl, hd_X3_smeltFrom⟩ ⟨Nat.le_of_ble_eq_true rfl, Nat.le_of_ble_eq_true rfl⟩) (preV hK hN w (k := 0) (by decide) (eC_0 ad _) (q := (RX3, TX3, 14)) rfl) rfl rfl hl.1 rfl (lv_room (Nat.le_of_ble_eq_true rfl)) dX3_isProved_113 ⟨Nat.zero_le _, Nat.zero_le _⟩) ?_
                    refine lv_iload_n hx hb dX3_isProved_116 rfl (lv_at hl 2 rfl) ?_
                    refine lv_icmp_gt (tgt := 122) hx hb dX3_isProved_117 (by decide) (fun c117 => ?_) (fun c117 => ?_)
                    · have t117 : (f_X3_smeltFrom (f_X3_smellPaper σ p1 p2) ((f_X3_smellPaper σ p1 p2) (33 + p1) 0) ((f_X3_smellPaper σ p1 p2) (33 + p1) 1)).toInt < (f_X3_smeltFrom (f_X3_smellPaper σ p1 p2) v6_58 v7_73).toInt := qt_lt c117
                      rw [if_pos c117] at hG
                      refine lv_iinc (v := (v7_73 + 1)) (lv' := [(7, .int (v7_73 + 1)), (8, .int k0_86_101), (0, .ref (ad 0)), (3, .int (f_X3_smeltFrom (f_X3_smellPaper σ p1 p2) ((f_X3_smellPaper σ p1 p2) (33 + p1) 0) ((f_X3_smellPaper σ p1 p2) (33 + p1) 1))), (4, .int (jmin ((f_X3_smellPaper σ p1 p2) (33 + p1) 0) ((f_X3_smellPaper σ p1 p2) (33 + p1) 1))), (5, .int (jmax ((f_X3_smellPaper σ p1 p2) (33 + p1) 0) ((f_X3_smellPaper σ p1 p2) (33 + p1) 1))), (6, .int v6_58)]) hx hb dX3_isProved_122 hl (k := 6) rfl rfl (by decide) rfl (fun ls hl => ?_)
                      refine lv_goto (tgt := 73) hx hb dX3_isProved_125 (by decide) ?_
                      have b7_73 : (v7_73 + 1).toInt = v7_73.toInt + 1 := inc_toInt (by omega) (by omega)
                      exact ih73 _ (v7_73 + 1) (by omega) (by omega) hG hret73 hex73 _ _ w ls (lv_sub hl [2, 3, 4, 5, 6, 0] rfl)
                    · have t117 : (f_X3_smeltFrom (f_X3_smellPaper σ p1 p2) v6_58 v7_73).toInt ≤ (f_X3_smeltFrom (f_X3_smellPaper σ p1 p2) ((f_X3_smellPaper σ p1 p2) (33 + p1) 0) ((f_X3_smellPaper σ p1 p2) (33 + p1) 1)).toInt := qt_nlt c117
                      rw [if_neg c117] at hG
                      refine lv_iconst (v := 0) hx hb dX3_isProved_120 (by decide) ?_
                      exact endWz S hr hlocks w (Or.inl rfl) (hret73 _ hG.symm) dX3_isProved_121
                refine lv_icmp_ne (tgt := 100) hx hb dX3_isProved_86 (by decide) (fun c86 => ?_) (fun c86 => ?_)
                · have t86 : v6_58.toInt ≠ (jmin ((f_X3_smellPaper σ p1 p2) (33 + p1) 0) ((f_X3_smellPaper σ p1 p2) (33 + p1) 1)).toInt := qt_ne c86
                  simp only [if_neg c86] at hG
                  refine lv_iconst (v := 0) hx hb dX3_isProved_100 (by decide) ?_
                  exact J86_101 0 hG _ _ w ls (lv_sub hl [0, 1, 2, 3, 4, 5] rfl)
                · have t86 : v6_58.toInt = (jmin ((f_X3_smellPaper σ p1 p2) (33 + p1) 0) ((f_X3_smellPaper σ p1 p2) (33 + p1) 1)).toInt := qt_eq c86
                  simp only [if_pos c86] at hG
                  refine lv_iload hx hb dX3_isProved_89 (lv_at hl 5 rfl) ?_
                  refine lv_iload hx hb dX3_isProved_91 (lv_at hl 3 rfl) ?_
                  refine lv_icmp_ne (tgt := 100) hx hb dX3_isProved_93 (by decide) (fun c93 => ?_) (fun c93 => ?_)
                  · have t93 : v7_73.toInt ≠ (jmax ((f_X3_smellPaper σ p1 p2) (33 + p1) 0) ((f_X3_smellPaper σ p1 p2) (33 + p1) 1)).toInt := qt_ne c93
                    simp only [if_neg c93] at hG
                    refine lv_iconst (v := 0) hx hb dX3_isProved_100 (by decide) ?_
                    exact J86_101 0 hG _ _ w ls (lv_sub hl [0, 1, 2, 3, 4, 5] rfl)
                  · have t93 : v7_73.toInt = (jmax ((f_X3_smellPaper σ p1 p2) (33 + p1) 0) ((f_X3_smellPaper σ p1 p2) (33 + p1) 1)).toInt := qt_eq c93
                    simp only [if_pos c93] at hG
                    refine lv_iconst (v := 1) hx hb dX3_isProved_96 (by decide) ?_
                    refine lv_goto (tgt := 101) hx hb dX3_isProved_97 (by decide) ?_
                    exact J86_101 1 hG _ _ w ls (lv_sub hl [0, 1, 2, 3, 4, 5] rfl)
          have e73 := inc_toInt (a := v6_58) (by omega) (by omega)
          refine L73 200 _ (v6_58 + 1) (by omega) (by omega) rfl (fun r hr73 => by rw [hr73] at hG; exact hret58 _ hG.symm) (fun hr73 H locs w ls hl => ?_) _ _ w ls (lv_sub hl [1, 2, 3, 4, 5, 0] rfl)
          rw [hr73] at hG
          dsimp only at hG
          refine lv_iinc (v := (v6_58 + 1)) (lv' := [(6, .int (v6_58 + 1)), (0, .ref (ad 0)), (3, .int (f_X3_smeltFrom (f_X3_smellPaper σ p1 p2) ((f_X3_smellPaper σ p1 p2) (33 + p1) 0) ((f_X3_smellPaper σ p1 p2) (33 + p1) 1))), (4, .int (jmin ((f_X3_smellPaper σ p1 p2) (33 + p1) 0) ((f_X3_smellPaper σ p1 p2) (33 + p1) 1))), (5, .int (jmax ((f_X3_smellPaper σ p1 p2) (33 + p1) 0) ((f_X3_smellPaper σ p1 p2) (33 + p1) 1)))]) hx hb dX3_isProved_128 hl (k := 4) rfl rfl (by decide) rfl (fun ls hl => ?_)
          refine lv_goto (tgt := 58) hx hb dX3_isProved_131 (by decide) ?_
          have b6_58 : (v6_58 + 1).toInt = v6_58.toInt + 1 := inc_toInt (by omega) (by omega)
          exact ih58 _ (v6_58 + 1) (by omega) (by omega) hG hret58 hex58 _ _ w ls (lv_sub hl [1, 2, 3, 4, 0] rfl)
    refine L58 200 _ 0 (by omega) (by omega) rfl (fun r hr58 => by rw [hr58] at hG; exact hG) (fun hr58 H locs w ls hl => ?_) _ _ w ls (lv_sub hl [4, 3, 2, 1, 0] rfl)
    rw [hr58] at hG
    dsimp only at hG
    refine lv_iconst (v := 1) hx hb dX3_isProved_134 (by decide) ?_
    exact endWz S hr hlocks w (Or.inr rfl) hG dX3_isProved_135
  · have t24 : ((f_X3_smellPaper σ p1 p2) 0 7).toInt < (f_X3_smeltFrom (f_X3_smellPaper σ p1 p2) ((f_X3_smellPaper σ p1 p2) (33 + p1) 0) ((f_X3_smellPaper σ p1 p2) (33 + p1) 1)).toInt := qt_nle c24
    rw [if_neg c24] at hG
    refine lv_iconst (v := 0) hx hb dX3_isProved_27 (by decide) ?_
    exact endWz S hr hlocks w (Or.inl rfl) hG dX3_isProved_28
set_option maxHeartbeats 4000000 in
set_option maxRecDepth 100000 in
theorem c_X3_proved (l : Launch) (ad : Nat → Nat) (D : va_G) (sz : Nat) (σ : St) (hok : OkC σ) : Met l yX3_proved wsX3_proved ({ frames := 6, cells := 0, slots := 0, locals := 146 }) (PreW 41 (eC ad) ad D (tyC ad) σ sz ([.ref (ad 0)] : List Value)) (QWi 41 (eC ad) ad D (f_X3_proved σ) (CA 41 ad sz)) 0 0 (CA 41 ad sz) := by
  generalize hG : f_X3_proved σ = T
  refine headW (cc := cX3_proved) (maxL := 3) (ret := (some .int)) ([.ref (ad 0)] : List Value) (by decide) rfl (Nat.le_of_ble_eq_true rfl) ?_
  intro p e s m below meth c S hr hlocks hK hN hsz w ls hl
  have S : CallFix p m c cX3_proved 3 s ([.ref (ad 0)] : List Value).toArray wsX3_proved RX3 := S
  have hx := S.1
  have hb := S.2.1
  have z0 : (0 : Int32).toInt = 0 := by decide
  have z1 : (1 : Int32).toInt = 1 := by decide
  have hl : lv_has ls 3 [(0, .ref (ad 0))] := hl
  have hinX3 : ∀ w ∈ wsX30, w ∈ wsX3_proved := (fun _ h => List.mem_cons_of_mem _ (List.mem_append_left _ (List.mem_append_left _ (List.mem_append_right _ h))))
  have hinX0 : ∀ w ∈ wsX00, w ∈ wsX3_proved := (fun _ h => List.mem_cons_of_mem _ (List.mem_append_left _ (List.mem_append_right _ h)))
  have hinX2 : ∀ w ∈ wsX20, w ∈ wsX3_proved := (fun _ h => List.mem_cons_of_mem _ (List.mem_append_right _ h))
  have okf0 := hok.1
  have okf1 := hok.2.1
  have okf2 := hok.2.2.1
  have okf3 := hok.2.2.2.1
  have okf4 := hok.2.2.2.2.1
  have okf5 := hok.2.2.2.2.2
  rw [f_X3_proved] at hG
  refine lv_iconst (v := 0) hx hb dX3_proved_0 (by decide) ?_
  refine lv_istore_n (lv' := [(1, .int 0), (0, .ref (ad 0))]) hx hb dX3_proved_1 rfl hl (by decide) rfl (fun ls hl => ?_)
  refine lv_iconst (v := 0) hx hb dX3_proved_2 (by decide) ?_
  refine lv_istore_n (lv' := [(2, .int 0), (1, .int 0), (0, .ref (ad 0))]) hx hb dX3_proved_3 rfl hl (by decide) rfl (fun ls hl => ?_)
  have L4 : ∀ (n : Nat) (res4 : Int32 × St), ∀ (v1_4 : Int32), ∀ (v2_4 : Int32), ∀ (S_4 : St), ((OkC S_4) ∧ (0 ≤ v2_4.toInt ∧ v2_4.toInt ≤ 8)) → (8 - v2_4.toInt).toNat < n → (lp_X3_proved_4 n v1_4 v2_4 S_4) = res4 → (∀ (v1_4e : Int32), ∀ (S_4e : St), (OkC S_4e) → res4 = (v1_4e, S_4e) → ∀ (H : Heap) (locs : List Loc), CW 41 (eC ad) ad D (CA 41 ad sz) s.heap S_4e H locs → ∀ ls : Array Slot, lv_has ls 3 [(0, .ref (ad 0)), (1, .int v1_4e)] → W p l e (headSpec wsX3_proved ({ frames := 6, cells := 0, slots := 0, locals := 146 })).room s m ([.ref (ad 0)] : List Value).toArray below meth c H locs 0 0 (MQ below (QWi 41 (eC ad) ad D T (CA 41 ad sz)) ([.ref (ad 0)] : List Value).toArray s 0 0 (CA 41 ad sz)) (F0 m 41 ls [])) → ∀ (H : Heap) (locs : List Loc), CW 41 (eC ad) ad D (CA 41 ad sz) s.heap S_4 H locs → ∀ ls : Array Slot, lv_has ls 3 [(0, .ref (ad 0)), (1, .int v1_4), (2, .int v2_4)] → W p l e (headSpec wsX3_proved ({ frames := 6, cells := 0, slots := 0, locals := 146 })).room s m ([.ref (ad 0)] : List Value).toArray below meth c H locs 0 0 (MQ below (QWi 41 (eC ad) ad D T (CA 41 ad sz)) ([.ref (ad 0)] : List Value).toArray s 0 0 (CA 41 ad sz)) (F0 m 4 ls []) := by
    intro n
    induction n with
    | zero => intro _ _ _ _ _ hm; exact absurd hm (Nat.not_lt_zero _)
    | succ n ih4 =>
      intro res4 v1_4 v2_4 S_4 hI4 hm4 hG hex4 H locs w ls hl
      obtain ⟨hok, i4_1⟩ := id hI4
      have okf0 := hok.1
      have okf1 := hok.2.1
      have okf2 := hok.2.2.1
      have okf3 := hok.2.2.2.1
      have okf4 := hok.2.2.2.2.1
      have okf5 := hok.2.2.2.2.2
      rw [lp_X3_proved_4] at hG
      refine lv_iload_n hx hb dX3_proved_4 rfl (lv_at hl 2 rfl) ?_
      refine lv_aload_n hx hb dX3_proved_5 rfl (lv_at hl 0 rfl) ?_
      refine r_get (C := RX3) (T := TX3) (N := 14) S hK w (k := 0) (by decide) (eC_0 ad _) rfl hinX3 5 (by decide) (List.mem_of_getElem? (i := 1) rfl) rfl dX3_proved_6 ?_
      refine lv_icmp_ge (tgt := 41) hx hb dX3_proved_9 (by decide) (fun c9 => ?_) (fun c9 => ?_)
      · have t9 : (S_4 0 5).toInt ≤ v2_4.toInt := qt_le c9
        rw [if_pos c9] at hG
        exact hex4 v1_4 S_4 hok hG.symm _ _ w ls (lv_sub hl [0, 1] rfl)
      · have t9 : v2_4.toInt < (S_4 0 5).toInt := qt_nle c9
        rw [if_neg c9] at hG
        refine lv_aload_n hx hb dX3_proved_12 rfl (lv_at hl 0 rfl) ?_
        refine lv_aload_n hx hb dX3_proved_13 rfl (lv_at hl 0 rfl) ?_
        refine r_get (C := RX3) (T := TX3) (N := 14) S hK w (k := 0) (by decide) (eC_0 ad _) rfl hinX3 2 (by decide) (List.mem_of_getElem? (i := 2) rfl) rfl dX3_proved_14 ?_
        refine lv_iload_n hx hb dX3_proved_17 rfl (lv_at hl 2 rfl) ?_
        have g18 : vp_in v2_4 8 := vpi (by omega) (by omega)
        refine r_aald S hK w (k := 3) (by decide) (eC_3 ad _) (t0 := 3) rfl g18 dX3_proved_18 ?_
        refine lv_aload_n hx hb dX3_proved_19 rfl (lv_at hl 0 rfl) ?_
        refine r_get (C := RX3) (T := TX3) (N := 14) S hK w (k := 0) (by decide) (eC_0 ad _) rfl hinX3 6 (by decide) (List.mem_of_getElem? (i := 3) rfl) rfl dX3_proved_20 ?_
        refine callWi w (va_runV (As := [.ref (ad (33 + (ix v2_4))), .int (S_4 0 6)]) (rest := []) S (c_X3_isProved l ad D H.size S_4 (ix v2_4) (S_4 0 6) hok (vpl g18)) (cwV 2 S.2.2.2.2 gX3_proved_X3_isProved rfl rfl rfl ⟨rfl, hd_X3_isProved⟩ ⟨Nat.le_of_ble_eq_true rfl, Nat.le_of_ble_eq_true rfl⟩) (preV hK hN w (k := 0) (by decide) (eC_0 ad _) (q := (RX3, TX3, 14)) rfl) rfl rfl hl.1 rfl (lv_room (Nat.le_of_ble_eq_true rfl)) dX3_proved_23 ⟨Nat.zero_le _, Nat.zero_le _⟩) (fun H locs w => ?_)
        have hok : OkC ((f_X3_isProved S_4 (ix v2_4) (S_4 0 6)).2) := ok_X3_isProved hok
        have okf0 := hok.1
        have okf1 := hok.2.1
        have okf2 := hok.2.2.1
        have okf3 := hok.2.2.2.1
        have okf4 := hok.2.2.2.2.1
        have okf5 := hok.2.2.2.2.2
        refine lv_if_eq (tgt := 35) hx hb dX3_proved_26 (by decide) (fun c26 => ?_) (fun c26 => ?_)
        · have t26 : ((f_X3_isProved S_4 (ix v2_4) (S_4 0 6)).1).toInt = 0 := qt_eq c26
          rw [if_pos c26] at hG
          refine lv_iinc (v := (v2_4 + 1)) (lv' := [(2, .int (v2_4 + 1)), (0, .ref (ad 0)), (1, .int v1_4)]) hx hb dX3_proved_35 hl (k := 2) rfl rfl (by decide) rfl (fun ls hl => ?_)
          refine lv_goto (tgt := 4) hx hb dX3_proved_38 (by decide) ?_
          have b2_4 : (v2_4 + 1).toInt = v2_4.toInt + 1 := inc_toInt (by omega) (by omega)
          exact ih4 _ v1_4 (v2_4 + 1) ((f_X3_isProved S_4 (ix v2_4) (S_4 0 6)).2) ⟨hok, (by omega)⟩ (by omega) hG hex4 _ _ w ls (lv_sub hl [1, 2, 0] rfl)
        · have t26 : ((f_X3_isProved S_4 (ix v2_4) (S_4 0 6)).1).toInt ≠ 0 := qt_ne c26
          rw [if_neg c26] at hG
          refine lv_iload_n hx hb dX3_proved_29 rfl (lv_at hl 1 rfl) ?_
          refine lv_iconst (v := 1) hx hb dX3_proved_30 (by decide) ?_
          refine lv_iload_n hx hb dX3_proved_31 rfl (lv_at hl 2 rfl) ?_
          refine lv_ishl hx hb dX3_proved_32 ?_
          refine lv_ior hx hb dX3_proved_33 ?_
          refine lv_istore_n (lv' := [(1, .int (v1_4 ||| ((1 : Int32) <<< (v2_4 &&& 31)))), (0, .ref (ad 0)), (2, .int v2_4)]) hx hb dX3_proved_34 rfl hl (by decide) rfl (fun ls hl => ?_)
          refine lv_iinc (v := (v2_4 + 1)) (lv' := [(2, .int (v2_4 + 1)), (1, .int (v1_4 ||| ((1 : Int32) <<< (v2_4 &&& 31)))), (0, .ref (ad 0))]) hx hb dX3_proved_35 hl (k := 2) rfl rfl (by decide) rfl (fun ls hl => ?_)
          refine lv_goto (tgt := 4) hx hb dX3_proved_38 (by decide) ?_
          have b2_4 : (v2_4 + 1).toInt = v2_4.toInt + 1 := inc_toInt (by omega) (by omega)
          exact ih4 _ (v1_4 ||| ((1 : Int32) <<< (v2_4 &&& 31))) (v2_4 + 1) ((f_X3_isProved S_4 (ix v2_4) (S_4 0 6)).2) ⟨hok, (by omega)⟩ (by omega) hG hex4 _ _ w ls (lv_sub hl [2, 1, 0] rfl)
  refine L4 200 _ 0 0 σ ⟨hok, (by omega)⟩ (by omega) rfl (fun v1_4e S_4e hok hr4 H locs w ls hl => ?_) _ _ w ls (lv_sub hl [2, 1, 0] rfl)
  rw [hr4] at hG
  dsimp only at hG
  have okf0 := hok.1
  have okf1 := hok.2.1
  have okf2 := hok.2.2.1
  have okf3 := hok.2.2.2.1
  have okf4 := hok.2.2.2.2.1
  have okf5 := hok.2.2.2.2.2
  refine lv_iload_n hx hb dX3_proved_41 rfl (lv_at hl 1 rfl) ?_
  exact endWi S hr hlocks w hG dX3_proved_42
set_option maxHeartbeats 4000000 in
set_option maxRecDepth 100000 in
theorem c_X3_again (l : Launch) (ad : Nat → Nat) (D : va_G) (sz : Nat) (σ : St) (p1 : Int32) (hok : OkC σ) : Met l yX3_again wsX3_again ({ frames := 6, cells := 0, slots := 0, locals := 146 }) (PreW 41 (eC ad) ad D (tyC ad) σ sz ([.ref (ad 0), .int p1] : List Value)) (QWi 41 (eC ad) ad D (f_X3_again σ p1) (CA 41 ad sz)) 0 0 (CA 41 ad sz) := by
  generalize hG : f_X3_again σ p1 = T
  refine headW (cc := cX3_again) (maxL := 3) (ret := (some .int)) ([.ref (ad 0), .int p1] : List Value) (by decide) rfl (Nat.le_of_ble_eq_true rfl) ?_
  intro p e s m below meth c S hr hlocks hK hN hsz w ls hl
  have S : CallFix p m c cX3_again 3 s ([.ref (ad 0), .int p1] : List Value).toArray wsX3_again RX3 := S
  have hx := S.1
  have hb := S.2.1
  have z0 : (0 : Int32).toInt = 0 := by decide
  have z1 : (1 : Int32).toInt = 1 := by decide
  have hl : lv_has ls 3 [(0, .ref (ad 0)), (1, .int p1)] := hl
  have hinX3 : ∀ w ∈ wsX30, w ∈ wsX3_again := (fun _ h => List.mem_cons_of_mem _ (List.mem_append_left _ (List.mem_append_left _ (List.mem_append_right _ h))))
  have hinX0 : ∀ w ∈ wsX00, w ∈ wsX3_again := (fun _ h => List.mem_cons_of_mem _ (List.mem_append_left _ (List.mem_append_right _ h)))
  have hinX2 : ∀ w ∈ wsX20, w ∈ wsX3_again := (fun _ h => List.mem_cons_of_mem _ (List.mem_append_right _ h))
  have okf0 := hok.1
  have okf1 := hok.2.1
  have okf2 := hok.2.2.1
  have okf3 := hok.2.2.2.1
  have okf4 := hok.2.2.2.2.1
  have okf5 := hok.2.2.2.2.2
  rw [f_X3_again] at hG
  refine lv_aload_n hx hb dX3_again_0 rfl (lv_at hl 0 rfl) ?_
  refine lv_iload_n hx hb dX3_again_1 rfl (lv_at hl 1 rfl) ?_
  refine call0i (va_runV (As := [.int p1]) (rest := []) S (c_X3_isPaper l ad D s.heap.size σ p1) (cwV 1 S.2.2.2.2 gX3_again_X3_isPaper rfl rfl rfl ⟨rfl, hd_X3_isPaper⟩ ⟨Nat.le_of_ble_eq_true rfl, Nat.le_of_ble_eq_true rfl⟩) (preV hK hN w (k := 0) (by decide) (eC_0 ad _) (q := (RX3, TX3, 14)) rfl) rfl rfl hl.1 rfl (lv_room (Nat.le_of_ble_eq_true rfl)) dX3_again_2 ⟨Nat.zero_le _, Nat.zero_le _⟩) ?_
  refine lv_if_ne (tgt := 10) hx hb dX3_again_5 (by decide) (fun c5 => ?_) (fun c5 => ?_)
  · have t5 := bf_isPaper_n c5
    rw [if_neg c5] at hG
    refine lv_aload_n hx hb dX3_again_10 rfl (lv_at hl 0 rfl) ?_
    refine r_get (C := RX3) (T := TX3) (N := 14) S hK w (k := 0) (by decide) (eC_0 ad _) rfl hinX3 6 (by decide) (List.mem_of_getElem? (i := 1) rfl) rfl dX3_again_11 ?_
    refine lv_istore_n (lv' := [(2, .int (σ 0 6)), (0, .ref (ad 0)), (1, .int p1)]) hx hb dX3_again_14 rfl hl (by decide) rfl (fun ls hl => ?_)
    have L15 : ∀ (n : Nat) (res15 : (Int32 × St) ⊕ (St)), ∀ (v2_15 : Int32), ∀ (S_15 : St), ((OkC S_15) ∧ (0 ≤ v2_15.toInt ∧ v2_15.toInt ≤ 100)) → (100 - v2_15.toInt).toNat < n → (lp_X3_again_15 p1 n v2_15 S_15) = res15 → (∀ r : Int32 × St, res15 = Sum.inl r → r = T) → (∀ (S_15e : St), (OkC S_15e) → res15 = Sum.inr S_15e → ∀ (H : Heap) (locs : List Loc), CW 41 (eC ad) ad D (CA 41 ad sz) s.heap S_15e H locs → ∀ ls : Array Slot, lv_has ls 3 [(0, .ref (ad 0))] → W p l e (headSpec wsX3_again ({ frames := 6, cells := 0, slots := 0, locals := 146 })).room s m ([.ref (ad 0), .int p1] : List Value).toArray below meth c H locs 0 0 (MQ below (QWi 41 (eC ad) ad D T (CA 41 ad sz)) ([.ref (ad 0), .int p1] : List Value).toArray s 0 0 (CA 41 ad sz)) (F0 m 43 ls [])) → ∀ (H : Heap) (locs : List Loc), CW 41 (eC ad) ad D (CA 41 ad sz) s.heap S_15 H locs → ∀ ls : Array Slot, lv_has ls 3 [(0, .ref (ad 0)), (1, .int p1), (2, .int v2_15)] → W p l e (headSpec wsX3_again ({ frames := 6, cells := 0, slots := 0, locals := 146 })).room s m ([.ref (ad 0), .int p1] : List Value).toArray below meth c H locs 0 0 (MQ below (QWi 41 (eC ad) ad D T (CA 41 ad sz)) ([.ref (ad 0), .int p1] : List Value).toArray s 0 0 (CA 41 ad sz)) (F0 m 15 ls []) := by
      intro n
      induction n with
      | zero => intro _ _ _ _ hm; exact absurd hm (Nat.not_lt_zero _)
      | succ n ih15 =>
        intro res15 v2_15 S_15 hI15 hm15 hG hret15 hex15 H locs w ls hl
        obtain ⟨hok, i15_1⟩ := id hI15
        have okf0 := hok.1
        have okf1 := hok.2.1
        have okf2 := hok.2.2.1
        have okf3 := hok.2.2.2.1
        have okf4 := hok.2.2.2.2.1
        have okf5 := hok.2.2.2.2.2
        rw [lp_X3_again_15] at hG
        refine lv_iload_n hx hb dX3_again_15 rfl (lv_at hl 2 rfl) ?_
        refine lv_bipush (v := 99) hx hb dX3_again_16 (by decide) ?_
        refine lv_icmp_gt (tgt := 43) hx hb dX3_again_18 (by decide) (fun c18 => ?_) (fun c18 => ?_)
        · have t18 : 99 < v2_15.toInt := qt_lt c18
          rw [if_pos c18] at hG
          exact hex15 S_15 hok hG.symm _ _ w ls (lv_sub hl [0] rfl)
        · have t18 : v2_15.toInt ≤ 99 := qt_nlt c18
          rw [if_neg c18] at hG
          refine lv_aload_n hx hb dX3_again_21 rfl (lv_at hl 0 rfl) ?_
          refine lv_aload_n hx hb dX3_again_22 rfl (lv_at hl 0 rfl) ?_
          refine r_get (C := RX3) (T := TX3) (N := 14) S hK w (k := 0) (by decide) (eC_0 ad _) rfl hinX3 2 (by decide) (List.mem_of_getElem? (i := 2) rfl) rfl dX3_again_23 ?_
          refine lv_iload_n hx hb dX3_again_26 rfl (lv_at hl 1 rfl) ?_
          have g27 : vp_in p1 8 := vpi (by omega) (by omega)
          refine r_aald S hK w (k := 3) (by decide) (eC_3 ad _) (t0 := 3) rfl g27 dX3_again_27 ?_
          refine lv_iload_n hx hb dX3_again_28 rfl (lv_at hl 2 rfl) ?_
          refine callWi w (va_runV (As := [.ref (ad (33 + (ix p1))), .int v2_15]) (rest := []) S (c_X3_isProved l ad D H.size S_15 (ix p1) v2_15 hok (vpl g27)) (cwV 2 S.2.2.2.2 gX3_again_X3_isProved rfl rfl rfl ⟨rfl, hd_X3_isProved⟩ ⟨Nat.le_of_ble_eq_true rfl, Nat.le_of_ble_eq_true rfl⟩) (preV hK hN w (k := 0) (by decide) (eC_0 ad _) (q := (RX3, TX3, 14)) rfl) rfl rfl hl.1 rfl (lv_room (Nat.le_of_ble_eq_true rfl)) dX3_again_29 ⟨Nat.zero_le _, Nat.zero_le _⟩) (fun H locs w => ?_)
          have hok : OkC ((f_X3_isProved S_15 (ix p1) v2_15).2) := ok_X3_isProved hok
          have okf0 := hok.1
          have okf1 := hok.2.1
          have okf2 := hok.2.2.1
          have okf3 := hok.2.2.2.1
          have okf4 := hok.2.2.2.2.1
          have okf5 := hok.2.2.2.2.2
          refine lv_if_ne (tgt := 37) hx hb dX3_again_32 (by decide) (fun c32 => ?_) (fun c32 => ?_)
          · have t32 : ((f_X3_isProved S_15 (ix p1) v2_15).1).toInt ≠ 0 := qt_ne c32
            rw [if_neg c32] at hG
            refine lv_iinc (v := (v2_15 + 1)) (lv' := [(2, .int (v2_15 + 1)), (0, .ref (ad 0)), (1, .int p1)]) hx hb dX3_again_37 hl (k := 2) rfl rfl (by decide) rfl (fun ls hl => ?_)
            refine lv_goto (tgt := 15) hx hb dX3_again_40 (by decide) ?_
            have b2_15 : (v2_15 + 1).toInt = v2_15.toInt + 1 := inc_toInt (by omega) (by omega)
            exact ih15 _ (v2_15 + 1) ((f_X3_isProved S_15 (ix p1) v2_15).2) ⟨hok, (by omega)⟩ (by omega) hG hret15 hex15 _ _ w ls (lv_sub hl [1, 2, 0] rfl)
          · have t32 : ((f_X3_isProved S_15 (ix p1) v2_15).1).toInt = 0 := qt_eq c32
            rw [if_pos c32] at hG
            refine lv_iload_n hx hb dX3_again_35 rfl (lv_at hl 2 rfl) ?_
            exact endWi S hr hlocks w (hret15 _ hG.symm) dX3_again_36
    refine L15 200 _ (σ 0 6) σ ⟨hok, (by omega)⟩ (by omega) rfl (fun r hr15 => by rw [hr15] at hG; exact hG) (fun S_15e hok hr15 H locs w ls hl => ?_) _ _ w ls (lv_sub hl [1, 2, 0] rfl)
    rw [hr15] at hG
    dsimp only at hG
    have okf0 := hok.1
    have okf1 := hok.2.1
    have okf2 := hok.2.2.1
    have okf3 := hok.2.2.2.1
    have okf4 := hok.2.2.2.2.1
    have okf5 := hok.2.2.2.2.2
    refine lv_bipush (v := (-9)) hx hb dX3_again_43 (by decide) ?_
    exact endWi S hr hlocks w hG dX3_again_45
  · rw [if_pos c5] at hG
    refine lv_iconst (v := (-1)) hx hb dX3_again_8 (by decide) ?_
    exact endWi S hr hlocks w hG dX3_again_9
set_option maxHeartbeats 4000000 in
set_option maxRecDepth 100000 in
theorem c_X3_apartOf (l : Launch) (ad : Nat → Nat) (D : va_G) (sz : Nat) (σ : St) (p1 : Nat) (p2 : Nat) (hp1 : st9 p1) (hp2 : st9 p2) : Met l yX3_apartOf wsX3_apartOf ({ frames := 1, cells := 0, slots := 0, locals := 21 }) (PreW 41 (eC ad) ad D (tyC ad) σ sz ([.ref (ad p1), .ref (ad p2)] : List Value)) (Q0i (f_X3_apartOf σ p1 p2)) 0 0 N0 := by
  generalize hG : f_X3_apartOf σ p1 p2 = T
  refine headW (cc := cX3_apartOf) (maxL := 4) (ret := (some .int)) ([.ref (ad p1), .ref (ad p2)] : List Value) (by decide) rfl (Nat.le_of_ble_eq_true rfl) ?_
  intro p e s m below meth c S hr hlocks hK hN hsz w ls hl
  have S : CallFix p m c cX3_apartOf 4 s ([.ref (ad p1), .ref (ad p2)] : List Value).toArray wsX3_apartOf RX3 := S
  have hx := S.1
  have hb := S.2.1
  have z0 : (0 : Int32).toInt = 0 := by decide
  have z1 : (1 : Int32).toInt = 1 := by decide
  have hl : lv_has ls 4 [(0, .ref (ad p1)), (1, .ref (ad p2))] := hl
  rw [f_X3_apartOf] at hG
  refine lv_iconst (v := 0) hx hb dX3_apartOf_0 (by decide) ?_
  refine lv_istore_n (lv' := [(2, .int 0), (0, .ref (ad p1)), (1, .ref (ad p2))]) hx hb dX3_apartOf_1 rfl hl (by decide) rfl (fun ls hl => ?_)
  refine lv_iconst (v := 0) hx hb dX3_apartOf_2 (by decide) ?_
  refine lv_istore_n (lv' := [(3, .int 0), (2, .int 0), (0, .ref (ad p1)), (1, .ref (ad p2))]) hx hb dX3_apartOf_3 rfl hl (by decide) rfl (fun ls hl => ?_)
  have L4 : ∀ (n : Nat) (res4 : Int32), ∀ (v2_4 : Int32), ∀ (v3_4 : Int32), ((0 ≤ v3_4.toInt ∧ v3_4.toInt ≤ 9)) → (9 - v3_4.toInt).toNat < n → (lp_X3_apartOf_4 σ p1 p2 n v2_4 v3_4) = res4 → (∀ (v2_4e : Int32), res4 = v2_4e → ∀ ls : Array Slot, lv_has ls 4 [(2, .int v2_4e)] → W p l e (headSpec wsX3_apartOf ({ frames := 1, cells := 0, slots := 0, locals := 21 })).room s m ([.ref (ad p1), .ref (ad p2)] : List Value).toArray below meth c s.heap [] 0 0 (MQ below (Q0i T) ([.ref (ad p1), .ref (ad p2)] : List Value).toArray s 0 0 N0) (F0 m 29 ls [])) → ∀ ls : Array Slot, lv_has ls 4 [(0, .ref (ad p1)), (1, .ref (ad p2)), (2, .int v2_4), (3, .int v3_4)] → W p l e (headSpec wsX3_apartOf ({ frames := 1, cells := 0, slots := 0, locals := 21 })).room s m ([.ref (ad p1), .ref (ad p2)] : List Value).toArray below meth c s.heap [] 0 0 (MQ below (Q0i T) ([.ref (ad p1), .ref (ad p2)] : List Value).toArray s 0 0 N0) (F0 m 4 ls []) := by
    intro n
    induction n with
    | zero => intro _ _ _ _ hm; exact absurd hm (Nat.not_lt_zero _)
    | succ n ih4 =>
      intro res4 v2_4 v3_4 hI4 hm4 hG hex4 ls hl
      have i4_0 := hI4
      rw [lp_X3_apartOf_4] at hG
      refine lv_iload_n hx hb dX3_apartOf_4 rfl (lv_at hl 3 rfl) ?_
      refine lv_bipush (v := 9) hx hb dX3_apartOf_5 (by decide) ?_
      refine lv_icmp_ge (tgt := 29) hx hb dX3_apartOf_7 (by decide) (fun c7 => ?_) (fun c7 => ?_)
      · have t7 : 9 ≤ v3_4.toInt := qt_le c7
        rw [if_pos c7] at hG
        exact hex4 v2_4 hG.symm ls (lv_sub hl [2] rfl)
      · have t7 : v3_4.toInt < 9 := qt_nle c7
        rw [if_neg c7] at hG
        refine lv_iload_n hx hb dX3_apartOf_10 rfl (lv_at hl 2 rfl) ?_
        refine lv_aload_n hx hb dX3_apartOf_11 rfl (lv_at hl 0 rfl) ?_
        refine lv_iload_n hx hb dX3_apartOf_12 rfl (lv_at hl 3 rfl) ?_
        have g13 : vp_in v3_4 9 := vpi (by omega) (by omega)
        refine r_iald (cA := ad 100) (N := 9) S hK w (k := p1) (st9_lt hp1) (fun f => eC_9 ad hp1 f) rfl g13 dX3_apartOf_13 ?_
        refine lv_aload_n hx hb dX3_apartOf_14 rfl (lv_at hl 1 rfl) ?_
        refine lv_iload_n hx hb dX3_apartOf_15 rfl (lv_at hl 3 rfl) ?_
        have g16 : vp_in v3_4 9 := vpi (by omega) (by omega)
        refine r_iald (cA := ad 100) (N := 9) S hK w (k := p2) (st9_lt hp2) (fun f => eC_9 ad hp2 f) rfl g16 dX3_apartOf_16 ?_
        refine lv_isub hx hb dX3_apartOf_17 ?_
        refine r_abs S hl.1 (List.mem_of_getElem? (i := 1) rfl) (List.mem_of_getElem? (i := 2) rfl) (List.mem_of_getElem? (i := 3) rfl) (List.mem_of_getElem? (i := 4) rfl) ⟨Nat.le_of_ble_eq_true rfl, Nat.le_of_ble_eq_true rfl, Nat.zero_le _, Nat.zero_le _⟩ dX3_apartOf_18 ?_
        refine lv_iadd hx hb dX3_apartOf_21 ?_
        refine lv_istore_n (lv' := [(2, .int (v2_4 + (jabs ((σ p1 (ix v3_4)) - (σ p2 (ix v3_4)))))), (0, .ref (ad p1)), (1, .ref (ad p2)), (3, .int v3_4)]) hx hb dX3_apartOf_22 rfl hl (by decide) rfl (fun ls hl => ?_)
        refine lv_iinc (v := (v3_4 + 1)) (lv' := [(3, .int (v3_4 + 1)), (2, .int (v2_4 + (jabs ((σ p1 (ix v3_4)) - (σ p2 (ix v3_4)))))), (0, .ref (ad p1)), (1, .ref (ad p2))]) hx hb dX3_apartOf_23 hl (k := 3) rfl rfl (by decide) rfl (fun ls hl => ?_)
        refine lv_goto (tgt := 4) hx hb dX3_apartOf_26 (by decide) ?_
        have b3_4 : (v3_4 + 1).toInt = v3_4.toInt + 1 := inc_toInt (by omega) (by omega)
        exact ih4 _ (v2_4 + (jabs ((σ p1 (ix v3_4)) - (σ p2 (ix v3_4))))) (v3_4 + 1) (by omega) (by omega) hG hex4 ls (lv_sub hl [2, 3, 1, 0] rfl)
  refine L4 200 _ 0 0 (by omega) (by omega) rfl (fun v2_4e hr4 ls hl => ?_) ls (lv_sub hl [2, 3, 1, 0] rfl)
  rw [hr4] at hG
  refine lv_iload_n hx hb dX3_apartOf_29 rfl (lv_at hl 0 rfl) ?_
  exact end0i S hr hlocks hG dX3_apartOf_30
set_option maxHeartbeats 4000000 in
set_option maxRecDepth 100000 in
theorem c_X3_apart (l : Launch) (ad : Nat → Nat) (D : va_G) (sz : Nat) (σ : St) (p1 : Int32) (p2 : Int32) (hok : OkC σ) : Met l yX3_apart wsX3_apart ({ frames := 2, cells := 0, slots := 0, locals := 44 }) (PreW 41 (eC ad) ad D (tyC ad) σ sz ([.ref (ad 0), .int p1, .int p2] : List Value)) (Q0i (f_X3_apart σ p1 p2)) 0 0 N0 := by
  generalize hG : f_X3_apart σ p1 p2 = T
  refine headW (cc := cX3_apart) (maxL := 3) (ret := (some .int)) ([.ref (ad 0), .int p1, .int p2] : List Value) (by decide) rfl (Nat.le_of_ble_eq_true rfl) ?_
  intro p e s m below meth c S hr hlocks hK hN hsz w ls hl
  have S : CallFix p m c cX3_apart 3 s ([.ref (ad 0), .int p1, .int p2] : List Value).toArray wsX3_apart RX3 := S
  have hx := S.1
  have hb := S.2.1
  have z0 : (0 : Int32).toInt = 0 := by decide
  have z1 : (1 : Int32).toInt = 1 := by decide
  have hl : lv_has ls 3 [(0, .ref (ad 0)), (1, .int p1), (2, .int p2)] := hl
  have hinX3 : ∀ w ∈ wsX30, w ∈ wsX3_apart := (fun _ h => List.mem_cons_of_mem _ (List.mem_append_left _ (List.mem_append_right _ h)))
  have hinX2 : ∀ w ∈ wsX20, w ∈ wsX3_apart := (fun _ h => List.mem_cons_of_mem _ (List.mem_append_right _ h))
  have okf0 := hok.1
  have okf1 := hok.2.1
  have okf2 := hok.2.2.1
  have okf3 := hok.2.2.2.1
  have okf4 := hok.2.2.2.2.1
  have okf5 := hok.2.2.2.2.2
  rw [f_X3_apart] at hG
  refine lv_aload_n hx hb dX3_apart_0 rfl (lv_at hl 0 rfl) ?_
  refine lv_iload_n hx hb dX3_apart_1 rfl (lv_at hl 1 rfl) ?_
  refine call0i (va_runV (As := [.int p1]) (rest := []) S (c_X3_isSign l ad D s.heap.size σ p1) (cwV 1 S.2.2.2.2 gX3_apart_X3_isSign rfl rfl rfl ⟨rfl, hd_X3_isSign⟩ ⟨Nat.le_of_ble_eq_true rfl, Nat.le_of_ble_eq_true rfl⟩) (preV hK hN w (k := 0) (by decide) (eC_0 ad _) (q := (RX3, TX3, 14)) rfl) rfl rfl hl.1 rfl (lv_room (Nat.le_of_ble_eq_true rfl)) dX3_apart_2 ⟨Nat.zero_le _, Nat.zero_le _⟩) ?_
  refine lv_if_eq (tgt := 16) hx hb dX3_apart_5 (by decide) (fun c5 => ?_) (fun c5 => ?_)
  · rw [if_pos c5] at hG
    refine lv_iconst (v := (-1)) hx hb dX3_apart_16 (by decide) ?_
    exact end0i S hr hlocks hG dX3_apart_17
  · have t5 := bf_isSign_n c5
    rw [if_neg c5] at hG
    refine lv_aload_n hx hb dX3_apart_8 rfl (lv_at hl 0 rfl) ?_
    refine lv_iload_n hx hb dX3_apart_9 rfl (lv_at hl 2 rfl) ?_
    refine call0i (va_runV (As := [.int p2]) (rest := []) S (c_X3_isSign l ad D s.heap.size σ p2) (cwV 1 S.2.2.2.2 gX3_apart_X3_isSign rfl rfl rfl ⟨rfl, hd_X3_isSign⟩ ⟨Nat.le_of_ble_eq_true rfl, Nat.le_of_ble_eq_true rfl⟩) (preV hK hN w (k := 0) (by decide) (eC_0 ad _) (q := (RX3, TX3, 14)) rfl) rfl rfl hl.1 rfl (lv_room (Nat.le_of_ble_eq_true rfl)) dX3_apart_10 ⟨Nat.zero_le _, Nat.zero_le _⟩) ?_
    refine lv_if_ne (tgt := 18) hx hb dX3_apart_13 (by decide) (fun c13 => ?_) (fun c13 => ?_)
    · have t13 := bf_isSign_n c13
      rw [if_neg c13] at hG
      refine lv_aload_n hx hb dX3_apart_18 rfl (lv_at hl 0 rfl) ?_
      refine r_get (C := RX3) (T := TX3) (N := 14) S hK w (k := 0) (by decide) (eC_0 ad _) rfl hinX3 1 (by decide) (List.mem_of_getElem? (i := 1) rfl) rfl dX3_apart_19 ?_
      refine lv_iload_n hx hb dX3_apart_22 rfl (lv_at hl 1 rfl) ?_
      have g23 : vp_in p1 8 := vpi (by omega) (by omega)
      refine r_aald S hK w (k := 2) (by decide) (eC_2 ad _) (t0 := 2) rfl g23 dX3_apart_23 ?_
      refine r_getN (C := RX2) (T := TX2) (N := 3) S hK hN w (k := (17 + (ix p1))) (Nat.lt_of_lt_of_le (Nat.add_lt_add_left (vpl g23) 17) (by decide)) (eC_sg ad (vpl g23) _) rfl hinX2 2 (by decide) 5 rfl rfl dX3_apart_24 ?_
      refine lv_aload_n hx hb dX3_apart_27 rfl (lv_at hl 0 rfl) ?_
      refine r_get (C := RX3) (T := TX3) (N := 14) S hK w (k := 0) (by decide) (eC_0 ad _) rfl hinX3 1 (by decide) (List.mem_of_getElem? (i := 1) rfl) rfl dX3_apart_28 ?_
      refine lv_iload_n hx hb dX3_apart_31 rfl (lv_at hl 2 rfl) ?_
      have g32 : vp_in p2 8 := vpi (by omega) (by omega)
      refine r_aald S hK w (k := 2) (by decide) (eC_2 ad _) (t0 := 2) rfl g32 dX3_apart_32 ?_
      refine r_getN (C := RX2) (T := TX2) (N := 3) S hK hN w (k := (17 + (ix p2))) (Nat.lt_of_lt_of_le (Nat.add_lt_add_left (vpl g32) 17) (by decide)) (eC_sg ad (vpl g32) _) rfl hinX2 2 (by decide) 5 rfl rfl dX3_apart_33 ?_
      refine call0i (va_runS (As := [.ref (ad (25 + (ix p1))), .ref (ad (25 + (ix p2)))]) (rest := []) S (c_X3_apartOf l ad D s.heap.size σ (25 + (ix p1)) (25 + (ix p2)) (Or.inr ⟨_, (vpl g23), rfl⟩) (Or.inr ⟨_, (vpl g32), rfl⟩)) (va_cwS 2 S.2.2.2.2 gX3_apart_X3_apartOf rfl rfl rfl hd_X3_apartOf ⟨Nat.le_of_ble_eq_true rfl, Nat.le_of_ble_eq_true rfl⟩) (preS hK hN w) rfl rfl hl.1 rfl (lv_room (Nat.le_of_ble_eq_true rfl)) dX3_apart_36 ⟨Nat.zero_le _, Nat.zero_le _⟩) ?_
      exact end0i S hr hlocks hG dX3_apart_39
    · rw [if_pos c13] at hG
      refine lv_iconst (v := (-1)) hx hb dX3_apart_16 (by decide) ?_
      exact end0i S hr hlocks hG dX3_apart_17
set_option maxHeartbeats 4000000 in
set_option maxRecDepth 100000 in
theorem c_X3_areAlike (l : Launch) (ad : Nat → Nat) (D : va_G) (sz : Nat) (σ : St) (p1 : Nat) (p2 : Nat) (hp1 : st9 p1) (hp2 : st9 p2) : Met l yX3_areAlike wsX3_areAlike ({ frames := 2, cells := 0, slots := 0, locals := 44 }) (PreW 41 (eC ad) ad D (tyC ad) σ sz ([.ref (ad 0), .ref (ad p1), .ref (ad p2)] : List Value)) (Q0i (f_X3_areAlike σ p1 p2)) 0 0 N0 := by
  generalize hG : f_X3_areAlike σ p1 p2 = T
  refine headW (cc := cX3_areAlike) (maxL := 3) (ret := (some .boolean)) ([.ref (ad 0), .ref (ad p1), .ref (ad p2)] : List Value) (by decide) rfl (Nat.le_of_ble_eq_true rfl) ?_
  intro p e s m below meth c S hr hlocks hK hN hsz w ls hl
  have S : CallFix p m c cX3_areAlike 3 s ([.ref (ad 0), .ref (ad p1), .ref (ad p2)] : List Value).toArray wsX3_areAlike RX3 := S
  have hx := S.1
  have hb := S.2.1
  have z0 : (0 : Int32).toInt = 0 := by decide
  have z1 : (1 : Int32).toInt = 1 := by decide
  have hl : lv_has ls 3 [(0, .ref (ad 0)), (1, .ref (ad p1)), (2, .ref (ad p2))] := hl
  have hinX3 : ∀ w ∈ wsX30, w ∈ wsX3_areAlike := (fun _ h => List.mem_cons_of_mem _ (List.mem_append_right _ h))
  rw [f_X3_areAlike] at hG
  refine lv_bipush (v := 8) hx hb dX3_areAlike_0 (by decide) ?_
  refine lv_aload_n hx hb dX3_areAlike_2 rfl (lv_at hl 1 rfl) ?_
  refine lv_aload_n hx hb dX3_areAlike_3 rfl (lv_at hl 2 rfl) ?_
  refine call0i (va_runS (As := [.ref (ad p1), .ref (ad p2)]) (rest := [.int 8]) S (c_X3_apartOf l ad D s.heap.size σ p1 p2 hp1 hp2) (va_cwS 2 S.2.2.2.2 gX3_areAlike_X3_apartOf rfl rfl rfl hd_X3_apartOf ⟨Nat.le_of_ble_eq_true rfl, Nat.le_of_ble_eq_true rfl⟩) (preS hK hN w) rfl rfl hl.1 rfl (lv_room (Nat.le_of_ble_eq_true rfl)) dX3_areAlike_4 ⟨Nat.zero_le _, Nat.zero_le _⟩) ?_
  refine lv_imul hx hb dX3_areAlike_7 ?_
  refine lv_aload_n hx hb dX3_areAlike_8 rfl (lv_at hl 0 rfl) ?_
  refine r_get (C := RX3) (T := TX3) (N := 14) S hK w (k := 0) (by decide) (eC_0 ad _) rfl hinX3 7 (by decide) (List.mem_of_getElem? (i := 1) rfl) rfl dX3_areAlike_9 ?_
  refine lv_icmp_gt (tgt := 19) hx hb dX3_areAlike_12 (by decide) (fun c12 => ?_) (fun c12 => ?_)
  · have t12 : (σ 0 7).toInt < (8 * (f_X3_apartOf σ p1 p2)).toInt := qt_lt c12
    rw [if_pos c12] at hG
    refine lv_iconst (v := 0) hx hb dX3_areAlike_19 (by decide) ?_
    exact end0z S hr hlocks (Or.inl rfl) hG dX3_areAlike_20
  · have t12 : (8 * (f_X3_apartOf σ p1 p2)).toInt ≤ (σ 0 7).toInt := qt_nlt c12
    rw [if_neg c12] at hG
    refine lv_iconst (v := 1) hx hb dX3_areAlike_15 (by decide) ?_
    refine lv_goto (tgt := 20) hx hb dX3_areAlike_16 (by decide) ?_
    exact end0z S hr hlocks (Or.inr rfl) hG dX3_areAlike_20
set_option maxHeartbeats 4000000 in
set_option maxRecDepth 100000 in
theorem c_X3_twins (l : Launch) (ad : Nat → Nat) (D : va_G) (sz : Nat) (σ : St) (p1 : Int32) (hok : OkC σ) : Met l yX3_twins wsX3_twins ({ frames := 3, cells := 0, slots := 0, locals := 66 }) (PreW 41 (eC ad) ad D (tyC ad) σ sz ([.ref (ad 0), .int p1] : List Value)) (Q0i (f_X3_twins σ p1)) 0 0 N0 := by
  generalize hG : f_X3_twins σ p1 = T
  refine headW (cc := cX3_twins) (maxL := 5) (ret := (some .int)) ([.ref (ad 0), .int p1] : List Value) (by decide) rfl (Nat.le_of_ble_eq_true rfl) ?_
  intro p e s m below meth c S hr hlocks hK hN hsz w ls hl
  have S : CallFix p m c cX3_twins 5 s ([.ref (ad 0), .int p1] : List Value).toArray wsX3_twins RX3 := S
  have hx := S.1
  have hb := S.2.1
  have z0 : (0 : Int32).toInt = 0 := by decide
  have z1 : (1 : Int32).toInt = 1 := by decide
  have hl : lv_has ls 5 [(0, .ref (ad 0)), (1, .int p1)] := hl
  have hinX3 : ∀ w ∈ wsX30, w ∈ wsX3_twins := (fun _ h => List.mem_cons_of_mem _ (List.mem_append_left _ (List.mem_append_right _ h)))
  have hinX2 : ∀ w ∈ wsX20, w ∈ wsX3_twins := (fun _ h => List.mem_cons_of_mem _ (List.mem_append_right _ h))
  have okf0 := hok.1
  have okf1 := hok.2.1
  have okf2 := hok.2.2.1
  have okf3 := hok.2.2.2.1
  have okf4 := hok.2.2.2.2.1
  have okf5 := hok.2.2.2.2.2
  rw [f_X3_twins] at hG
  refine lv_iload_n hx hb dX3_twins_0 rfl (lv_at hl 1 rfl) ?_
  refine lv_iconst (v := (-1)) hx hb dX3_twins_1 (by decide) ?_
  refine lv_icmp_ge (tgt := 7) hx hb dX3_twins_2 (by decide) (fun c2 => ?_) (fun c2 => ?_)
  · have t2 : -1 ≤ p1.toInt := qt_le c2
    rw [if_pos c2] at hG
    refine lv_iconst (v := 0) hx hb dX3_twins_7 (by decide) ?_
    refine lv_istore_n (lv' := [(2, .int 0), (0, .ref (ad 0)), (1, .int p1)]) hx hb dX3_twins_8 rfl hl (by decide) rfl (fun ls hl => ?_)
    refine lv_iconst (v := 0) hx hb dX3_twins_9 (by decide) ?_
    refine lv_istore_n (lv' := [(3, .int 0), (2, .int 0), (0, .ref (ad 0)), (1, .int p1)]) hx hb dX3_twins_10 rfl hl (by decide) rfl (fun ls hl => ?_)
    have L11 : ∀ (n : Nat) (res11 : (Int32) ⊕ (Int32)), ∀ (v2_11 : Int32), ∀ (v3_11 : Int32), ((0 ≤ v3_11.toInt ∧ v3_11.toInt ≤ 8)) → (8 - v3_11.toInt).toNat < n → (lp_X3_twins_11 σ p1 n v2_11 v3_11) = res11 → (∀ r : Int32, res11 = Sum.inl r → r = T) → (∀ (v2_11e : Int32), res11 = Sum.inr v2_11e → ∀ ls : Array Slot, lv_has ls 5 [(0, .ref (ad 0)), (1, .int p1), (2, .int v2_11e)] → W p l e (headSpec wsX3_twins ({ frames := 3, cells := 0, slots := 0, locals := 66 })).room s m ([.ref (ad 0), .int p1] : List Value).toArray below meth c s.heap [] 0 0 (MQ below (Q0i T) ([.ref (ad 0), .int p1] : List Value).toArray s 0 0 N0) (F0 m 86 ls [])) → ∀ ls : Array Slot, lv_has ls 5 [(0, .ref (ad 0)), (1, .int p1), (2, .int v2_11), (3, .int v3_11)] → W p l e (headSpec wsX3_twins ({ frames := 3, cells := 0, slots := 0, locals := 66 })).room s m ([.ref (ad 0), .int p1] : List Value).toArray below meth c s.heap [] 0 0 (MQ below (Q0i T) ([.ref (ad 0), .int p1] : List Value).toArray s 0 0 N0) (F0 m 11 ls []) := by
      intro n
      induction n with
      | zero => intro _ _ _ _ hm; exact absurd hm (Nat.not_lt_zero _)
      | succ n ih11 =>
        intro res11 v2_11 v3_11 hI11 hm11 hG hret11 hex11 ls hl
        have i11_0 := hI11
        rw [lp_X3_twins_11] at hG
        refine lv_iload_n hx hb dX3_twins_11 rfl (lv_at hl 3 rfl) ?_
        refine lv_aload_n hx hb dX3_twins_12 rfl (lv_at hl 0 rfl) ?_
        refine r_get (C := RX3) (T := TX3) (N := 14) S hK w (k := 0) (by decide) (eC_0 ad _) rfl hinX3 4 (by decide) (List.mem_of_getElem? (i := 1) rfl) rfl dX3_twins_13 ?_
        refine lv_icmp_ge (tgt := 86) hx hb dX3_twins_16 (by decide) (fun c16 => ?_) (fun c16 => ?_)
        · have t16 : (σ 0 4).toInt ≤ v3_11.toInt := qt_le c16
          rw [if_pos c16] at hG
          exact hex11 v2_11 hG.symm ls (lv_sub hl [0, 1, 2] rfl)
        · have t16 : v3_11.toInt < (σ 0 4).toInt := qt_nle c16
          rw [if_neg c16] at hG
          refine lv_iload_n hx hb dX3_twins_19 rfl (lv_at hl 3 rfl) ?_
          refine lv_iconst (v := 1) hx hb dX3_twins_20 (by decide) ?_
          refine lv_iadd hx hb dX3_twins_21 ?_
          refine lv_istore (lv' := [(4, .int (v3_11 + 1)), (0, .ref (ad 0)), (1, .int p1), (2, .int v2_11), (3, .int v3_11)]) hx hb dX3_twins_22 hl (by decide) rfl (fun ls hl => ?_)
          have L24 : ∀ (n : Nat) (res24 : (Int32) ⊕ (Int32)), ∀ (v2_24 : Int32), ∀ (v4_24 : Int32), ((0 ≤ v4_24.toInt ∧ v4_24.toInt ≤ 8)) → (8 - v4_24.toInt).toNat < n → (lp_X3_twins_24 σ p1 v3_11 n v2_24 v4_24) = res24 → (∀ r : Int32, res24 = Sum.inl r → r = T) → (∀ (v2_24e : Int32), res24 = Sum.inr v2_24e → ∀ ls : Array Slot, lv_has ls 5 [(0, .ref (ad 0)), (1, .int p1), (2, .int v2_24e), (3, .int v3_11)] → W p l e (headSpec wsX3_twins ({ frames := 3, cells := 0, slots := 0, locals := 66 })).room s m ([.ref (ad 0), .int p1] : List Value).toArray below meth c s.heap [] 0 0 (MQ below (Q0i T) ([.ref (ad 0), .int p1] : List Value).toArray s 0 0 N0) (F0 m 80 ls [])) → ∀ ls : Array Slot, lv_has ls 5 [(0, .ref (ad 0)), (1, .int p1), (2, .int v2_24), (3, .int v3_11), (4, .int v4_24)] → W p l e (headSpec wsX3_twins ({ frames := 3, cells := 0, slots := 0, locals := 66 })).room s m ([.ref (ad 0), .int p1] : List Value).toArray below meth c s.heap [] 0 0 (MQ below (Q0i T) ([.ref (ad 0), .int p1] : List Value).toArray s 0 0 N0) (F0 m 24 ls []) := by
            intro n
            induction n with
            | zero => intro _ _ _ _ hm; exact absurd hm (Nat.not_lt_zero _)
            | succ n ih24 =>
              intro res24 v2_24 v4_24 hI24 hm24 hG hret24 hex24 ls hl
              have i24_0 := hI24
              rw [lp_X3_twins_24] at hG
              refine lv_iload hx hb dX3_twins_24 (lv_at hl 4 rfl) ?_
              refine lv_aload_n hx hb dX3_twins_26 rfl (lv_at hl 0 rfl) ?_
              refine r_get (C := RX3) (T := TX3) (N := 14) S hK w (k := 0) (by decide) (eC_0 ad _) rfl hinX3 4 (by decide) (List.mem_of_getElem? (i := 1) rfl) rfl dX3_twins_27 ?_
              refine lv_icmp_ge (tgt := 80) hx hb dX3_twins_30 (by decide) (fun c30 => ?_) (fun c30 => ?_)
              · have t30 : (σ 0 4).toInt ≤ v4_24.toInt := qt_le c30
                rw [if_pos c30] at hG
                exact hex24 v2_24 hG.symm ls (lv_sub hl [0, 1, 2, 3] rfl)
              · have t30 : v4_24.toInt < (σ 0 4).toInt := qt_nle c30
                rw [if_neg c30] at hG
                refine lv_aload_n hx hb dX3_twins_33 rfl (lv_at hl 0 rfl) ?_
                refine lv_aload_n hx hb dX3_twins_34 rfl (lv_at hl 0 rfl) ?_
                refine r_get (C := RX3) (T := TX3) (N := 14) S hK w (k := 0) (by decide) (eC_0 ad _) rfl hinX3 1 (by decide) (List.mem_of_getElem? (i := 2) rfl) rfl dX3_twins_35 ?_
                refine lv_iload_n hx hb dX3_twins_38 rfl (lv_at hl 3 rfl) ?_
                have g39 : vp_in v3_11 8 := vpi (by omega) (by omega)
                refine r_aald S hK w (k := 2) (by decide) (eC_2 ad _) (t0 := 2) rfl g39 dX3_twins_39 ?_
                refine r_getN (C := RX2) (T := TX2) (N := 3) S hK hN w (k := (17 + (ix v3_11))) (Nat.lt_of_lt_of_le (Nat.add_lt_add_left (vpl g39) 17) (by decide)) (eC_sg ad (vpl g39) _) rfl hinX2 2 (by decide) 5 rfl rfl dX3_twins_40 ?_
                refine lv_aload_n hx hb dX3_twins_43 rfl (lv_at hl 0 rfl) ?_
                refine r_get (C := RX3) (T := TX3) (N := 14) S hK w (k := 0) (by decide) (eC_0 ad _) rfl hinX3 1 (by decide) (List.mem_of_getElem? (i := 2) rfl) rfl dX3_twins_44 ?_
                refine lv_iload hx hb dX3_twins_47 (lv_at hl 4 rfl) ?_
                have g49 : vp_in v4_24 8 := vpi (by omega) (by omega)
                refine r_aald S hK w (k := 2) (by decide) (eC_2 ad _) (t0 := 2) rfl g49 dX3_twins_49 ?_
                refine r_getN (C := RX2) (T := TX2) (N := 3) S hK hN w (k := (17 + (ix v4_24))) (Nat.lt_of_lt_of_le (Nat.add_lt_add_left (vpl g49) 17) (by decide)) (eC_sg ad (vpl g49) _) rfl hinX2 2 (by decide) 5 rfl rfl dX3_twins_50 ?_
                refine call0i (va_runV (As := [.ref (ad (25 + (ix v3_11))), .ref (ad (25 + (ix v4_24)))]) (rest := []) S (c_X3_areAlike l ad D s.heap.size σ (25 + (ix v3_11)) (25 + (ix v4_24)) (Or.inr ⟨_, (vpl g39), rfl⟩) (Or.inr ⟨_, (vpl g49), rfl⟩)) (cwV 2 S.2.2.2.2 gX3_twins_X3_areAlike rfl rfl rfl ⟨rfl, hd_X3_areAlike⟩ ⟨Nat.le_of_ble_eq_true rfl, Nat.le_of_ble_eq_true rfl⟩) (preV hK hN w (k := 0) (by decide) (eC_0 ad _) (q := (RX3, TX3, 14)) rfl) rfl rfl hl.1 rfl (lv_room (Nat.le_of_ble_eq_true rfl)) dX3_twins_53 ⟨Nat.zero_le _, Nat.zero_le _⟩) ?_
                refine lv_if_eq (tgt := 74) hx hb dX3_twins_56 (by decide) (fun c56 => ?_) (fun c56 => ?_)
                · rw [if_pos c56] at hG
                  refine lv_iinc (v := (v4_24 + 1)) (lv' := [(4, .int (v4_24 + 1)), (0, .ref (ad 0)), (1, .int p1), (2, .int v2_24), (3, .int v3_11)]) hx hb dX3_twins_74 hl (k := 4) rfl rfl (by decide) rfl (fun ls hl => ?_)
                  refine lv_goto (tgt := 24) hx hb dX3_twins_77 (by decide) ?_
                  have b4_24 : (v4_24 + 1).toInt = v4_24.toInt + 1 := inc_toInt (by omega) (by omega)
                  exact ih24 _ v2_24 (v4_24 + 1) (by omega) (by omega) hG hret24 hex24 ls (lv_sub hl [1, 2, 3, 4, 0] rfl)
                · rw [if_neg c56] at hG
                  refine lv_iload_n hx hb dX3_twins_59 rfl (lv_at hl 2 rfl) ?_
                  refine lv_iload_n hx hb dX3_twins_60 rfl (lv_at hl 1 rfl) ?_
                  refine lv_icmp_ne (tgt := 71) hx hb dX3_twins_61 (by decide) (fun c61 => ?_) (fun c61 => ?_)
                  · have t61 : v2_24.toInt ≠ p1.toInt := qt_ne c61
                    rw [if_neg c61] at hG
                    refine lv_iinc (v := (v2_24 + 1)) (lv' := [(2, .int (v2_24 + 1)), (0, .ref (ad 0)), (1, .int p1), (3, .int v3_11), (4, .int v4_24)]) hx hb dX3_twins_71 hl (k := 2) rfl rfl (by decide) rfl (fun ls hl => ?_)
                    refine lv_iinc (v := (v4_24 + 1)) (lv' := [(4, .int (v4_24 + 1)), (2, .int (v2_24 + 1)), (0, .ref (ad 0)), (1, .int p1), (3, .int v3_11)]) hx hb dX3_twins_74 hl (k := 4) rfl rfl (by decide) rfl (fun ls hl => ?_)
                    refine lv_goto (tgt := 24) hx hb dX3_twins_77 (by decide) ?_
                    have b4_24 : (v4_24 + 1).toInt = v4_24.toInt + 1 := inc_toInt (by omega) (by omega)
                    exact ih24 _ (v2_24 + 1) (v4_24 + 1) (by omega) (by omega) hG hret24 hex24 ls (lv_sub hl [2, 3, 1, 4, 0] rfl)
                  · have t61 : v2_24.toInt = p1.toInt := qt_eq c61
                    rw [if_pos c61] at hG
                    refine lv_iload_n hx hb dX3_twins_64 rfl (lv_at hl 3 rfl) ?_
                    refine lv_iload hx hb dX3_twins_65 (lv_at hl 4 rfl) ?_
                    refine call0i (va_runS (As := [.int v3_11, .int v4_24]) (rest := []) S (c_X3_pairNumber l v3_11 v4_24) (va_cwS 2 S.2.2.2.2 gX3_twins_X3_pairNumber rfl rfl rfl hd_X3_pairNumber ⟨Nat.le_of_ble_eq_true rfl, Nat.le_of_ble_eq_true rfl⟩) pre0S rfl rfl hl.1 rfl (lv_room (Nat.le_of_ble_eq_true rfl)) dX3_twins_67 ⟨Nat.zero_le _, Nat.zero_le _⟩) ?_
                    exact end0i S hr hlocks (hret24 _ hG.symm) dX3_twins_70
          have e24 := inc_toInt (a := v3_11) (by omega) (by omega)
          refine L24 200 _ v2_11 (v3_11 + 1) (by omega) (by omega) rfl (fun r hr24 => by rw [hr24] at hG; exact hret11 _ hG.symm) (fun v2_24e hr24 ls hl => ?_) ls (lv_sub hl [1, 2, 3, 4, 0] rfl)
          rw [hr24] at hG
          dsimp only at hG
          refine lv_iinc (v := (v3_11 + 1)) (lv' := [(3, .int (v3_11 + 1)), (0, .ref (ad 0)), (1, .int p1), (2, .int v2_24e)]) hx hb dX3_twins_80 hl (k := 3) rfl rfl (by decide) rfl (fun ls hl => ?_)
          refine lv_goto (tgt := 11) hx hb dX3_twins_83 (by decide) ?_
          have b3_11 : (v3_11 + 1).toInt = v3_11.toInt + 1 := inc_toInt (by omega) (by omega)
          exact ih11 _ v2_24e (v3_11 + 1) (by omega) (by omega) hG hret11 hex11 ls (lv_sub hl [1, 2, 3, 0] rfl)
    refine L11 200 _ 0 0 (by omega) (by omega) rfl (fun r hr11 => by rw [hr11] at hG; exact hG) (fun v2_11e hr11 ls hl => ?_) ls (lv_sub hl [2, 3, 1, 0] rfl)
    rw [hr11] at hG
    dsimp only at hG
    refine lv_iload_n hx hb dX3_twins_86 rfl (lv_at hl 1 rfl) ?_
    refine lv_iconst (v := (-1)) hx hb dX3_twins_87 (by decide) ?_
    refine lv_icmp_ne (tgt := 95) hx hb dX3_twins_88 (by decide) (fun c88 => ?_) (fun c88 => ?_)
    · have t88 : p1.toInt ≠ -1 := qt_ne c88
      rw [if_neg c88] at hG
      refine lv_bipush (v := (-9)) hx hb dX3_twins_95 (by decide) ?_
      exact end0i S hr hlocks hG dX3_twins_97
    · have t88 : p1.toInt = -1 := qt_eq c88
      rw [if_pos c88] at hG
      refine lv_iload_n hx hb dX3_twins_91 rfl (lv_at hl 2 rfl) ?_
      refine lv_goto (tgt := 97) hx hb dX3_twins_92 (by decide) ?_
      exact end0i S hr hlocks hG dX3_twins_97
  · have t2 : p1.toInt < -1 := qt_nle c2
    rw [if_neg c2] at hG
    refine lv_iconst (v := (-1)) hx hb dX3_twins_5 (by decide) ?_
    exact end0i S hr hlocks hG dX3_twins_6
set_option maxHeartbeats 4000000 in
set_option maxRecDepth 100000 in
theorem c_X3_areStoppers (l : Launch) (ad : Nat → Nat) (D : va_G) (sz : Nat) (σ : St) (p1 : Nat) (p2 : Int32) (p3 : Int32) (hp1 : p1 < 4) (hb1 : 0 ≤ p2.toInt) (hb2 : 0 ≤ p3.toInt ∧ p3.toInt ≤ 10) (hb3 : p2.toInt + 2 * p3.toInt ≤ 90) : Met l yX3_areStoppers wsX3_areStoppers ({ frames := 1, cells := 0, slots := 0, locals := 20 }) (PreW 41 (eC ad) ad D (tyC ad) σ sz ([.ref (ad (9 + p1)), .int p2, .int p3] : List Value)) (Q0i (f_X3_areStoppers σ p1 p2 p3)) 0 0 N0 := by
  generalize hG : f_X3_areStoppers σ p1 p2 p3 = T
  refine headW (cc := cX3_areStoppers) (maxL := 5) (ret := (some .boolean)) ([.ref (ad (9 + p1)), .int p2, .int p3] : List Value) (by decide) rfl (Nat.le_of_ble_eq_true rfl) ?_
  intro p e s m below meth c S hr hlocks hK hN hsz w ls hl
  have S : CallFix p m c cX3_areStoppers 5 s ([.ref (ad (9 + p1)), .int p2, .int p3] : List Value).toArray wsX3_areStoppers RX3 := S
  have hx := S.1
  have hb := S.2.1
  have z0 : (0 : Int32).toInt = 0 := by decide
  have z1 : (1 : Int32).toInt = 1 := by decide
  have hl : lv_has ls 5 [(0, .ref (ad (9 + p1))), (1, .int p2), (2, .int p3)] := hl
  have hinX1 : ∀ w ∈ wsX10, w ∈ wsX3_areStoppers := (fun _ h => List.mem_cons_of_mem _ (List.mem_append_right _ h))
  rw [f_X3_areStoppers] at hG
  refine lv_iconst (v := 0) hx hb dX3_areStoppers_0 (by decide) ?_
  refine lv_istore_n (lv' := [(3, .int 0), (0, .ref (ad (9 + p1))), (1, .int p2), (2, .int p3)]) hx hb dX3_areStoppers_1 rfl hl (by decide) rfl (fun ls hl => ?_)
  have L2 : ∀ (n : Nat) (res2 : (Int32) ⊕ (Unit)), ∀ (v3_2 : Int32), ((0 ≤ v3_2.toInt ∧ v3_2.toInt ≤ p3.toInt)) → (p3.toInt - v3_2.toInt).toNat < n → (lp_X3_areStoppers_2 σ p1 p2 p3 n v3_2) = res2 → (∀ r : Int32, res2 = Sum.inl r → r = T) → (res2 = Sum.inr () → ∀ ls : Array Slot, lv_has ls 5 [] → W p l e (headSpec wsX3_areStoppers ({ frames := 1, cells := 0, slots := 0, locals := 20 })).room s m ([.ref (ad (9 + p1)), .int p2, .int p3] : List Value).toArray below meth c s.heap [] 0 0 (MQ below (Q0i T) ([.ref (ad (9 + p1)), .int p2, .int p3] : List Value).toArray s 0 0 N0) (F0 m 58 ls [])) → ∀ ls : Array Slot, lv_has ls 5 [(0, .ref (ad (9 + p1))), (1, .int p2), (2, .int p3), (3, .int v3_2)] → W p l e (headSpec wsX3_areStoppers ({ frames := 1, cells := 0, slots := 0, locals := 20 })).room s m ([.ref (ad (9 + p1)), .int p2, .int p3] : List Value).toArray below meth c s.heap [] 0 0 (MQ below (Q0i T) ([.ref (ad (9 + p1)), .int p2, .int p3] : List Value).toArray s 0 0 N0) (F0 m 2 ls []) := by
    intro n
    induction n with
    | zero => intro _ _ _ hm; exact absurd hm (Nat.not_lt_zero _)
    | succ n ih2 =>
      intro res2 v3_2 hI2 hm2 hG hret2 hex2 ls hl
      have i2_0 := hI2
      rw [lp_X3_areStoppers_2] at hG
      refine lv_iload_n hx hb dX3_areStoppers_2 rfl (lv_at hl 3 rfl) ?_
      refine lv_iload_n hx hb dX3_areStoppers_3 rfl (lv_at hl 2 rfl) ?_
      refine lv_icmp_ge (tgt := 58) hx hb dX3_areStoppers_4 (by decide) (fun c4 => ?_) (fun c4 => ?_)
      · have t4 : p3.toInt ≤ v3_2.toInt := qt_le c4
        rw [if_pos c4] at hG
        exact hex2  hG.symm ls (lv_sub hl [] rfl)
      · have t4 : v3_2.toInt < p3.toInt := qt_nle c4
        rw [if_neg c4] at hG
        refine lv_aload_n hx hb dX3_areStoppers_7 rfl (lv_at hl 0 rfl) ?_
        refine r_getN (C := RX1) (T := TX1) (N := 4) S hK hN w (k := (9 + p1)) (Nat.lt_of_lt_of_le (Nat.add_lt_add_left hp1 9) (by decide)) (eC_sh ad hp1 _) rfl hinX1 3 (by decide) 2 rfl rfl dX3_areStoppers_8 ?_
        refine lv_iload_n hx hb dX3_areStoppers_11 rfl (lv_at hl 1 rfl) ?_
        refine lv_iconst (v := 2) hx hb dX3_areStoppers_12 (by decide) ?_
        refine lv_iload_n hx hb dX3_areStoppers_13 rfl (lv_at hl 3 rfl) ?_
        refine lv_imul hx hb dX3_areStoppers_14 ?_
        refine lv_iadd hx hb dX3_areStoppers_15 ?_
        refine lv_iconst (v := 1) hx hb dX3_areStoppers_16 (by decide) ?_
        refine lv_iadd hx hb dX3_areStoppers_17 ?_
        have e14 := km_toInt (a := v3_2) (k := 2) (z := 2) (by decide) (by omega) (by omega)
        have e15 := a_toInt (a := p2) (b := 2 * v3_2) (by omega) (by omega)
        have e17 := inc_toInt (a := p2 + 2 * v3_2) (by omega) (by omega)
        have g18 : vp_in ((p2 + (2 * v3_2)) + 1) 90 := vpi (by omega) (by omega)
        refine r_iald (cA := ad 100) (N := 90) S hK w (k := (13 + p1)) (Nat.lt_of_lt_of_le (Nat.add_lt_add_left hp1 13) (by decide)) (fun f => eC_sc ad hp1 f) rfl g18 dX3_areStoppers_18 ?_
        refine lv_istore (lv' := [(4, .int (σ (13 + p1) (ix ((p2 + (2 * v3_2)) + 1)))), (0, .ref (ad (9 + p1))), (1, .int p2), (2, .int p3), (3, .int v3_2)]) hx hb dX3_areStoppers_19 hl (by decide) rfl (fun ls hl => ?_)
        refine lv_aload_n hx hb dX3_areStoppers_21 rfl (lv_at hl 1 rfl) ?_
        refine r_getN (C := RX1) (T := TX1) (N := 4) S hK hN w (k := (9 + p1)) (Nat.lt_of_lt_of_le (Nat.add_lt_add_left hp1 9) (by decide)) (eC_sh ad hp1 _) rfl hinX1 3 (by decide) 2 rfl rfl dX3_areStoppers_22 ?_
        refine lv_iload_n hx hb dX3_areStoppers_25 rfl (lv_at hl 2 rfl) ?_
        refine lv_iconst (v := 2) hx hb dX3_areStoppers_26 (by decide) ?_
        refine lv_iload_n hx hb dX3_areStoppers_27 rfl (lv_at hl 4 rfl) ?_
        refine lv_imul hx hb dX3_areStoppers_28 ?_
        refine lv_iadd hx hb dX3_areStoppers_29 ?_
        have g30 : vp_in (p2 + (2 * v3_2)) 90 := vpi (by omega) (by omega)
        refine r_iald (cA := ad 100) (N := 90) S hK w (k := (13 + p1)) (Nat.lt_of_lt_of_le (Nat.add_lt_add_left hp1 13) (by decide)) (fun f => eC_sc ad hp1 f) rfl g30 dX3_areStoppers_30 ?_
        refine call0i (va_runS (As := [.int (σ (13 + p1) (ix (p2 + (2 * v3_2))))]) (rest := []) S (c_X3_isSmell l (σ (13 + p1) (ix (p2 + (2 * v3_2))))) (va_cwS 1 S.2.2.2.2 gX3_areStoppers_X3_isSmell rfl rfl rfl hd_X3_isSmell ⟨Nat.le_of_ble_eq_true rfl, Nat.le_of_ble_eq_true rfl⟩) pre0S rfl rfl hl.1 rfl (lv_room (Nat.le_of_ble_eq_true rfl)) dX3_areStoppers_31 ⟨Nat.zero_le _, Nat.zero_le _⟩) ?_
        refine lv_if_eq (tgt := 50) hx hb dX3_areStoppers_34 (by decide) (fun c34 => ?_) (fun c34 => ?_)
        · rw [if_pos c34] at hG
          refine lv_iconst (v := 0) hx hb dX3_areStoppers_50 (by decide) ?_
          exact end0z S hr hlocks (Or.inl rfl) (hret2 _ hG.symm) dX3_areStoppers_51
        · have t34 := bf_isSmell_n c34
          rw [if_neg c34] at hG
          refine lv_iload hx hb dX3_areStoppers_37 (lv_at hl 0 rfl) ?_
          refine lv_iconst (v := 1) hx hb dX3_areStoppers_39 (by decide) ?_
          refine lv_icmp_lt (tgt := 50) hx hb dX3_areStoppers_40 (by decide) (fun c40 => ?_) (fun c40 => ?_)
          · have t40 : (σ (13 + p1) (ix ((p2 + (2 * v3_2)) + 1))).toInt < 1 := qt_lt c40
            rw [if_pos c40] at hG
            refine lv_iconst (v := 0) hx hb dX3_areStoppers_50 (by decide) ?_
            exact end0z S hr hlocks (Or.inl rfl) (hret2 _ hG.symm) dX3_areStoppers_51
          · have t40 : 1 ≤ (σ (13 + p1) (ix ((p2 + (2 * v3_2)) + 1))).toInt := qt_nlt c40
            rw [if_neg c40] at hG
            refine lv_iload hx hb dX3_areStoppers_43 (lv_at hl 0 rfl) ?_
            refine lv_bipush (v := 9) hx hb dX3_areStoppers_45 (by decide) ?_
            refine lv_icmp_le (tgt := 52) hx hb dX3_areStoppers_47 (by decide) (fun c47 => ?_) (fun c47 => ?_)
            · have t47 : (σ (13 + p1) (ix ((p2 + (2 * v3_2)) + 1))).toInt ≤ 9 := qt_le c47
              rw [if_pos c47] at hG
              refine lv_iinc (v := (v3_2 + 1)) (lv' := [(3, .int (v3_2 + 1)), (4, .int (σ (13 + p1) (ix ((p2 + (2 * v3_2)) + 1)))), (0, .ref (ad (9 + p1))), (1, .int p2), (2, .int p3)]) hx hb dX3_areStoppers_52 hl (k := 4) rfl rfl (by decide) rfl (fun ls hl => ?_)
              refine lv_goto (tgt := 2) hx hb dX3_areStoppers_55 (by decide) ?_
              have b3_2 : (v3_2 + 1).toInt = v3_2.toInt + 1 := inc_toInt (by omega) (by omega)
              exact ih2 _ (v3_2 + 1) (by omega) (by omega) hG hret2 hex2 ls (lv_sub hl [2, 3, 4, 0] rfl)
            · have t47 : 9 < (σ (13 + p1) (ix ((p2 + (2 * v3_2)) + 1))).toInt := qt_nle c47
              rw [if_neg c47] at hG
              refine lv_iconst (v := 0) hx hb dX3_areStoppers_50 (by decide) ?_
              exact end0z S hr hlocks (Or.inl rfl) (hret2 _ hG.symm) dX3_areStoppers_51
  refine L2 200 _ 0 (by omega) (by omega) rfl (fun r hr2 => by rw [hr2] at hG; exact hG) (fun hr2 ls hl => ?_) ls (lv_sub hl [1, 2, 3, 0] rfl)
  rw [hr2] at hG
  dsimp only at hG
  refine lv_iconst (v := 1) hx hb dX3_areStoppers_58 (by decide) ?_
  exact end0z S hr hlocks (Or.inr rfl) hG dX3_areStoppers_59
set_option maxHeartbeats 4000000 in
set_option maxRecDepth 100000 in
theorem c_X3_isTakenFor (l : Launch) (ad : Nat → Nat) (D : va_G) (sz : Nat) (σ : St) (p1 : Int32) (p2 : Int32) (p3 : Nat) (p4 : Int32) (p5 : Int32) (hp3 : p3 < 4) (hx1 : 0 ≤ p1.toInt ∧ p1.toInt < 8) (hx2 : 0 ≤ p2.toInt ∧ p2.toInt < 8) (hst : HST σ p3 p4 p5) : Met l yX3_isTakenFor wsX3_isTakenFor ({ frames := 3, cells := 0, slots := 0, locals := 66 }) (PreW 41 (eC ad) ad D (tyC ad) σ sz ([.ref (ad 0), .int p1, .int p2, .ref (ad (9 + p3)), .int p4, .int p5] : List Value)) (QWi 41 (eC ad) ad D (f_X3_isTakenFor σ p1 p2 p3 p4 p5) (CA 41 ad sz)) 0 0 (CA 41 ad sz) := by
  generalize hG : f_X3_isTakenFor σ p1 p2 p3 p4 p5 = T
  refine headW (cc := cX3_isTakenFor) (maxL := 7) (ret := (some .boolean)) ([.ref (ad 0), .int p1, .int p2, .ref (ad (9 + p3)), .int p4, .int p5] : List Value) (by decide) rfl (Nat.le_of_ble_eq_true rfl) ?_
  intro p e s m below meth c S hr hlocks hK hN hsz w ls hl
  have S : CallFix p m c cX3_isTakenFor 7 s ([.ref (ad 0), .int p1, .int p2, .ref (ad (9 + p3)), .int p4, .int p5] : List Value).toArray wsX3_isTakenFor RX3 := S
  have hx := S.1
  have hb := S.2.1
  have z0 : (0 : Int32).toInt = 0 := by decide
  have z1 : (1 : Int32).toInt = 1 := by decide
  have hl : lv_has ls 7 [(0, .ref (ad 0)), (1, .int p1), (2, .int p2), (3, .ref (ad (9 + p3))), (4, .int p4), (5, .int p5)] := hl
  have hinX3 : ∀ w ∈ wsX30, w ∈ wsX3_isTakenFor := (fun _ h => List.mem_cons_of_mem _ (List.mem_append_left _ (List.mem_append_left _ (List.mem_append_right _ h))))
  have hinX2 : ∀ w ∈ wsX20, w ∈ wsX3_isTakenFor := (fun _ h => List.mem_cons_of_mem _ (List.mem_append_left _ (List.mem_append_right _ h)))
  have hinX1 : ∀ w ∈ wsX10, w ∈ wsX3_isTakenFor := (fun _ h => List.mem_cons_of_mem _ (List.mem_append_right _ h))
  rw [f_X3_isTakenFor] at hG
  refine lv_iconst (v := 0) hx hb dX3_isTakenFor_0 (by decide) ?_
  refine lv_istore (lv' := [(6, .int 0), (0, .ref (ad 0)), (1, .int p1), (2, .int p2), (3, .ref (ad (9 + p3))), (4, .int p4), (5, .int p5)]) hx hb dX3_isTakenFor_1 hl (by decide) rfl (fun ls hl => ?_)
  have L3 : ∀ (n : Nat) (res3 : St), ∀ (v6_3 : Int32), ∀ (S_3 : St), ((0 ≤ v6_3.toInt ∧ v6_3.toInt ≤ 9) ∧ (S_3 (13 + p3) = σ (13 + p3))) → (9 - v6_3.toInt).toNat < n → (lp_X3_isTakenFor_3 p1 p2 p3 p4 p5 n v6_3 S_3) = res3 → (∀ (S_3e : St), (S_3e (13 + p3) = σ (13 + p3)) → res3 = S_3e → ∀ (H : Heap) (locs : List Loc), CW 41 (eC ad) ad D (CA 41 ad sz) s.heap S_3e H locs → ∀ ls : Array Slot, lv_has ls 7 [(0, .ref (ad 0)), (2, .int p2), (3, .ref (ad (9 + p3))), (4, .int p4), (5, .int p5)] → W p l e (headSpec wsX3_isTakenFor ({ frames := 3, cells := 0, slots := 0, locals := 66 })).room s m ([.ref (ad 0), .int p1, .int p2, .ref (ad (9 + p3)), .int p4, .int p5] : List Value).toArray below meth c H locs 0 0 (MQ below (QWi 41 (eC ad) ad D T (CA 41 ad sz)) ([.ref (ad 0), .int p1, .int p2, .ref (ad (9 + p3)), .int p4, .int p5] : List Value).toArray s 0 0 (CA 41 ad sz)) (F0 m 35 ls [])) → ∀ (H : Heap) (locs : List Loc), CW 41 (eC ad) ad D (CA 41 ad sz) s.heap S_3 H locs → ∀ ls : Array Slot, lv_has ls 7 [(0, .ref (ad 0)), (1, .int p1), (2, .int p2), (3, .ref (ad (9 + p3))), (4, .int p4), (5, .int p5), (6, .int v6_3)] → W p l e (headSpec wsX3_isTakenFor ({ frames := 3, cells := 0, slots := 0, locals := 66 })).room s m ([.ref (ad 0), .int p1, .int p2, .ref (ad (9 + p3)), .int p4, .int p5] : List Value).toArray below meth c H locs 0 0 (MQ below (QWi 41 (eC ad) ad D T (CA 41 ad sz)) ([.ref (ad 0), .int p1, .int p2, .ref (ad (9 + p3)), .int p4, .int p5] : List Value).toArray s 0 0 (CA 41 ad sz)) (F0 m 3 ls []) := by
    intro n
    induction n with
    | zero => intro _ _ _ _ hm; exact absurd hm (Nat.not_lt_zero _)
    | succ n ih3 =>
      intro res3 v6_3 S_3 hI3 hm3 hG hex3 H locs w ls hl
      obtain ⟨i3_0, i3_1⟩ := id hI3
      rw [lp_X3_isTakenFor_3] at hG
      refine lv_iload hx hb dX3_isTakenFor_3 (lv_at hl 6 rfl) ?_
      refine lv_bipush (v := 9) hx hb dX3_isTakenFor_5 (by decide) ?_
      refine lv_icmp_ge (tgt := 35) hx hb dX3_isTakenFor_7 (by decide) (fun c7 => ?_) (fun c7 => ?_)
      · have t7 : 9 ≤ v6_3.toInt := qt_le c7
        rw [if_pos c7] at hG
        exact hex3 S_3 i3_1 hG.symm _ _ w ls (lv_sub hl [0, 2, 3, 4, 5] rfl)
      · have t7 : v6_3.toInt < 9 := qt_nle c7
        rw [if_neg c7] at hG
        refine lv_aload_n hx hb dX3_isTakenFor_10 rfl (lv_at hl 0 rfl) ?_
        refine r_get (C := RX3) (T := TX3) (N := 14) S hK w (k := 0) (by decide) (eC_0 ad _) rfl hinX3 11 (by decide) (List.mem_of_getElem? (i := 1) rfl) rfl dX3_isTakenFor_11 ?_
        refine lv_iload hx hb dX3_isTakenFor_14 (lv_at hl 6 rfl) ?_
        refine lv_aload_n hx hb dX3_isTakenFor_16 rfl (lv_at hl 0 rfl) ?_
        refine r_get (C := RX3) (T := TX3) (N := 14) S hK w (k := 0) (by decide) (eC_0 ad _) rfl hinX3 1 (by decide) (List.mem_of_getElem? (i := 2) rfl) rfl dX3_isTakenFor_17 ?_
        refine lv_iload_n hx hb dX3_isTakenFor_20 rfl (lv_at hl 1 rfl) ?_
        have g21 : vp_in p1 8 := vpi (by omega) (by omega)
        refine r_aald S hK w (k := 2) (by decide) (eC_2 ad _) (t0 := 2) rfl g21 dX3_isTakenFor_21 ?_
        refine r_getN (C := RX2) (T := TX2) (N := 3) S hK hN w (k := (17 + (ix p1))) (Nat.lt_of_lt_of_le (Nat.add_lt_add_left (vpl g21) 17) (by decide)) (eC_sg ad (vpl g21) _) rfl hinX2 2 (by decide) 5 rfl rfl dX3_isTakenFor_22 ?_
        refine lv_iload hx hb dX3_isTakenFor_25 (lv_at hl 6 rfl) ?_
        have g27 : vp_in v6_3 9 := vpi (by omega) (by omega)
        refine r_iald (cA := ad 100) (N := 9) S hK w (k := (25 + (ix p1))) (Nat.lt_of_lt_of_le (Nat.add_lt_add_left (vpl g21) 25) (by decide)) (fun f => eC_st ad (vpl g21) f) rfl g27 dX3_isTakenFor_27 ?_
        have g28 : vp_in v6_3 9 := vpi (by omega) (by omega)
        refine r_iast (cA := ad 100) (N := 9) S hK w (k := 6) (by decide) (fun f => eC_6 ad f) rfl g28 dX3_isTakenFor_28 (fun H locs w => ?_)
        refine lv_iinc (v := (v6_3 + 1)) (lv' := [(6, .int (v6_3 + 1)), (0, .ref (ad 0)), (1, .int p1), (2, .int p2), (3, .ref (ad (9 + p3))), (4, .int p4), (5, .int p5)]) hx hb dX3_isTakenFor_29 hl (k := 6) rfl rfl (by decide) rfl (fun ls hl => ?_)
        refine lv_goto (tgt := 3) hx hb dX3_isTakenFor_32 (by decide) ?_
        have b6_3 : (v6_3 + 1).toInt = v6_3.toInt + 1 := inc_toInt (by omega) (by omega)
        exact ih3 _ (v6_3 + 1) (u2 S_3 6 (ix v6_3) (S_3 (25 + (ix p1)) (ix v6_3))) ⟨(by omega), (by rw [u2_nc (by omega)]; exact i3_1)⟩ (by omega) hG hex3 _ _ w ls (lv_sub hl [1, 2, 3, 4, 5, 6, 0] rfl)
  refine L3 200 _ 0 σ ⟨(by omega), rfl⟩ (by omega) rfl (fun S_3e x3_0 hr3 H locs w ls hl => ?_) _ _ w ls (lv_sub hl [1, 2, 3, 4, 5, 6, 0] rfl)
  rw [hr3] at hG
  refine lv_iconst (v := 0) hx hb dX3_isTakenFor_35 (by decide) ?_
  refine lv_istore (lv' := [(6, .int 0), (0, .ref (ad 0)), (2, .int p2), (3, .ref (ad (9 + p3))), (4, .int p4), (5, .int p5)]) hx hb dX3_isTakenFor_36 hl (by decide) rfl (fun ls hl => ?_)
  have L38 : ∀ (n : Nat) (res38 : St), ∀ (v6_38 : Int32), ∀ (S_38 : St), ((0 ≤ v6_38.toInt ∧ v6_38.toInt ≤ 10) ∧ (S_38 (13 + p3) = σ (13 + p3))) → (10 - v6_38.toInt).toNat < n → (lp_X3_isTakenFor_38 p2 p3 p4 p5 n v6_38 S_38) = res38 → (∀ (S_38e : St), res38 = S_38e → ∀ (H : Heap) (locs : List Loc), CW 41 (eC ad) ad D (CA 41 ad sz) s.heap S_38e H locs → ∀ ls : Array Slot, lv_has ls 7 [(0, .ref (ad 0)), (2, .int p2)] → W p l e (headSpec wsX3_isTakenFor ({ frames := 3, cells := 0, slots := 0, locals := 66 })).room s m ([.ref (ad 0), .int p1, .int p2, .ref (ad (9 + p3)), .int p4, .int p5] : List Value).toArray below meth c H locs 0 0 (MQ below (QWi 41 (eC ad) ad D T (CA 41 ad sz)) ([.ref (ad 0), .int p1, .int p2, .ref (ad (9 + p3)), .int p4, .int p5] : List Value).toArray s 0 0 (CA 41 ad sz)) (F0 m 95 ls [])) → ∀ (H : Heap) (locs : List Loc), CW 41 (eC ad) ad D (CA 41 ad sz) s.heap S_38 H locs → ∀ ls : Array Slot, lv_has ls 7 [(0, .ref (ad 0)), (2, .int p2), (3, .ref (ad (9 + p3))), (4, .int p4), (5, .int p5), (6, .int v6_38)] → W p l e (headSpec wsX3_isTakenFor ({ frames := 3, cells := 0, slots := 0, locals := 66 })).room s m ([.ref (ad 0), .int p1, .int p2, .ref (ad (9 + p3)), .int p4, .int p5] : List Value).toArray below meth c H locs 0 0 (MQ below (QWi 41 (eC ad) ad D T (CA 41 ad sz)) ([.ref (ad 0), .int p1, .int p2, .ref (ad (9 + p3)), .int p4, .int p5] : List Value).toArray s 0 0 (CA 41 ad sz)) (F0 m 38 ls []) := by
    intro n
    induction n with
    | zero => intro _ _ _ _ hm; exact absurd hm (Nat.not_lt_zero _)
    | succ n ih38 =>
      intro res38 v6_38 S_38 hI38 hm38 hG hex38 H locs w ls hl
      obtain ⟨i38_0, i38_1⟩ := id hI38
      rw [lp_X3_isTakenFor_38] at hG
      refine lv_iload hx hb dX3_isTakenFor_38 (lv_at hl 5 rfl) ?_
      refine lv_bipush (v := 10) hx hb dX3_isTakenFor_40 (by decide) ?_
      refine lv_icmp_ge (tgt := 95) hx hb dX3_isTakenFor_42 (by decide) (fun c42 => ?_) (fun c42 => ?_)
      · have t42 : 10 ≤ v6_38.toInt := qt_le c42
        rw [if_pos c42] at hG
        exact hex38 S_38 hG.symm _ _ w ls (lv_sub hl [0, 1] rfl)
      · have t42 : v6_38.toInt < 10 := qt_nle c42
        rw [if_neg c42] at hG
        refine lv_iload hx hb dX3_isTakenFor_45 (lv_at hl 4 rfl) ?_
        refine lv_iload hx hb dX3_isTakenFor_47 (lv_at hl 5 rfl) ?_
        refine lv_ishr hx hb dX3_isTakenFor_49 ?_
        refine lv_iconst (v := 1) hx hb dX3_isTakenFor_50 (by decide) ?_
        refine lv_iand hx hb dX3_isTakenFor_51 ?_
        refine lv_if_eq (tgt := 89) hx hb dX3_isTakenFor_52 (by decide) (fun c52 => ?_) (fun c52 => ?_)
        · have t52 : ((p5 >>> (v6_38 &&& 31)) &&& 1).toInt = 0 := qt_eq c52
          rw [if_pos c52] at hG
          refine lv_iinc (v := (v6_38 + 1)) (lv' := [(6, .int (v6_38 + 1)), (0, .ref (ad 0)), (2, .int p2), (3, .ref (ad (9 + p3))), (4, .int p4), (5, .int p5)]) hx hb dX3_isTakenFor_89 hl (k := 5) rfl rfl (by decide) rfl (fun ls hl => ?_)
          refine lv_goto (tgt := 38) hx hb dX3_isTakenFor_92 (by decide) ?_
          have b6_38 : (v6_38 + 1).toInt = v6_38.toInt + 1 := inc_toInt (by omega) (by omega)
          exact ih38 _ (v6_38 + 1) S_38 ⟨(by omega), (by first | exact i38_1 | (rw [u2_nc (by omega)]; exact i38_1))⟩ (by omega) hG hex38 _ _ w ls (lv_sub hl [1, 2, 3, 4, 5, 0] rfl)
        · have t52 : ((p5 >>> (v6_38 &&& 31)) &&& 1).toInt ≠ 0 := qt_ne c52
          rw [if_neg c52] at hG
          have hs := hst v6_38 (by omega) (by omega) c52
          refine lv_aload_n hx hb dX3_isTakenFor_55 rfl (lv_at hl 0 rfl) ?_
          refine r_get (C := RX3) (T := TX3) (N := 14) S hK w (k := 0) (by decide) (eC_0 ad _) rfl hinX3 11 (by decide) (List.mem_of_getElem? (i := 1) rfl) rfl dX3_isTakenFor_56 ?_
          refine lv_aload_n hx hb dX3_isTakenFor_59 rfl (lv_at hl 2 rfl) ?_
          refine r_getN (C := RX1) (T := TX1) (N := 4) S hK hN w (k := (9 + p3)) (Nat.lt_of_lt_of_le (Nat.add_lt_add_left hp3 9) (by decide)) (eC_sh ad hp3 _) rfl hinX1 3 (by decide) 2 rfl rfl dX3_isTakenFor_60 ?_
          refine lv_iload hx hb dX3_isTakenFor_63 (lv_at hl 3 rfl) ?_
          refine lv_iconst (v := 2) hx hb dX3_isTakenFor_65 (by decide) ?_
          refine lv_iload hx hb dX3_isTakenFor_66 (lv_at hl 5 rfl) ?_
          refine lv_imul hx hb dX3_isTakenFor_68 ?_
          refine lv_iadd hx hb dX3_isTakenFor_69 ?_
          have g70 : vp_in (p4 + (2 * v6_38)) 90 := hs.1
          refine r_iald (cA := ad 100) (N := 90) S hK w (k := (13 + p3)) (Nat.lt_of_lt_of_le (Nat.add_lt_add_left hp3 13) (by decide)) (fun f => eC_sc ad hp3 f) rfl g70 dX3_isTakenFor_70 ?_
          refine lv_dup2_11 hx hb dX3_isTakenFor_71 rfl rfl ?_
          have g72 : vp_in (S_38 (13 + p3) (ix (p4 + (2 * v6_38)))) 9 := (by rw [i38_1]; exact hs.2.2)
          refine r_iald (cA := ad 100) (N := 9) S hK w (k := 6) (by decide) (fun f => eC_6 ad f) rfl g72 dX3_isTakenFor_72 ?_
          refine lv_aload_n hx hb dX3_isTakenFor_73 rfl (lv_at hl 2 rfl) ?_
          refine r_getN (C := RX1) (T := TX1) (N := 4) S hK hN w (k := (9 + p3)) (Nat.lt_of_lt_of_le (Nat.add_lt_add_left hp3 9) (by decide)) (eC_sh ad hp3 _) rfl hinX1 3 (by decide) 2 rfl rfl dX3_isTakenFor_74 ?_
          refine lv_iload hx hb dX3_isTakenFor_77 (lv_at hl 3 rfl) ?_
          refine lv_iconst (v := 2) hx hb dX3_isTakenFor_79 (by decide) ?_
          refine lv_iload hx hb dX3_isTakenFor_80 (lv_at hl 5 rfl) ?_
          refine lv_imul hx hb dX3_isTakenFor_82 ?_
          refine lv_iadd hx hb dX3_isTakenFor_83 ?_
          refine lv_iconst (v := 1) hx hb dX3_isTakenFor_84 (by decide) ?_
          refine lv_iadd hx hb dX3_isTakenFor_85 ?_
          have g86 : vp_in ((p4 + (2 * v6_38)) + 1) 90 := hs.2.1
          refine r_iald (cA := ad 100) (N := 90) S hK w (k := (13 + p3)) (Nat.lt_of_lt_of_le (Nat.add_lt_add_left hp3 13) (by decide)) (fun f => eC_sc ad hp3 f) rfl g86 dX3_isTakenFor_86 ?_
          refine lv_iadd hx hb dX3_isTakenFor_87 ?_
          have g88 : vp_in (S_38 (13 + p3) (ix (p4 + (2 * v6_38)))) 9 := (by rw [i38_1]; exact hs.2.2)
          refine r_iast (cA := ad 100) (N := 9) S hK w (k := 6) (by decide) (fun f => eC_6 ad f) rfl g88 dX3_isTakenFor_88 (fun H locs w => ?_)
          refine lv_iinc (v := (v6_38 + 1)) (lv' := [(6, .int (v6_38 + 1)), (0, .ref (ad 0)), (2, .int p2), (3, .ref (ad (9 + p3))), (4, .int p4), (5, .int p5)]) hx hb dX3_isTakenFor_89 hl (k := 5) rfl rfl (by decide) rfl (fun ls hl => ?_)
          refine lv_goto (tgt := 38) hx hb dX3_isTakenFor_92 (by decide) ?_
          have b6_38 : (v6_38 + 1).toInt = v6_38.toInt + 1 := inc_toInt (by omega) (by omega)
          exact ih38 _ (v6_38 + 1) (u2 S_38 6 (ix (S_38 (13 + p3) (ix (p4 + (2 * v6_38))))) ((S_38 6 (ix (S_38 (13 + p3) (ix (p4 + (2 * v6_38)))))) + (S_38 (13 + p3) (ix ((p4 + (2 * v6_38)) + 1))))) ⟨(by omega), (by first | exact i38_1 | (rw [u2_nc (by omega)]; exact i38_1))⟩ (by omega) hG hex38 _ _ w ls (lv_sub hl [1, 2, 3, 4, 5, 0] rfl)
  refine L38 200 _ 0 S_3e ⟨(by omega), x3_0⟩ (by omega) rfl (fun S_38e hr38 H locs w ls hl => ?_) _ _ w ls (lv_sub hl [1, 2, 3, 4, 5, 0] rfl)
  rw [hr38] at hG
  refine lv_aload_n hx hb dX3_isTakenFor_95 rfl (lv_at hl 0 rfl) ?_
  refine lv_aload_n hx hb dX3_isTakenFor_96 rfl (lv_at hl 0 rfl) ?_
  refine r_get (C := RX3) (T := TX3) (N := 14) S hK w (k := 0) (by decide) (eC_0 ad _) rfl hinX3 11 (by decide) (List.mem_of_getElem? (i := 1) rfl) rfl dX3_isTakenFor_97 ?_
  refine lv_aload_n hx hb dX3_isTakenFor_100 rfl (lv_at hl 0 rfl) ?_
  refine r_get (C := RX3) (T := TX3) (N := 14) S hK w (k := 0) (by decide) (eC_0 ad _) rfl hinX3 1 (by decide) (List.mem_of_getElem? (i := 2) rfl) rfl dX3_isTakenFor_101 ?_
  refine lv_iload_n hx hb dX3_isTakenFor_104 rfl (lv_at hl 1 rfl) ?_
  have g105 : vp_in p2 8 := vpi (by omega) (by omega)
  refine r_aald S hK w (k := 2) (by decide) (eC_2 ad _) (t0 := 2) rfl g105 dX3_isTakenFor_105 ?_
  refine r_getN (C := RX2) (T := TX2) (N := 3) S hK hN w (k := (17 + (ix p2))) (Nat.lt_of_lt_of_le (Nat.add_lt_add_left (vpl g105) 17) (by decide)) (eC_sg ad (vpl g105) _) rfl hinX2 2 (by decide) 5 rfl rfl dX3_isTakenFor_106 ?_
  refine call0i (va_runV (As := [.ref (ad 6), .ref (ad (25 + (ix p2)))]) (rest := []) S (c_X3_areAlike l ad D H.size S_38e 6 (25 + (ix p2)) (Or.inl rfl) (Or.inr ⟨_, (vpl g105), rfl⟩)) (cwV 2 S.2.2.2.2 gX3_isTakenFor_X3_areAlike rfl rfl rfl ⟨rfl, hd_X3_areAlike⟩ ⟨Nat.le_of_ble_eq_true rfl, Nat.le_of_ble_eq_true rfl⟩) (preV hK hN w (k := 0) (by decide) (eC_0 ad _) (q := (RX3, TX3, 14)) rfl) rfl rfl hl.1 rfl (lv_room (Nat.le_of_ble_eq_true rfl)) dX3_isTakenFor_109 ⟨Nat.zero_le _, Nat.zero_le _⟩) ?_
  exact endWz S hr hlocks w bo_X3_areAlike hG dX3_isTakenFor_112
set_option maxHeartbeats 4000000 in
set_option maxRecDepth 100000 in
theorem c_X3_forged (l : Launch) (ad : Nat → Nat) (D : va_G) (sz : Nat) (σ : St) (p1 : Int32) (p2 : Int32) (p3 : Int32) (p4 : Int32) (p5 : Int32) (p6 : Int32) (hok : OkC σ) : Met l yX3_forged wsX3_forged ({ frames := 4, cells := 0, slots := 0, locals := 92 }) (PreW 41 (eC ad) ad D (tyC ad) σ sz ([.ref (ad 0), .int p1, .int p2, .int p3, .int p4, .int p5, .int p6] : List Value)) (QWi 41 (eC ad) ad D (f_X3_forged σ p1 p2 p3 p4 p5 p6) (CA 41 ad sz)) 0 0 (CA 41 ad sz) := by
  generalize hG : f_X3_forged σ p1 p2 p3 p4 p5 p6 = T
  refine headW (cc := cX3_forged) (maxL := 12) (ret := (some .int)) ([.ref (ad 0), .int p1, .int p2, .int p3, .int p4, .int p5, .int p6] : List Value) (by decide) rfl (Nat.le_of_ble_eq_true rfl) ?_
  intro p e s m below meth c S hr hlocks hK hN hsz w ls hl
  have S : CallFix p m c cX3_forged 12 s ([.ref (ad 0), .int p1, .int p2, .int p3, .int p4, .int p5, .int p6] : List Value).toArray wsX3_forged RX3 := S
  have hx := S.1
  have hb := S.2.1
  have z0 : (0 : Int32).toInt = 0 := by decide
  have z1 : (1 : Int32).toInt = 1 := by decide
  have hl : lv_has ls 12 [(0, .ref (ad 0)), (1, .int p1), (2, .int p2), (3, .int p3), (4, .int p4), (5, .int p5), (6, .int p6)] := hl
  have hinX3 : ∀ w ∈ wsX30, w ∈ wsX3_forged := (fun _ h => List.mem_cons_of_mem _ (List.mem_append_left _ (List.mem_append_left _ (List.mem_append_right _ h))))
  have hinX1 : ∀ w ∈ wsX10, w ∈ wsX3_forged := (fun _ h => List.mem_cons_of_mem _ (List.mem_append_left _ (List.mem_append_right _ h)))
  have hinX2 : ∀ w ∈ wsX20, w ∈ wsX3_forged := (fun _ h => List.mem_cons_of_mem _ (List.mem_append_right _ h))
  have okf0 := hok.1
  have okf1 := hok.2.1
  have okf2 := hok.2.2.1
  have okf3 := hok.2.2.2.1
  have okf4 := hok.2.2.2.2.1
  have okf5 := hok.2.2.2.2.2
  rw [f_X3_forged] at hG
  refine lv_aload_n hx hb dX3_forged_0 rfl (lv_at hl 0 rfl) ?_
  refine lv_iload_n hx hb dX3_forged_1 rfl (lv_at hl 1 rfl) ?_
  refine lv_iload_n hx hb dX3_forged_2 rfl (lv_at hl 2 rfl) ?_
  refine call0i (va_runV (As := [.int p1, .int p2]) (rest := []) S (c_X3_areTwoSigns l ad D s.heap.size σ p1 p2) (cwV 2 S.2.2.2.2 gX3_forged_X3_areTwoSigns rfl rfl rfl ⟨rfl, hd_X3_areTwoSigns⟩ ⟨Nat.le_of_ble_eq_true rfl, Nat.le_of_ble_eq_true rfl⟩) (preV hK hN w (k := 0) (by decide) (eC_0 ad _) (q := (RX3, TX3, 14)) rfl) rfl rfl hl.1 rfl (lv_room (Nat.le_of_ble_eq_true rfl)) dX3_forged_3 ⟨Nat.zero_le _, Nat.zero_le _⟩) ?_
  refine lv_if_ne (tgt := 15) hx hb dX3_forged_6 (by decide) (fun c6 => ?_) (fun c6 => ?_)
  · have t6 := bf_areTwoSigns_n c6
    rw [if_neg c6] at hG
    refine lv_aload_n hx hb dX3_forged_15 rfl (lv_at hl 0 rfl) ?_
    refine lv_iload_n hx hb dX3_forged_16 rfl (lv_at hl 3 rfl) ?_
    refine lv_iload hx hb dX3_forged_17 (lv_at hl 4 rfl) ?_
    refine lv_iload hx hb dX3_forged_19 (lv_at hl 5 rfl) ?_
    refine lv_ldc2 hx hb S.2.2.2.1 (S.2.2.2.2 _ (List.mem_of_getElem? (i := 1) rfl)) dX3_forged_21 ?_
    refine lv_iload hx hb dX3_forged_24 (lv_at hl 6 rfl) ?_
    refine lv_i2l hx hb dX3_forged_26 rfl ?_
    refine lv_lmul hx hb dX3_forged_27 ?_
    have ok3 := okf3
    refine callWi w (va_runV (As := [.int p3, .int p4, .int p5, .long (2 * p6.toInt64)]) (rest := []) S (c_X3_spanRefusal l ad D s.heap.size σ p3 p4 p5 (2 * p6.toInt64)) (cwV 4 S.2.2.2.2 gX3_forged_X3_spanRefusal rfl rfl rfl ⟨rfl, hd_X3_spanRefusal⟩ ⟨Nat.le_of_ble_eq_true rfl, Nat.le_of_ble_eq_true rfl⟩) (preV hK hN w (k := 0) (by decide) (eC_0 ad _) (q := (RX3, TX3, 14)) rfl) rfl rfl hl.1 rfl (lv_room (Nat.le_of_ble_eq_true rfl)) dX3_forged_28 ⟨Nat.zero_le _, Nat.zero_le _⟩) (fun H locs w => ?_)
    have hok : OkC ((f_X3_spanRefusal σ p3 p4 p5 (2 * p6.toInt64)).2) := ok_X3_spanRefusal hok
    have okf0 := hok.1
    have okf1 := hok.2.1
    have okf2 := hok.2.2.1
    have okf3 := hok.2.2.2.1
    have okf4 := hok.2.2.2.2.1
    have okf5 := hok.2.2.2.2.2
    refine lv_istore (lv' := [(7, .int ((f_X3_spanRefusal σ p3 p4 p5 (2 * p6.toInt64)).1)), (0, .ref (ad 0)), (1, .int p1), (2, .int p2), (3, .int p3), (4, .int p4), (5, .int p5), (6, .int p6)]) hx hb dX3_forged_31 hl (by decide) rfl (fun ls hl => ?_)
    refine lv_iload hx hb dX3_forged_33 (lv_at hl 0 rfl) ?_
    refine lv_if_eq (tgt := 41) hx hb dX3_forged_35 (by decide) (fun c35 => ?_) (fun c35 => ?_)
    · have t35 : ((f_X3_spanRefusal σ p3 p4 p5 (2 * p6.toInt64)).1).toInt = 0 := qt_eq c35
      rw [if_pos c35] at hG
      have z := sp_z c35
      have zl := l2_toInt p6
      have zb : p6.toInt < 2147483648 := Int32.toInt_lt p6
      have z3 := ok3 (ix p3) (vpl (vpi (by omega) (by omega)))
      refine lv_iload hx hb dX3_forged_41 (lv_at hl 7 rfl) ?_
      refine lv_bipush (v := 10) hx hb dX3_forged_43 (by decide) ?_
      refine lv_icmp_gt (tgt := 64) hx hb dX3_forged_45 (by decide) (fun c45 => ?_) (fun c45 => ?_)
      · have t45 : 10 < p6.toInt := qt_lt c45
        rw [if_pos c45] at hG
        refine lv_bipush (v := (-2)) hx hb dX3_forged_64 (by decide) ?_
        exact endWi S hr hlocks w hG dX3_forged_66
      · have t45 : p6.toInt ≤ 10 := qt_nlt c45
        rw [if_neg c45] at hG
        refine lv_aload_n hx hb dX3_forged_48 rfl (lv_at hl 1 rfl) ?_
        refine r_get (C := RX3) (T := TX3) (N := 14) S hK w (k := 0) (by decide) (eC_0 ad _) rfl hinX3 0 (by decide) (List.mem_of_getElem? (i := 2) rfl) rfl dX3_forged_49 ?_
        refine lv_iload_n hx hb dX3_forged_52 rfl (lv_at hl 4 rfl) ?_
        have g53 : vp_in p3 4 := vpi (by omega) (by omega)
        refine r_aald S hK w (k := 1) (by decide) (eC_1 ad _) (t0 := 1) rfl g53 dX3_forged_53 ?_
        refine lv_iload hx hb dX3_forged_54 (lv_at hl 6 rfl) ?_
        refine lv_iload hx hb dX3_forged_56 (lv_at hl 7 rfl) ?_
        refine call0i (va_runS (As := [.ref (ad (9 + (ix p3))), .int p5, .int p6]) (rest := []) S (c_X3_areStoppers l ad D H.size ((f_X3_spanRefusal σ p3 p4 p5 (2 * p6.toInt64)).2) (ix p3) p5 p6 (vpl g53) (by omega) (by omega) (by omega)) (va_cwS 3 S.2.2.2.2 gX3_forged_X3_areStoppers rfl rfl rfl hd_X3_areStoppers ⟨Nat.le_of_ble_eq_true rfl, Nat.le_of_ble_eq_true rfl⟩) (preS hK hN w) rfl rfl hl.1 rfl (lv_room (Nat.le_of_ble_eq_true rfl)) dX3_forged_58 ⟨Nat.zero_le _, Nat.zero_le _⟩) ?_
        refine lv_if_ne (tgt := 67) hx hb dX3_forged_61 (by decide) (fun c61 => ?_) (fun c61 => ?_)
        · rw [if_neg c61] at hG
          have zs := as_n (by omega) (by omega) (by omega) c61
          refine lv_bipush (v := (-9)) hx hb dX3_forged_67 (by decide) ?_
          refine lv_istore (lv' := [(8, .int (-9)), (7, .int ((f_X3_spanRefusal σ p3 p4 p5 (2 * p6.toInt64)).1)), (0, .ref (ad 0)), (1, .int p1), (2, .int p2), (3, .int p3), (4, .int p4), (5, .int p5), (6, .int p6)]) hx hb dX3_forged_69 hl (by decide) rfl (fun ls hl => ?_)
          refine lv_iload hx hb dX3_forged_71 (lv_at hl 8 rfl) ?_
          refine lv_iconst (v := 1) hx hb dX3_forged_73 (by decide) ?_
          refine lv_iadd hx hb dX3_forged_74 ?_
          refine lv_istore (lv' := [(9, .int (p6 + 1)), (8, .int (-9)), (7, .int ((f_X3_spanRefusal σ p3 p4 p5 (2 * p6.toInt64)).1)), (0, .ref (ad 0)), (1, .int p1), (2, .int p2), (3, .int p3), (4, .int p4), (5, .int p5), (6, .int p6)]) hx hb dX3_forged_75 hl (by decide) rfl (fun ls hl => ?_)
          refine lv_iconst (v := 0) hx hb dX3_forged_77 (by decide) ?_
          refine lv_istore (lv' := [(10, .int 0), (9, .int (p6 + 1)), (8, .int (-9)), (7, .int ((f_X3_spanRefusal σ p3 p4 p5 (2 * p6.toInt64)).1)), (0, .ref (ad 0)), (1, .int p1), (2, .int p2), (3, .int p3), (4, .int p4), (5, .int p5), (6, .int p6)]) hx hb dX3_forged_78 hl (by decide) rfl (fun ls hl => ?_)
          have L80 : ∀ (n : Nat) (res80 : Int32 × St), ∀ (v8_80 : Int32), ∀ (v9_80 : Int32), ∀ (v10_80 : Int32), ∀ (S_80 : St), ((OkC S_80) ∧ (0 ≤ v10_80.toInt ∧ v10_80.toInt ≤ 1024) ∧ (S_80 (13 + ix p3) = (f_X3_spanRefusal σ p3 p4 p5 (2 * p6.toInt64)).2 (13 + ix p3))) → (1024 - v10_80.toInt).toNat < n → (lp_X3_forged_80 p1 p2 p3 p5 p6 n v8_80 v9_80 v10_80 S_80) = res80 → (∀ (v8_80e : Int32), ∀ (S_80e : St), (OkC S_80e) → res80 = (v8_80e, S_80e) → ∀ (H : Heap) (locs : List Loc), CW 41 (eC ad) ad D (CA 41 ad sz) s.heap S_80e H locs → ∀ ls : Array Slot, lv_has ls 12 [(0, .ref (ad 0)), (8, .int v8_80e)] → W p l e (headSpec wsX3_forged ({ frames := 4, cells := 0, slots := 0, locals := 92 })).room s m ([.ref (ad 0), .int p1, .int p2, .int p3, .int p4, .int p5, .int p6] : List Value).toArray below meth c H locs 0 0 (MQ below (QWi 41 (eC ad) ad D T (CA 41 ad sz)) ([.ref (ad 0), .int p1, .int p2, .int p3, .int p4, .int p5, .int p6] : List Value).toArray s 0 0 (CA 41 ad sz)) (F0 m 136 ls [])) → ∀ (H : Heap) (locs : List Loc), CW 41 (eC ad) ad D (CA 41 ad sz) s.heap S_80 H locs → ∀ ls : Array Slot, lv_has ls 12 [(0, .ref (ad 0)), (1, .int p1), (2, .int p2), (3, .int p3), (5, .int p5), (6, .int p6), (8, .int v8_80), (9, .int v9_80), (10, .int v10_80)] → W p l e (headSpec wsX3_forged ({ frames := 4, cells := 0, slots := 0, locals := 92 })).room s m ([.ref (ad 0), .int p1, .int p2, .int p3, .int p4, .int p5, .int p6] : List Value).toArray below meth c H locs 0 0 (MQ below (QWi 41 (eC ad) ad D T (CA 41 ad sz)) ([.ref (ad 0), .int p1, .int p2, .int p3, .int p4, .int p5, .int p6] : List Value).toArray s 0 0 (CA 41 ad sz)) (F0 m 80 ls []) := by
            intro n
            induction n with
            | zero => intro _ _ _ _ _ _ hm; exact absurd hm (Nat.not_lt_zero _)
            | succ n ih80 =>
              intro res80 v8_80 v9_80 v10_80 S_80 hI80 hm80 hG hex80 H locs w ls hl
              obtain ⟨hok, i80_1, i80_2⟩ := id hI80
              have okf0 := hok.1
              have okf1 := hok.2.1
              have okf2 := hok.2.2.1
              have okf3 := hok.2.2.2.1
              have okf4 := hok.2.2.2.2.1
              have okf5 := hok.2.2.2.2.2
              rw [lp_X3_forged_80] at hG
              have sl := sh_le (p := p6) (by omega) (by omega)
              refine lv_iload hx hb dX3_forged_80 (lv_at hl 8 rfl) ?_
              refine lv_iconst (v := 1) hx hb dX3_forged_82 (by decide) ?_
              refine lv_iload hx hb dX3_forged_83 (lv_at hl 5 rfl) ?_
              refine lv_ishl hx hb dX3_forged_85 ?_
              refine lv_icmp_ge (tgt := 136) hx hb dX3_forged_86 (by decide) (fun c86 => ?_) (fun c86 => ?_)
              · have t86 : ((1 : Int32) <<< (p6 &&& 31)).toInt ≤ v10_80.toInt := qt_le c86
                rw [if_pos c86] at hG
                exact hex80 v8_80 S_80 hok hG.symm _ _ w ls (lv_sub hl [0, 6] rfl)
              · have t86 : v10_80.toInt < ((1 : Int32) <<< (p6 &&& 31)).toInt := qt_nle c86
                rw [if_neg c86] at hG
                have zq := zs v10_80 (by omega) c86
                refine lv_iload hx hb dX3_forged_89 (lv_at hl 8 rfl) ?_
                refine call0i (va_runS (As := [.int v10_80]) (rest := []) S (c_J6_bitCount_0f7a4 l v10_80) (va_cwS 1 S.2.2.2.2 gX3_forged_J6_bitCount_0f7a4 rfl rfl rfl hd_J6_bitCount_0f7a4 ⟨Nat.le_of_ble_eq_true rfl, Nat.le_of_ble_eq_true rfl⟩) pre0S rfl rfl hl.1 rfl (lv_room (Nat.le_of_ble_eq_true rfl)) dX3_forged_91 ⟨Nat.zero_le _, Nat.zero_le _⟩) ?_
                refine lv_istore (lv' := [(11, .int (f_J6_bitCount_0f7a4 v10_80)), (0, .ref (ad 0)), (1, .int p1), (2, .int p2), (3, .int p3), (5, .int p5), (6, .int p6), (8, .int v8_80), (9, .int v9_80), (10, .int v10_80)]) hx hb dX3_forged_94 hl (by decide) rfl (fun ls hl => ?_)
                refine lv_iload hx hb dX3_forged_96 (lv_at hl 0 rfl) ?_
                refine lv_iload hx hb dX3_forged_98 (lv_at hl 8 rfl) ?_
                refine lv_icmp_ge (tgt := 130) hx hb dX3_forged_100 (by decide) (fun c100 => ?_) (fun c100 => ?_)
                · have t100 : v9_80.toInt ≤ (f_J6_bitCount_0f7a4 v10_80).toInt := qt_le c100
                  rw [if_pos c100] at hG
                  refine lv_iinc (v := (v10_80 + 1)) (lv' := [(10, .int (v10_80 + 1)), (11, .int (f_J6_bitCount_0f7a4 v10_80)), (0, .ref (ad 0)), (1, .int p1), (2, .int p2), (3, .int p3), (5, .int p5), (6, .int p6), (8, .int v8_80), (9, .int v9_80)]) hx hb dX3_forged_130 hl (k := 9) rfl rfl (by decide) rfl (fun ls hl => ?_)
                  refine lv_goto (tgt := 80) hx hb dX3_forged_133 (by decide) ?_
                  have b10_80 : (v10_80 + 1).toInt = v10_80.toInt + 1 := inc_toInt (by omega) (by omega)
                  exact ih80 _ v8_80 v9_80 (v10_80 + 1) S_80 ⟨hok, (by omega), (by first | exact i80_2 | (rw [fr_X3_isTakenFor (by omega)]; exact i80_2))⟩ (by omega) hG hex80 _ _ w ls (lv_sub hl [2, 3, 4, 5, 6, 7, 8, 9, 0] rfl)
                · have t100 : (f_J6_bitCount_0f7a4 v10_80).toInt < v9_80.toInt := qt_nle c100
                  rw [if_neg c100] at hG
                  refine lv_aload_n hx hb dX3_forged_103 rfl (lv_at hl 1 rfl) ?_
                  refine lv_iload_n hx hb dX3_forged_104 rfl (lv_at hl 2 rfl) ?_
                  refine lv_iload_n hx hb dX3_forged_105 rfl (lv_at hl 3 rfl) ?_
                  refine lv_aload_n hx hb dX3_forged_106 rfl (lv_at hl 1 rfl) ?_
                  refine r_get (C := RX3) (T := TX3) (N := 14) S hK w (k := 0) (by decide) (eC_0 ad _) rfl hinX3 0 (by decide) (List.mem_of_getElem? (i := 2) rfl) rfl dX3_forged_107 ?_
                  refine lv_iload_n hx hb dX3_forged_110 rfl (lv_at hl 4 rfl) ?_
                  have g111 : vp_in p3 4 := vpi (by omega) (by omega)
                  refine r_aald S hK w (k := 1) (by decide) (eC_1 ad _) (t0 := 1) rfl g111 dX3_forged_111 ?_
                  refine lv_iload hx hb dX3_forged_112 (lv_at hl 5 rfl) ?_
                  refine lv_iload hx hb dX3_forged_114 (lv_at hl 9 rfl) ?_
                  refine callWi w (va_runV (As := [.int p1, .int p2, .ref (ad (9 + (ix p3))), .int p5, .int v10_80]) (rest := []) S (c_X3_isTakenFor l ad D H.size S_80 p1 p2 (ix p3) p5 v10_80 (vpl g111) (by omega) (by omega) (hst_congr i80_2 zq)) (cwV 5 S.2.2.2.2 gX3_forged_X3_isTakenFor rfl rfl rfl ⟨rfl, hd_X3_isTakenFor⟩ ⟨Nat.le_of_ble_eq_true rfl, Nat.le_of_ble_eq_true rfl⟩) (preV hK hN w (k := 0) (by decide) (eC_0 ad _) (q := (RX3, TX3, 14)) rfl) rfl rfl hl.1 rfl (lv_room (Nat.le_of_ble_eq_true rfl)) dX3_forged_116 ⟨Nat.zero_le _, Nat.zero_le _⟩) (fun H locs w => ?_)
                  have hok : OkC ((f_X3_isTakenFor S_80 p1 p2 (ix p3) p5 v10_80).2) := ok_X3_isTakenFor hok
                  have okf0 := hok.1
                  have okf1 := hok.2.1
                  have okf2 := hok.2.2.1
                  have okf3 := hok.2.2.2.1
                  have okf4 := hok.2.2.2.2.1
                  have okf5 := hok.2.2.2.2.2
                  refine lv_if_eq (tgt := 130) hx hb dX3_forged_119 (by decide) (fun c119 => ?_) (fun c119 => ?_)
                  · have t119 : ((f_X3_isTakenFor S_80 p1 p2 (ix p3) p5 v10_80).1).toInt = 0 := qt_eq c119
                    rw [if_pos c119] at hG
                    refine lv_iinc (v := (v10_80 + 1)) (lv' := [(10, .int (v10_80 + 1)), (11, .int (f_J6_bitCount_0f7a4 v10_80)), (0, .ref (ad 0)), (1, .int p1), (2, .int p2), (3, .int p3), (5, .int p5), (6, .int p6), (8, .int v8_80), (9, .int v9_80)]) hx hb dX3_forged_130 hl (k := 9) rfl rfl (by decide) rfl (fun ls hl => ?_)
                    refine lv_goto (tgt := 80) hx hb dX3_forged_133 (by decide) ?_
                    have b10_80 : (v10_80 + 1).toInt = v10_80.toInt + 1 := inc_toInt (by omega) (by omega)
                    exact ih80 _ v8_80 v9_80 (v10_80 + 1) ((f_X3_isTakenFor S_80 p1 p2 (ix p3) p5 v10_80).2) ⟨hok, (by omega), (by first | exact i80_2 | (rw [fr_X3_isTakenFor (by omega)]; exact i80_2))⟩ (by omega) hG hex80 _ _ w ls (lv_sub hl [2, 3, 4, 5, 6, 7, 8, 9, 0] rfl)
                  · have t119 : ((f_X3_isTakenFor S_80 p1 p2 (ix p3) p5 v10_80).1).toInt ≠ 0 := qt_ne c119
                    rw [if_neg c119] at hG
                    refine lv_iload hx hb dX3_forged_122 (lv_at hl 9 rfl) ?_
                    refine lv_istore (lv' := [(8, .int v10_80), (11, .int (f_J6_bitCount_0f7a4 v10_80)), (0, .ref (ad 0)), (1, .int p1), (2, .int p2), (3, .int p3), (5, .int p5), (6, .int p6), (9, .int v9_80), (10, .int v10_80)]) hx hb dX3_forged_124 hl (by decide) rfl (fun ls hl => ?_)
                    refine lv_iload hx hb dX3_forged_126 (lv_at hl 1 rfl) ?_
                    refine lv_istore (lv' := [(9, .int (f_J6_bitCount_0f7a4 v10_80)), (8, .int v10_80), (11, .int (f_J6_bitCount_0f7a4 v10_80)), (0, .ref (ad 0)), (1, .int p1), (2, .int p2), (3, .int p3), (5, .int p5), (6, .int p6), (10, .int v10_80)]) hx hb dX3_forged_128 hl (by decide) rfl (fun ls hl => ?_)
                    refine lv_iinc (v := (v10_80 + 1)) (lv' := [(10, .int (v10_80 + 1)), (9, .int (f_J6_bitCount_0f7a4 v10_80)), (8, .int v10_80), (11, .int (f_J6_bitCount_0f7a4 v10_80)), (0, .ref (ad 0)), (1, .int p1), (2, .int p2), (3, .int p3), (5, .int p5), (6, .int p6)]) hx hb dX3_forged_130 hl (k := 9) rfl rfl (by decide) rfl (fun ls hl => ?_)
                    refine lv_goto (tgt := 80) hx hb dX3_forged_133 (by decide) ?_
                    have b10_80 : (v10_80 + 1).toInt = v10_80.toInt + 1 := inc_toInt (by omega) (by omega)
                    exact ih80 _ v10_80 (f_J6_bitCount_0f7a4 v10_80) (v10_80 + 1) ((f_X3_isTakenFor S_80 p1 p2 (ix p3) p5 v10_80).2) ⟨hok, (by omega), (by first | exact i80_2 | (rw [fr_X3_isTakenFor (by omega)]; exact i80_2))⟩ (by omega) hG hex80 _ _ w ls (lv_sub hl [4, 5, 6, 7, 8, 9, 2, 1, 0] rfl)
          refine L80 1100 _ (-9) (p6 + 1) 0 ((f_X3_spanRefusal σ p3 p4 p5 (2 * p6.toInt64)).2) ⟨hok, (by omega), rfl⟩ (by omega) rfl (fun v8_80e S_80e hok hr80 H locs w ls hl => ?_) _ _ w ls (lv_sub hl [4, 5, 6, 7, 9, 10, 2, 1, 0] rfl)
          rw [hr80] at hG
          dsimp only at hG
          have okf0 := hok.1
          have okf1 := hok.2.1
          have okf2 := hok.2.2.1
          have okf3 := hok.2.2.2.1
          have okf4 := hok.2.2.2.2.1
          have okf5 := hok.2.2.2.2.2
          refine lv_iload hx hb dX3_forged_136 (lv_at hl 1 rfl) ?_
          exact endWi S hr hlocks w hG dX3_forged_138
        · rw [if_pos c61] at hG
          refine lv_bipush (v := (-2)) hx hb dX3_forged_64 (by decide) ?_
          exact endWi S hr hlocks w hG dX3_forged_66
    · have t35 : ((f_X3_spanRefusal σ p3 p4 p5 (2 * p6.toInt64)).1).toInt ≠ 0 := qt_ne c35
      rw [if_neg c35] at hG
      refine lv_iload hx hb dX3_forged_38 (lv_at hl 0 rfl) ?_
      exact endWi S hr hlocks w hG dX3_forged_40
  · rw [if_pos c6] at hG
    refine lv_aload_n hx hb dX3_forged_9 rfl (lv_at hl 0 rfl) ?_
    refine lv_iconst (v := (-1)) hx hb dX3_forged_10 (by decide) ?_
    refine callWi w (va_runV (As := [.int (-1)]) (rest := []) S (c_X3_refused l ad D s.heap.size σ (-1)) (cwV 1 S.2.2.2.2 gX3_forged_X3_refused rfl rfl rfl ⟨rfl, hd_X3_refused⟩ ⟨Nat.le_of_ble_eq_true rfl, Nat.le_of_ble_eq_true rfl⟩) (preV hK hN w (k := 0) (by decide) (eC_0 ad _) (q := (RX3, TX3, 14)) rfl) rfl rfl hl.1 rfl (lv_room (Nat.le_of_ble_eq_true rfl)) dX3_forged_11 ⟨Nat.zero_le _, Nat.zero_le _⟩) (fun H locs w => ?_)
    exact endWi S hr hlocks w hG dX3_forged_14
set_option maxHeartbeats 4000000 in
set_option maxRecDepth 100000 in
theorem c_X3_strengthNear (l : Launch) (ad : Nat → Nat) (D : va_G) (sz : Nat) (σ : St) (p1 : Nat) (p2 : Nat) (p3 : Int32) (p4 : Int32) (hp1 : p1 < 8) (hp2 : p2 < 8) (hsm : 0 ≤ p4.toInt ∧ p4.toInt < 9) : Met l yX3_strengthNear wsX3_strengthNear ({ frames := 0, cells := 0, slots := 0, locals := 0 }) (PreW 41 (eC ad) ad D (tyC ad) σ sz ([.ref (ad (17 + p1)), .ref (ad (17 + p2)), .int p3, .int p4] : List Value)) (Q0i (f_X3_strengthNear σ p1 p2 p3 p4)) 0 0 N0 := by
  generalize hG : f_X3_strengthNear σ p1 p2 p3 p4 = T
  refine headW (cc := cX3_strengthNear) (maxL := 5) (ret := (some .int)) ([.ref (ad (17 + p1)), .ref (ad (17 + p2)), .int p3, .int p4] : List Value) (by decide) rfl (Nat.le_of_ble_eq_true rfl) ?_
  intro p e s m below meth c S hr hlocks hK hN hsz w ls hl
  have S : CallFix p m c cX3_strengthNear 5 s ([.ref (ad (17 + p1)), .ref (ad (17 + p2)), .int p3, .int p4] : List Value).toArray wsX3_strengthNear RX3 := S
  have hx := S.1
  have hb := S.2.1
  have z0 : (0 : Int32).toInt = 0 := by decide
  have z1 : (1 : Int32).toInt = 1 := by decide
  have hl : lv_has ls 5 [(0, .ref (ad (17 + p1))), (1, .ref (ad (17 + p2))), (2, .int p3), (3, .int p4)] := hl
  have hinX2 : ∀ w ∈ wsX20, w ∈ wsX3_strengthNear := (fun _ h => List.mem_cons_of_mem _ (List.mem_append_right _ h))
  rw [f_X3_strengthNear] at hG
  refine lv_aload_n hx hb dX3_strengthNear_0 rfl (lv_at hl 1 rfl) ?_
  refine r_getN (C := RX2) (T := TX2) (N := 3) S hK hN w (k := (17 + p2)) (Nat.lt_of_lt_of_le (Nat.add_lt_add_left hp2 17) (by decide)) (eC_sg ad hp2 _) rfl hinX2 2 (by decide) 5 rfl rfl dX3_strengthNear_1 ?_
  refine lv_iload_n hx hb dX3_strengthNear_4 rfl (lv_at hl 3 rfl) ?_
  have g5 : vp_in p4 9 := vpi (by omega) (by omega)
  refine r_iald (cA := ad 100) (N := 9) S hK w (k := (25 + p2)) (Nat.lt_of_lt_of_le (Nat.add_lt_add_left hp2 25) (by decide)) (fun f => eC_st ad hp2 f) rfl g5 dX3_strengthNear_5 ?_
  refine lv_aload_n hx hb dX3_strengthNear_6 rfl (lv_at hl 0 rfl) ?_
  refine r_getN (C := RX2) (T := TX2) (N := 3) S hK hN w (k := (17 + p1)) (Nat.lt_of_lt_of_le (Nat.add_lt_add_left hp1 17) (by decide)) (eC_sg ad hp1 _) rfl hinX2 2 (by decide) 5 rfl rfl dX3_strengthNear_7 ?_
  refine lv_iload_n hx hb dX3_strengthNear_10 rfl (lv_at hl 3 rfl) ?_
  have g11 : vp_in p4 9 := vpi (by omega) (by omega)
  refine r_iald (cA := ad 100) (N := 9) S hK w (k := (25 + p1)) (Nat.lt_of_lt_of_le (Nat.add_lt_add_left hp1 25) (by decide)) (fun f => eC_st ad hp1 f) rfl g11 dX3_strengthNear_11 ?_
  refine lv_isub hx hb dX3_strengthNear_12 ?_
  refine lv_istore (lv' := [(4, .int ((σ (25 + p2) (ix p4)) - (σ (25 + p1) (ix p4)))), (0, .ref (ad (17 + p1))), (1, .ref (ad (17 + p2))), (2, .int p3), (3, .int p4)]) hx hb dX3_strengthNear_13 hl (by decide) rfl (fun ls hl => ?_)
  refine lv_aload_n hx hb dX3_strengthNear_15 rfl (lv_at hl 1 rfl) ?_
  refine r_getN (C := RX2) (T := TX2) (N := 3) S hK hN w (k := (17 + p1)) (Nat.lt_of_lt_of_le (Nat.add_lt_add_left hp1 17) (by decide)) (eC_sg ad hp1 _) rfl hinX2 2 (by decide) 5 rfl rfl dX3_strengthNear_16 ?_
  refine lv_iload_n hx hb dX3_strengthNear_19 rfl (lv_at hl 4 rfl) ?_
  have g20 : vp_in p4 9 := vpi (by omega) (by omega)
  refine r_iald (cA := ad 100) (N := 9) S hK w (k := (25 + p1)) (Nat.lt_of_lt_of_le (Nat.add_lt_add_left hp1 25) (by decide)) (fun f => eC_st ad hp1 f) rfl g20 dX3_strengthNear_20 ?_
  refine lv_iload hx hb dX3_strengthNear_21 (lv_at hl 0 rfl) ?_
  refine lv_iload_n hx hb dX3_strengthNear_23 rfl (lv_at hl 3 rfl) ?_
  refine lv_imul hx hb dX3_strengthNear_24 ?_
  refine lv_bipush (v := 10) hx hb dX3_strengthNear_25 (by decide) ?_
  refine lv_idiv hx hb dX3_strengthNear_27 (by decide) ?_
  refine lv_iadd hx hb dX3_strengthNear_28 ?_
  exact end0i S hr hlocks hG dX3_strengthNear_29
set_option maxHeartbeats 4000000 in
set_option maxRecDepth 100000 in
theorem c_X3_near (l : Launch) (ad : Nat → Nat) (D : va_G) (sz : Nat) (σ : St) (p1 : Int32) (p2 : Int32) (p3 : Int32) (p4 : Int32) (hok : OkC σ) : Met l yX3_near wsX3_near ({ frames := 1, cells := 0, slots := 0, locals := 24 }) (PreW 41 (eC ad) ad D (tyC ad) σ sz ([.ref (ad 0), .int p1, .int p2, .int p3, .int p4] : List Value)) (Q0i (f_X3_near σ p1 p2 p3 p4)) 0 0 N0 := by
  generalize hG : f_X3_near σ p1 p2 p3 p4 = T
  refine headW (cc := cX3_near) (maxL := 5) (ret := (some .int)) ([.ref (ad 0), .int p1, .int p2, .int p3, .int p4] : List Value) (by decide) rfl (Nat.le_of_ble_eq_true rfl) ?_
  intro p e s m below meth c S hr hlocks hK hN hsz w ls hl
  have S : CallFix p m c cX3_near 5 s ([.ref (ad 0), .int p1, .int p2, .int p3, .int p4] : List Value).toArray wsX3_near RX3 := S
  have hx := S.1
  have hb := S.2.1
  have z0 : (0 : Int32).toInt = 0 := by decide
  have z1 : (1 : Int32).toInt = 1 := by decide
  have hl : lv_has ls 5 [(0, .ref (ad 0)), (1, .int p1), (2, .int p2), (3, .int p3), (4, .int p4)] := hl
  have hinX3 : ∀ w ∈ wsX30, w ∈ wsX3_near := (fun _ h => List.mem_cons_of_mem _ (List.mem_append_left _ (List.mem_append_right _ h)))
  have hinX2 : ∀ w ∈ wsX20, w ∈ wsX3_near := (fun _ h => List.mem_cons_of_mem _ (List.mem_append_right _ h))
  have okf0 := hok.1
  have okf1 := hok.2.1
  have okf2 := hok.2.2.1
  have okf3 := hok.2.2.2.1
  have okf4 := hok.2.2.2.2.1
  have okf5 := hok.2.2.2.2.2
  rw [f_X3_near] at hG
  refine lv_aload_n hx hb dX3_near_0 rfl (lv_at hl 0 rfl) ?_
  refine lv_iload_n hx hb dX3_near_1 rfl (lv_at hl 1 rfl) ?_
  refine call0i (va_runV (As := [.int p1]) (rest := []) S (c_X3_isSign l ad D s.heap.size σ p1) (cwV 1 S.2.2.2.2 gX3_near_X3_isSign rfl rfl rfl ⟨rfl, hd_X3_isSign⟩ ⟨Nat.le_of_ble_eq_true rfl, Nat.le_of_ble_eq_true rfl⟩) (preV hK hN w (k := 0) (by decide) (eC_0 ad _) (q := (RX3, TX3, 14)) rfl) rfl rfl hl.1 rfl (lv_room (Nat.le_of_ble_eq_true rfl)) dX3_near_2 ⟨Nat.zero_le _, Nat.zero_le _⟩) ?_
  refine lv_if_eq (tgt := 24) hx hb dX3_near_5 (by decide) (fun c5 => ?_) (fun c5 => ?_)
  · rw [if_pos c5] at hG
    refine lv_iconst (v := (-1)) hx hb dX3_near_24 (by decide) ?_
    exact end0i S hr hlocks hG dX3_near_25
  · have t5 := bf_isSign_n c5
    rw [if_neg c5] at hG
    refine lv_aload_n hx hb dX3_near_8 rfl (lv_at hl 0 rfl) ?_
    refine lv_iload_n hx hb dX3_near_9 rfl (lv_at hl 2 rfl) ?_
    refine call0i (va_runV (As := [.int p2]) (rest := []) S (c_X3_isSign l ad D s.heap.size σ p2) (cwV 1 S.2.2.2.2 gX3_near_X3_isSign rfl rfl rfl ⟨rfl, hd_X3_isSign⟩ ⟨Nat.le_of_ble_eq_true rfl, Nat.le_of_ble_eq_true rfl⟩) (preV hK hN w (k := 0) (by decide) (eC_0 ad _) (q := (RX3, TX3, 14)) rfl) rfl rfl hl.1 rfl (lv_room (Nat.le_of_ble_eq_true rfl)) dX3_near_10 ⟨Nat.zero_le _, Nat.zero_le _⟩) ?_
    refine lv_if_eq (tgt := 24) hx hb dX3_near_13 (by decide) (fun c13 => ?_) (fun c13 => ?_)
    · rw [if_pos c13] at hG
      refine lv_iconst (v := (-1)) hx hb dX3_near_24 (by decide) ?_
      exact end0i S hr hlocks hG dX3_near_25
    · have t13 := bf_isSign_n c13
      rw [if_neg c13] at hG
      refine lv_iload hx hb dX3_near_16 (lv_at hl 4 rfl) ?_
      refine call0i (va_runS (As := [.int p4]) (rest := []) S (c_X3_isSmell l p4) (va_cwS 1 S.2.2.2.2 gX3_near_X3_isSmell rfl rfl rfl hd_X3_isSmell ⟨Nat.le_of_ble_eq_true rfl, Nat.le_of_ble_eq_true rfl⟩) pre0S rfl rfl hl.1 rfl (lv_room (Nat.le_of_ble_eq_true rfl)) dX3_near_18 ⟨Nat.zero_le _, Nat.zero_le _⟩) ?_
      refine lv_if_ne (tgt := 26) hx hb dX3_near_21 (by decide) (fun c21 => ?_) (fun c21 => ?_)
      · have t21 := bf_isSmell_n c21
        rw [if_neg c21] at hG
        refine lv_iload_n hx hb dX3_near_26 rfl (lv_at hl 3 rfl) ?_
        refine lv_if_lt (tgt := 36) hx hb dX3_near_27 (by decide) (fun c27 => ?_) (fun c27 => ?_)
        · have t27 : p3.toInt < 0 := qt_lt c27
          rw [if_pos c27] at hG
          refine lv_bipush (v := (-2)) hx hb dX3_near_36 (by decide) ?_
          exact end0i S hr hlocks hG dX3_near_38
        · have t27 : 0 ≤ p3.toInt := qt_nlt c27
          rw [if_neg c27] at hG
          refine lv_iload_n hx hb dX3_near_30 rfl (lv_at hl 3 rfl) ?_
          refine lv_bipush (v := 10) hx hb dX3_near_31 (by decide) ?_
          refine lv_icmp_le (tgt := 39) hx hb dX3_near_33 (by decide) (fun c33 => ?_) (fun c33 => ?_)
          · have t33 : p3.toInt ≤ 10 := qt_le c33
            rw [if_pos c33] at hG
            refine lv_aload_n hx hb dX3_near_39 rfl (lv_at hl 0 rfl) ?_
            refine r_get (C := RX3) (T := TX3) (N := 14) S hK w (k := 0) (by decide) (eC_0 ad _) rfl hinX3 1 (by decide) (List.mem_of_getElem? (i := 1) rfl) rfl dX3_near_40 ?_
            refine lv_iload_n hx hb dX3_near_43 rfl (lv_at hl 1 rfl) ?_
            have g44 : vp_in p1 8 := vpi (by omega) (by omega)
            refine r_aald S hK w (k := 2) (by decide) (eC_2 ad _) (t0 := 2) rfl g44 dX3_near_44 ?_
            refine lv_aload_n hx hb dX3_near_45 rfl (lv_at hl 0 rfl) ?_
            refine r_get (C := RX3) (T := TX3) (N := 14) S hK w (k := 0) (by decide) (eC_0 ad _) rfl hinX3 1 (by decide) (List.mem_of_getElem? (i := 1) rfl) rfl dX3_near_46 ?_
            refine lv_iload_n hx hb dX3_near_49 rfl (lv_at hl 2 rfl) ?_
            have g50 : vp_in p2 8 := vpi (by omega) (by omega)
            refine r_aald S hK w (k := 2) (by decide) (eC_2 ad _) (t0 := 2) rfl g50 dX3_near_50 ?_
            refine lv_iload_n hx hb dX3_near_51 rfl (lv_at hl 3 rfl) ?_
            refine lv_iload hx hb dX3_near_52 (lv_at hl 4 rfl) ?_
            refine call0i (va_runS (As := [.ref (ad (17 + (ix p1))), .ref (ad (17 + (ix p2))), .int p3, .int p4]) (rest := []) S (c_X3_strengthNear l ad D s.heap.size σ (ix p1) (ix p2) p3 p4 (vpl g44) (vpl g50) (by omega)) (va_cwS 4 S.2.2.2.2 gX3_near_X3_strengthNear rfl rfl rfl hd_X3_strengthNear ⟨Nat.le_of_ble_eq_true rfl, Nat.le_of_ble_eq_true rfl⟩) (preS hK hN w) rfl rfl hl.1 rfl (lv_room (Nat.le_of_ble_eq_true rfl)) dX3_near_54 ⟨Nat.zero_le _, Nat.zero_le _⟩) ?_
            exact end0i S hr hlocks hG dX3_near_57
          · have t33 : 10 < p3.toInt := qt_nle c33
            rw [if_neg c33] at hG
            refine lv_bipush (v := (-2)) hx hb dX3_near_36 (by decide) ?_
            exact end0i S hr hlocks hG dX3_near_38
      · rw [if_pos c21] at hG
        refine lv_iconst (v := (-1)) hx hb dX3_near_24 (by decide) ?_
        exact end0i S hr hlocks hG dX3_near_25
set_option maxHeartbeats 4000000 in
set_option maxRecDepth 100000 in
theorem c_X3_steals (l : Launch) (ad : Nat → Nat) (D : va_G) (sz : Nat) (σ : St) (p1 : Int32) (p2 : Int32) (hok : OkC σ) : Met l yX3_steals wsX3_steals ({ frames := 3, cells := 0, slots := 0, locals := 66 }) (PreW 41 (eC ad) ad D (tyC ad) σ sz ([.ref (ad 0), .int p1, .int p2] : List Value)) (QWi 41 (eC ad) ad D (f_X3_steals σ p1 p2) (CA 41 ad sz)) 0 0 (CA 41 ad sz) := by
  generalize hG : f_X3_steals σ p1 p2 = T
  refine headW (cc := cX3_steals) (maxL := 5) (ret := (some .int)) ([.ref (ad 0), .int p1, .int p2] : List Value) (by decide) rfl (Nat.le_of_ble_eq_true rfl) ?_
  intro p e s m below meth c S hr hlocks hK hN hsz w ls hl
  have S : CallFix p m c cX3_steals 5 s ([.ref (ad 0), .int p1, .int p2] : List Value).toArray wsX3_steals RX3 := S
  have hx := S.1
  have hb := S.2.1
  have z0 : (0 : Int32).toInt = 0 := by decide
  have z1 : (1 : Int32).toInt = 1 := by decide
  have hl : lv_has ls 5 [(0, .ref (ad 0)), (1, .int p1), (2, .int p2)] := hl
  have hinX3 : ∀ w ∈ wsX30, w ∈ wsX3_steals := (fun _ h => List.mem_cons_of_mem _ (List.mem_append_left _ (List.mem_append_right _ h)))
  have hinX2 : ∀ w ∈ wsX20, w ∈ wsX3_steals := (fun _ h => List.mem_cons_of_mem _ (List.mem_append_right _ h))
  have okf0 := hok.1
  have okf1 := hok.2.1
  have okf2 := hok.2.2.1
  have okf3 := hok.2.2.2.1
  have okf4 := hok.2.2.2.2.1
  have okf5 := hok.2.2.2.2.2
  rw [f_X3_steals] at hG
  refine lv_aload_n hx hb dX3_steals_0 rfl (lv_at hl 0 rfl) ?_
  refine lv_iload_n hx hb dX3_steals_1 rfl (lv_at hl 1 rfl) ?_
  refine lv_iload_n hx hb dX3_steals_2 rfl (lv_at hl 2 rfl) ?_
  refine call0i (va_runV (As := [.int p1, .int p2]) (rest := []) S (c_X3_areTwoSigns l ad D s.heap.size σ p1 p2) (cwV 2 S.2.2.2.2 gX3_steals_X3_areTwoSigns rfl rfl rfl ⟨rfl, hd_X3_areTwoSigns⟩ ⟨Nat.le_of_ble_eq_true rfl, Nat.le_of_ble_eq_true rfl⟩) (preV hK hN w (k := 0) (by decide) (eC_0 ad _) (q := (RX3, TX3, 14)) rfl) rfl rfl hl.1 rfl (lv_room (Nat.le_of_ble_eq_true rfl)) dX3_steals_3 ⟨Nat.zero_le _, Nat.zero_le _⟩) ?_
  refine lv_if_ne (tgt := 11) hx hb dX3_steals_6 (by decide) (fun c6 => ?_) (fun c6 => ?_)
  · have t6 := bf_areTwoSigns_n c6
    rw [if_neg c6] at hG
    refine lv_iconst (v := 0) hx hb dX3_steals_11 (by decide) ?_
    refine lv_istore_n (lv' := [(3, .int 0), (0, .ref (ad 0)), (1, .int p1), (2, .int p2)]) hx hb dX3_steals_12 rfl hl (by decide) rfl (fun ls hl => ?_)
    have L13 : ∀ (n : Nat) (res13 : (Int32 × St) ⊕ (St)), ∀ (v3_13 : Int32), ∀ (S_13 : St), ((OkC S_13) ∧ (0 ≤ v3_13.toInt ∧ v3_13.toInt ≤ 11)) → (11 - v3_13.toInt).toNat < n → (lp_X3_steals_13 p1 p2 n v3_13 S_13) = res13 → (∀ r : Int32 × St, res13 = Sum.inl r → r = T) → (∀ (S_13e : St), (OkC S_13e) → res13 = Sum.inr S_13e → ∀ (H : Heap) (locs : List Loc), CW 41 (eC ad) ad D (CA 41 ad sz) s.heap S_13e H locs → ∀ ls : Array Slot, lv_has ls 5 [(0, .ref (ad 0))] → W p l e (headSpec wsX3_steals ({ frames := 3, cells := 0, slots := 0, locals := 66 })).room s m ([.ref (ad 0), .int p1, .int p2] : List Value).toArray below meth c H locs 0 0 (MQ below (QWi 41 (eC ad) ad D T (CA 41 ad sz)) ([.ref (ad 0), .int p1, .int p2] : List Value).toArray s 0 0 (CA 41 ad sz)) (F0 m 88 ls [])) → ∀ (H : Heap) (locs : List Loc), CW 41 (eC ad) ad D (CA 41 ad sz) s.heap S_13 H locs → ∀ ls : Array Slot, lv_has ls 5 [(0, .ref (ad 0)), (1, .int p1), (2, .int p2), (3, .int v3_13)] → W p l e (headSpec wsX3_steals ({ frames := 3, cells := 0, slots := 0, locals := 66 })).room s m ([.ref (ad 0), .int p1, .int p2] : List Value).toArray below meth c H locs 0 0 (MQ below (QWi 41 (eC ad) ad D T (CA 41 ad sz)) ([.ref (ad 0), .int p1, .int p2] : List Value).toArray s 0 0 (CA 41 ad sz)) (F0 m 13 ls []) := by
      intro n
      induction n with
      | zero => intro _ _ _ _ hm; exact absurd hm (Nat.not_lt_zero _)
      | succ n ih13 =>
        intro res13 v3_13 S_13 hI13 hm13 hG hret13 hex13 H locs w ls hl
        obtain ⟨hok, i13_1⟩ := id hI13
        have okf0 := hok.1
        have okf1 := hok.2.1
        have okf2 := hok.2.2.1
        have okf3 := hok.2.2.2.1
        have okf4 := hok.2.2.2.2.1
        have okf5 := hok.2.2.2.2.2
        rw [lp_X3_steals_13] at hG
        refine lv_iload_n hx hb dX3_steals_13 rfl (lv_at hl 3 rfl) ?_
        refine lv_bipush (v := 10) hx hb dX3_steals_14 (by decide) ?_
        refine lv_icmp_gt (tgt := 88) hx hb dX3_steals_16 (by decide) (fun c16 => ?_) (fun c16 => ?_)
        · have t16 : 10 < v3_13.toInt := qt_lt c16
          rw [if_pos c16] at hG
          exact hex13 S_13 hok hG.symm _ _ w ls (lv_sub hl [0] rfl)
        · have t16 : v3_13.toInt ≤ 10 := qt_nlt c16
          rw [if_neg c16] at hG
          refine lv_iconst (v := 0) hx hb dX3_steals_19 (by decide) ?_
          refine lv_istore (lv' := [(4, .int 0), (0, .ref (ad 0)), (1, .int p1), (2, .int p2), (3, .int v3_13)]) hx hb dX3_steals_20 hl (by decide) rfl (fun ls hl => ?_)
          have L22 : ∀ (n : Nat) (res22 : St), ∀ (v4_22 : Int32), ∀ (S_22 : St), ((OkC S_22) ∧ (0 ≤ v4_22.toInt ∧ v4_22.toInt ≤ 9)) → (9 - v4_22.toInt).toNat < n → (lp_X3_steals_22 p1 p2 v3_13 n v4_22 S_22) = res22 → (∀ (S_22e : St), (OkC S_22e) → res22 = S_22e → ∀ (H : Heap) (locs : List Loc), CW 41 (eC ad) ad D (CA 41 ad sz) s.heap S_22e H locs → ∀ ls : Array Slot, lv_has ls 5 [(0, .ref (ad 0)), (1, .int p1), (2, .int p2), (3, .int v3_13)] → W p l e (headSpec wsX3_steals ({ frames := 3, cells := 0, slots := 0, locals := 66 })).room s m ([.ref (ad 0), .int p1, .int p2] : List Value).toArray below meth c H locs 0 0 (MQ below (QWi 41 (eC ad) ad D T (CA 41 ad sz)) ([.ref (ad 0), .int p1, .int p2] : List Value).toArray s 0 0 (CA 41 ad sz)) (F0 m 60 ls [])) → ∀ (H : Heap) (locs : List Loc), CW 41 (eC ad) ad D (CA 41 ad sz) s.heap S_22 H locs → ∀ ls : Array Slot, lv_has ls 5 [(0, .ref (ad 0)), (1, .int p1), (2, .int p2), (3, .int v3_13), (4, .int v4_22)] → W p l e (headSpec wsX3_steals ({ frames := 3, cells := 0, slots := 0, locals := 66 })).room s m ([.ref (ad 0), .int p1, .int p2] : List Value).toArray below meth c H locs 0 0 (MQ below (QWi 41 (eC ad) ad D T (CA 41 ad sz)) ([.ref (ad 0), .int p1, .int p2] : List Value).toArray s 0 0 (CA 41 ad sz)) (F0 m 22 ls []) := by
            intro n
            induction n with
            | zero => intro _ _ _ _ hm; exact absurd hm (Nat.not_lt_zero _)
            | succ n ih22 =>
              intro res22 v4_22 S_22 hI22 hm22 hG hex22 H locs w ls hl
              obtain ⟨hok, i22_1⟩ := id hI22
              have okf0 := hok.1
              have okf1 := hok.2.1
              have okf2 := hok.2.2.1
              have okf3 := hok.2.2.2.1
              have okf4 := hok.2.2.2.2.1
              have okf5 := hok.2.2.2.2.2
              rw [lp_X3_steals_22] at hG
              refine lv_iload hx hb dX3_steals_22 (lv_at hl 4 rfl) ?_
              refine lv_bipush (v := 9) hx hb dX3_steals_24 (by decide) ?_
              refine lv_icmp_ge (tgt := 60) hx hb dX3_steals_26 (by decide) (fun c26 => ?_) (fun c26 => ?_)
              · have t26 : 9 ≤ v4_22.toInt := qt_le c26
                rw [if_pos c26] at hG
                exact hex22 S_22 hok hG.symm _ _ w ls (lv_sub hl [0, 1, 2, 3] rfl)
              · have t26 : v4_22.toInt < 9 := qt_nle c26
                rw [if_neg c26] at hG
                refine lv_aload_n hx hb dX3_steals_29 rfl (lv_at hl 0 rfl) ?_
                refine r_get (C := RX3) (T := TX3) (N := 14) S hK w (k := 0) (by decide) (eC_0 ad _) rfl hinX3 11 (by decide) (List.mem_of_getElem? (i := 1) rfl) rfl dX3_steals_30 ?_
                refine lv_iload hx hb dX3_steals_33 (lv_at hl 4 rfl) ?_
                refine lv_aload_n hx hb dX3_steals_35 rfl (lv_at hl 0 rfl) ?_
                refine r_get (C := RX3) (T := TX3) (N := 14) S hK w (k := 0) (by decide) (eC_0 ad _) rfl hinX3 1 (by decide) (List.mem_of_getElem? (i := 2) rfl) rfl dX3_steals_36 ?_
                refine lv_iload_n hx hb dX3_steals_39 rfl (lv_at hl 1 rfl) ?_
                have g40 : vp_in p1 8 := vpi (by omega) (by omega)
                refine r_aald S hK w (k := 2) (by decide) (eC_2 ad _) (t0 := 2) rfl g40 dX3_steals_40 ?_
                refine lv_aload_n hx hb dX3_steals_41 rfl (lv_at hl 0 rfl) ?_
                refine r_get (C := RX3) (T := TX3) (N := 14) S hK w (k := 0) (by decide) (eC_0 ad _) rfl hinX3 1 (by decide) (List.mem_of_getElem? (i := 2) rfl) rfl dX3_steals_42 ?_
                refine lv_iload_n hx hb dX3_steals_45 rfl (lv_at hl 2 rfl) ?_
                have g46 : vp_in p2 8 := vpi (by omega) (by omega)
                refine r_aald S hK w (k := 2) (by decide) (eC_2 ad _) (t0 := 2) rfl g46 dX3_steals_46 ?_
                refine lv_iload_n hx hb dX3_steals_47 rfl (lv_at hl 3 rfl) ?_
                refine lv_iload hx hb dX3_steals_48 (lv_at hl 4 rfl) ?_
                refine call0i (va_runS (As := [.ref (ad (17 + (ix p1))), .ref (ad (17 + (ix p2))), .int v3_13, .int v4_22]) (rest := [.int v4_22, .ref (ad 6)]) S (c_X3_strengthNear l ad D H.size S_22 (ix p1) (ix p2) v3_13 v4_22 (vpl g40) (vpl g46) (by omega)) (va_cwS 4 S.2.2.2.2 gX3_steals_X3_strengthNear rfl rfl rfl hd_X3_strengthNear ⟨Nat.le_of_ble_eq_true rfl, Nat.le_of_ble_eq_true rfl⟩) (preS hK hN w) rfl rfl hl.1 rfl (lv_room (Nat.le_of_ble_eq_true rfl)) dX3_steals_50 ⟨Nat.zero_le _, Nat.zero_le _⟩) ?_
                have g53 : vp_in v4_22 9 := vpi (by omega) (by omega)
                refine r_iast (cA := ad 100) (N := 9) S hK w (k := 6) (by decide) (fun f => eC_6 ad f) rfl g53 dX3_steals_53 (fun H locs w => ?_)
                have hok : OkC (u2 S_22 6 (ix v4_22) (f_X3_strengthNear S_22 (ix p1) (ix p2) v3_13 v4_22)) := okC_scr (show scrC 6 by unfold scrC; omega) hok
                have okf0 := hok.1
                have okf1 := hok.2.1
                have okf2 := hok.2.2.1
                have okf3 := hok.2.2.2.1
                have okf4 := hok.2.2.2.2.1
                have okf5 := hok.2.2.2.2.2
                refine lv_iinc (v := (v4_22 + 1)) (lv' := [(4, .int (v4_22 + 1)), (0, .ref (ad 0)), (1, .int p1), (2, .int p2), (3, .int v3_13)]) hx hb dX3_steals_54 hl (k := 4) rfl rfl (by decide) rfl (fun ls hl => ?_)
                refine lv_goto (tgt := 22) hx hb dX3_steals_57 (by decide) ?_
                have b4_22 : (v4_22 + 1).toInt = v4_22.toInt + 1 := inc_toInt (by omega) (by omega)
                exact ih22 _ (v4_22 + 1) (u2 S_22 6 (ix v4_22) (f_X3_strengthNear S_22 (ix p1) (ix p2) v3_13 v4_22)) ⟨hok, (by omega)⟩ (by omega) hG hex22 _ _ w ls (lv_sub hl [1, 2, 3, 4, 0] rfl)
          refine L22 200 _ 0 S_13 ⟨hok, (by omega)⟩ (by omega) rfl (fun S_22e hok hr22 H locs w ls hl => ?_) _ _ w ls (lv_sub hl [1, 2, 3, 4, 0] rfl)
          rw [hr22] at hG
          have okf0 := hok.1
          have okf1 := hok.2.1
          have okf2 := hok.2.2.1
          have okf3 := hok.2.2.2.1
          have okf4 := hok.2.2.2.2.1
          have okf5 := hok.2.2.2.2.2
          refine lv_aload_n hx hb dX3_steals_60 rfl (lv_at hl 0 rfl) ?_
          refine lv_aload_n hx hb dX3_steals_61 rfl (lv_at hl 0 rfl) ?_
          refine r_get (C := RX3) (T := TX3) (N := 14) S hK w (k := 0) (by decide) (eC_0 ad _) rfl hinX3 11 (by decide) (List.mem_of_getElem? (i := 1) rfl) rfl dX3_steals_62 ?_
          refine lv_aload_n hx hb dX3_steals_65 rfl (lv_at hl 0 rfl) ?_
          refine r_get (C := RX3) (T := TX3) (N := 14) S hK w (k := 0) (by decide) (eC_0 ad _) rfl hinX3 1 (by decide) (List.mem_of_getElem? (i := 2) rfl) rfl dX3_steals_66 ?_
          refine lv_iload_n hx hb dX3_steals_69 rfl (lv_at hl 2 rfl) ?_
          have g70 : vp_in p2 8 := vpi (by omega) (by omega)
          refine r_aald S hK w (k := 2) (by decide) (eC_2 ad _) (t0 := 2) rfl g70 dX3_steals_70 ?_
          refine r_getN (C := RX2) (T := TX2) (N := 3) S hK hN w (k := (17 + (ix p2))) (Nat.lt_of_lt_of_le (Nat.add_lt_add_left (vpl g70) 17) (by decide)) (eC_sg ad (vpl g70) _) rfl hinX2 2 (by decide) 5 rfl rfl dX3_steals_71 ?_
          refine call0i (va_runV (As := [.ref (ad 6), .ref (ad (25 + (ix p2)))]) (rest := []) S (c_X3_areAlike l ad D H.size S_22e 6 (25 + (ix p2)) (Or.inl rfl) (Or.inr ⟨_, (vpl g70), rfl⟩)) (cwV 2 S.2.2.2.2 gX3_steals_X3_areAlike rfl rfl rfl ⟨rfl, hd_X3_areAlike⟩ ⟨Nat.le_of_ble_eq_true rfl, Nat.le_of_ble_eq_true rfl⟩) (preV hK hN w (k := 0) (by decide) (eC_0 ad _) (q := (RX3, TX3, 14)) rfl) rfl rfl hl.1 rfl (lv_room (Nat.le_of_ble_eq_true rfl)) dX3_steals_74 ⟨Nat.zero_le _, Nat.zero_le _⟩) ?_
          refine lv_if_eq (tgt := 82) hx hb dX3_steals_77 (by decide) (fun c77 => ?_) (fun c77 => ?_)
          · rw [if_pos c77] at hG
            refine lv_iinc (v := (v3_13 + 1)) (lv' := [(3, .int (v3_13 + 1)), (0, .ref (ad 0)), (1, .int p1), (2, .int p2)]) hx hb dX3_steals_82 hl (k := 3) rfl rfl (by decide) rfl (fun ls hl => ?_)
            refine lv_goto (tgt := 13) hx hb dX3_steals_85 (by decide) ?_
            have b3_13 : (v3_13 + 1).toInt = v3_13.toInt + 1 := inc_toInt (by omega) (by omega)
            exact ih13 _ (v3_13 + 1) S_22e ⟨hok, (by omega)⟩ (by omega) hG hret13 hex13 _ _ w ls (lv_sub hl [1, 2, 3, 0] rfl)
          · rw [if_neg c77] at hG
            refine lv_iload_n hx hb dX3_steals_80 rfl (lv_at hl 3 rfl) ?_
            exact endWi S hr hlocks w (hret13 _ hG.symm) dX3_steals_81
    refine L13 200 _ 0 σ ⟨hok, (by omega)⟩ (by omega) rfl (fun r hr13 => by rw [hr13] at hG; exact hG) (fun S_13e hok hr13 H locs w ls hl => ?_) _ _ w ls (lv_sub hl [1, 2, 3, 0] rfl)
    rw [hr13] at hG
    dsimp only at hG
    have okf0 := hok.1
    have okf1 := hok.2.1
    have okf2 := hok.2.2.1
    have okf3 := hok.2.2.2.1
    have okf4 := hok.2.2.2.2.1
    have okf5 := hok.2.2.2.2.2
    refine lv_bipush (v := (-9)) hx hb dX3_steals_88 (by decide) ?_
    exact endWi S hr hlocks w hG dX3_steals_90
  · rw [if_pos c6] at hG
    refine lv_iconst (v := (-1)) hx hb dX3_steals_9 (by decide) ?_
    exact endWi S hr hlocks w hG dX3_steals_10
set_option maxHeartbeats 4000000 in
set_option maxRecDepth 100000 in
theorem c_X3_leastApart (l : Launch) (ad : Nat → Nat) (D : va_G) (sz : Nat) (σ : St) (p1 : Int32) (p2 : Int32) (p3 : Int32) (p4 : Int32) (hok : OkC σ) (hx1 : 0 ≤ p1.toInt ∧ p1.toInt < 9) (hx2 : 0 ≤ p2.toInt ∧ p2.toInt < 9) : Met l yX3_leastApart wsX3_leastApart ({ frames := 1, cells := 0, slots := 0, locals := 21 }) (PreW 41 (eC ad) ad D (tyC ad) σ sz ([.ref (ad 0), .int p1, .int p2, .int p3, .int p4] : List Value)) (Q0i (f_X3_leastApart σ p1 p2 p3 p4)) 0 0 N0 := by
  generalize hG : f_X3_leastApart σ p1 p2 p3 p4 = T
  refine headW (cc := cX3_leastApart) (maxL := 9) (ret := (some .int)) ([.ref (ad 0), .int p1, .int p2, .int p3, .int p4] : List Value) (by decide) rfl (Nat.le_of_ble_eq_true rfl) ?_
  intro p e s m below meth c S hr hlocks hK hN hsz w ls hl
  have S : CallFix p m c cX3_leastApart 9 s ([.ref (ad 0), .int p1, .int p2, .int p3, .int p4] : List Value).toArray wsX3_leastApart RX3 := S
  have hx := S.1
  have hb := S.2.1
  have z0 : (0 : Int32).toInt = 0 := by decide
  have z1 : (1 : Int32).toInt = 1 := by decide
  have hl : lv_has ls 9 [(0, .ref (ad 0)), (1, .int p1), (2, .int p2), (3, .int p3), (4, .int p4)] := hl
  have hinX3 : ∀ w ∈ wsX30, w ∈ wsX3_leastApart := (fun _ h => List.mem_cons_of_mem _ (List.mem_append_left _ (List.mem_append_right _ h)))
  have hinX2 : ∀ w ∈ wsX20, w ∈ wsX3_leastApart := (fun _ h => List.mem_cons_of_mem _ (List.mem_append_right _ h))
  have okf0 := hok.1
  have okf1 := hok.2.1
  have okf2 := hok.2.2.1
  have okf3 := hok.2.2.2.1
  have okf4 := hok.2.2.2.2.1
  have okf5 := hok.2.2.2.2.2
  rw [f_X3_leastApart] at hG
  refine lv_ldc hx hb S.2.2.2.1 (S.2.2.2.2 _ (List.mem_of_getElem? (i := 1) rfl)) dX3_leastApart_0 ?_
  refine lv_istore (lv' := [(5, .int 2147483647), (0, .ref (ad 0)), (1, .int p1), (2, .int p2), (3, .int p3), (4, .int p4)]) hx hb dX3_leastApart_2 hl (by decide) rfl (fun ls hl => ?_)
  refine lv_iconst (v := 0) hx hb dX3_leastApart_4 (by decide) ?_
  refine lv_istore (lv' := [(6, .int 0), (5, .int 2147483647), (0, .ref (ad 0)), (1, .int p1), (2, .int p2), (3, .int p3), (4, .int p4)]) hx hb dX3_leastApart_5 hl (by decide) rfl (fun ls hl => ?_)
  have L7 : ∀ (n : Nat) (res7 : Int32), ∀ (v5_7 : Int32), ∀ (v6_7 : Int32), ((0 ≤ v6_7.toInt ∧ v6_7.toInt ≤ 8)) → (8 - v6_7.toInt).toNat < n → (lp_X3_leastApart_7 σ p1 p2 p3 p4 n v5_7 v6_7) = res7 → (∀ (v5_7e : Int32), res7 = v5_7e → ∀ ls : Array Slot, lv_has ls 9 [(0, .ref (ad 0)), (5, .int v5_7e)] → W p l e (headSpec wsX3_leastApart ({ frames := 1, cells := 0, slots := 0, locals := 21 })).room s m ([.ref (ad 0), .int p1, .int p2, .int p3, .int p4] : List Value).toArray below meth c s.heap [] 0 0 (MQ below (Q0i T) ([.ref (ad 0), .int p1, .int p2, .int p3, .int p4] : List Value).toArray s 0 0 N0) (F0 m 86 ls [])) → ∀ ls : Array Slot, lv_has ls 9 [(0, .ref (ad 0)), (1, .int p1), (2, .int p2), (3, .int p3), (4, .int p4), (5, .int v5_7), (6, .int v6_7)] → W p l e (headSpec wsX3_leastApart ({ frames := 1, cells := 0, slots := 0, locals := 21 })).room s m ([.ref (ad 0), .int p1, .int p2, .int p3, .int p4] : List Value).toArray below meth c s.heap [] 0 0 (MQ below (Q0i T) ([.ref (ad 0), .int p1, .int p2, .int p3, .int p4] : List Value).toArray s 0 0 N0) (F0 m 7 ls []) := by
    intro n
    induction n with
    | zero => intro _ _ _ _ hm; exact absurd hm (Nat.not_lt_zero _)
    | succ n ih7 =>
      intro res7 v5_7 v6_7 hI7 hm7 hG hex7 ls hl
      have i7_0 := hI7
      rw [lp_X3_leastApart_7] at hG
      refine lv_iload hx hb dX3_leastApart_7 (lv_at hl 6 rfl) ?_
      refine lv_aload_n hx hb dX3_leastApart_9 rfl (lv_at hl 0 rfl) ?_
      refine r_get (C := RX3) (T := TX3) (N := 14) S hK w (k := 0) (by decide) (eC_0 ad _) rfl hinX3 4 (by decide) (List.mem_of_getElem? (i := 2) rfl) rfl dX3_leastApart_10 ?_
      refine lv_icmp_ge (tgt := 86) hx hb dX3_leastApart_13 (by decide) (fun c13 => ?_) (fun c13 => ?_)
      · have t13 : (σ 0 4).toInt ≤ v6_7.toInt := qt_le c13
        rw [if_pos c13] at hG
        exact hex7 v5_7 hG.symm ls (lv_sub hl [0, 5] rfl)
      · have t13 : v6_7.toInt < (σ 0 4).toInt := qt_nle c13
        rw [if_neg c13] at hG
        refine lv_aload_n hx hb dX3_leastApart_16 rfl (lv_at hl 0 rfl) ?_
        refine r_get (C := RX3) (T := TX3) (N := 14) S hK w (k := 0) (by decide) (eC_0 ad _) rfl hinX3 1 (by decide) (List.mem_of_getElem? (i := 3) rfl) rfl dX3_leastApart_17 ?_
        refine lv_iload hx hb dX3_leastApart_20 (lv_at hl 6 rfl) ?_
        have g22 : vp_in v6_7 8 := vpi (by omega) (by omega)
        refine r_aald S hK w (k := 2) (by decide) (eC_2 ad _) (t0 := 2) rfl g22 dX3_leastApart_22 ?_
        refine r_getN (C := RX2) (T := TX2) (N := 3) S hK hN w (k := (17 + (ix v6_7))) (Nat.lt_of_lt_of_le (Nat.add_lt_add_left (vpl g22) 17) (by decide)) (eC_sg ad (vpl g22) _) rfl hinX2 2 (by decide) 5 rfl rfl dX3_leastApart_23 ?_
        refine lv_astore (lv' := [(7, .ref (ad (25 + (ix v6_7)))), (0, .ref (ad 0)), (1, .int p1), (2, .int p2), (3, .int p3), (4, .int p4), (5, .int v5_7), (6, .int v6_7)]) hx hb dX3_leastApart_26 hl (by decide) rfl (fun ls hl => ?_)
        refine lv_aload_n hx hb dX3_leastApart_28 rfl (lv_at hl 1 rfl) ?_
        refine r_get (C := RX3) (T := TX3) (N := 14) S hK w (k := 0) (by decide) (eC_0 ad _) rfl hinX3 1 (by decide) (List.mem_of_getElem? (i := 3) rfl) rfl dX3_leastApart_29 ?_
        refine lv_iload hx hb dX3_leastApart_32 (lv_at hl 7 rfl) ?_
        have g34 : vp_in v6_7 8 := vpi (by omega) (by omega)
        refine r_aald S hK w (k := 2) (by decide) (eC_2 ad _) (t0 := 2) rfl g34 dX3_leastApart_34 ?_
        refine r_getN (C := RX2) (T := TX2) (N := 3) S hK hN w (k := (17 + (ix v6_7))) (Nat.lt_of_lt_of_le (Nat.add_lt_add_left (vpl g34) 17) (by decide)) (eC_sg ad (vpl g34) _) rfl hinX2 1 (by decide) 4 rfl rfl dX3_leastApart_35 ?_
        refine lv_aload hx hb dX3_leastApart_38 (lv_at hl 0 rfl) ?_
        refine lv_iload_n hx hb dX3_leastApart_40 rfl (lv_at hl 2 rfl) ?_
        have g41 : vp_in p1 9 := vpi (by omega) (by omega)
        refine r_iald (cA := ad 100) (N := 9) S hK w (k := (25 + (ix v6_7))) (Nat.lt_of_lt_of_le (Nat.add_lt_add_left (vpl g22) 25) (by decide)) (fun f => eC_st ad (vpl g22) f) rfl g41 dX3_leastApart_41 ?_
        refine lv_isub hx hb dX3_leastApart_42 ?_
        refine lv_aload hx hb dX3_leastApart_43 (lv_at hl 0 rfl) ?_
        refine lv_iload_n hx hb dX3_leastApart_45 rfl (lv_at hl 3 rfl) ?_
        have g46 : vp_in p2 9 := vpi (by omega) (by omega)
        refine r_iald (cA := ad 100) (N := 9) S hK w (k := (25 + (ix v6_7))) (Nat.lt_of_lt_of_le (Nat.add_lt_add_left (vpl g22) 25) (by decide)) (fun f => eC_st ad (vpl g22) f) rfl g46 dX3_leastApart_46 ?_
        refine lv_isub hx hb dX3_leastApart_47 ?_
        refine lv_istore (lv' := [(8, .int (((σ (17 + (ix v6_7)) 1) - (σ (25 + (ix v6_7)) (ix p1))) - (σ (25 + (ix v6_7)) (ix p2)))), (7, .ref (ad (25 + (ix v6_7)))), (0, .ref (ad 0)), (1, .int p1), (2, .int p2), (3, .int p3), (4, .int p4), (5, .int v5_7), (6, .int v6_7)]) hx hb dX3_leastApart_48 hl (by decide) rfl (fun ls hl => ?_)
        refine lv_iload hx hb dX3_leastApart_50 (lv_at hl 7 rfl) ?_
        refine lv_iload hx hb dX3_leastApart_52 (lv_at hl 0 rfl) ?_
        refine lv_iload_n hx hb dX3_leastApart_54 rfl (lv_at hl 5 rfl) ?_
        refine lv_aload hx hb dX3_leastApart_55 (lv_at hl 1 rfl) ?_
        refine lv_iload_n hx hb dX3_leastApart_57 rfl (lv_at hl 3 rfl) ?_
        have g58 : vp_in p1 9 := vpi (by omega) (by omega)
        refine r_iald (cA := ad 100) (N := 9) S hK w (k := (25 + (ix v6_7))) (Nat.lt_of_lt_of_le (Nat.add_lt_add_left (vpl g22) 25) (by decide)) (fun f => eC_st ad (vpl g22) f) rfl g58 dX3_leastApart_58 ?_
        refine lv_isub hx hb dX3_leastApart_59 ?_
        refine r_abs S hl.1 (List.mem_of_getElem? (i := 4) rfl) (List.mem_of_getElem? (i := 5) rfl) (List.mem_of_getElem? (i := 6) rfl) (List.mem_of_getElem? (i := 7) rfl) ⟨Nat.le_of_ble_eq_true rfl, Nat.le_of_ble_eq_true rfl, Nat.zero_le _, Nat.zero_le _⟩ dX3_leastApart_60 ?_
        refine lv_iadd hx hb dX3_leastApart_63 ?_
        refine lv_iload hx hb dX3_leastApart_64 (lv_at hl 6 rfl) ?_
        refine lv_aload hx hb dX3_leastApart_66 (lv_at hl 1 rfl) ?_
        refine lv_iload_n hx hb dX3_leastApart_68 rfl (lv_at hl 4 rfl) ?_
        have g69 : vp_in p2 9 := vpi (by omega) (by omega)
        refine r_iald (cA := ad 100) (N := 9) S hK w (k := (25 + (ix v6_7))) (Nat.lt_of_lt_of_le (Nat.add_lt_add_left (vpl g22) 25) (by decide)) (fun f => eC_st ad (vpl g22) f) rfl g69 dX3_leastApart_69 ?_
        refine lv_isub hx hb dX3_leastApart_70 ?_
        refine r_abs S hl.1 (List.mem_of_getElem? (i := 4) rfl) (List.mem_of_getElem? (i := 5) rfl) (List.mem_of_getElem? (i := 6) rfl) (List.mem_of_getElem? (i := 7) rfl) ⟨Nat.le_of_ble_eq_true rfl, Nat.le_of_ble_eq_true rfl, Nat.zero_le _, Nat.zero_le _⟩ dX3_leastApart_71 ?_
        refine lv_iadd hx hb dX3_leastApart_74 ?_
        refine r_min S hl.1 (List.mem_of_getElem? (i := 8) rfl) (List.mem_of_getElem? (i := 9) rfl) (List.mem_of_getElem? (i := 6) rfl) (List.mem_of_getElem? (i := 10) rfl) ⟨Nat.le_of_ble_eq_true rfl, Nat.le_of_ble_eq_true rfl, Nat.zero_le _, Nat.zero_le _⟩ dX3_leastApart_75 ?_
        refine lv_istore (lv' := [(5, .int (jmin v5_7 (((((σ (17 + (ix v6_7)) 1) - (σ (25 + (ix v6_7)) (ix p1))) - (σ (25 + (ix v6_7)) (ix p2))) + (jabs (p3 - (σ (25 + (ix v6_7)) (ix p1))))) + (jabs (p4 - (σ (25 + (ix v6_7)) (ix p2))))))), (8, .int (((σ (17 + (ix v6_7)) 1) - (σ (25 + (ix v6_7)) (ix p1))) - (σ (25 + (ix v6_7)) (ix p2)))), (7, .ref (ad (25 + (ix v6_7)))), (0, .ref (ad 0)), (1, .int p1), (2, .int p2), (3, .int p3), (4, .int p4), (6, .int v6_7)]) hx hb dX3_leastApart_78 hl (by decide) rfl (fun ls hl => ?_)
        refine lv_iinc (v := (v6_7 + 1)) (lv' := [(6, .int (v6_7 + 1)), (5, .int (jmin v5_7 (((((σ (17 + (ix v6_7)) 1) - (σ (25 + (ix v6_7)) (ix p1))) - (σ (25 + (ix v6_7)) (ix p2))) + (jabs (p3 - (σ (25 + (ix v6_7)) (ix p1))))) + (jabs (p4 - (σ (25 + (ix v6_7)) (ix p2))))))), (8, .int (((σ (17 + (ix v6_7)) 1) - (σ (25 + (ix v6_7)) (ix p1))) - (σ (25 + (ix v6_7)) (ix p2)))), (7, .ref (ad (25 + (ix v6_7)))), (0, .ref (ad 0)), (1, .int p1), (2, .int p2), (3, .int p3), (4, .int p4)]) hx hb dX3_leastApart_80 hl (k := 8) rfl rfl (by decide) rfl (fun ls hl => ?_)
        refine lv_goto (tgt := 7) hx hb dX3_leastApart_83 (by decide) ?_
        have b6_7 : (v6_7 + 1).toInt = v6_7.toInt + 1 := inc_toInt (by omega) (by omega)
        exact ih7 _ (jmin v5_7 (((((σ (17 + (ix v6_7)) 1) - (σ (25 + (ix v6_7)) (ix p1))) - (σ (25 + (ix v6_7)) (ix p2))) + (jabs (p3 - (σ (25 + (ix v6_7)) (ix p1))))) + (jabs (p4 - (σ (25 + (ix v6_7)) (ix p2)))))) (v6_7 + 1) (by omega) (by omega) hG hex7 ls (lv_sub hl [4, 5, 6, 7, 8, 1, 0] rfl)
  refine L7 200 _ 2147483647 0 (by omega) (by omega) rfl (fun v5_7e hr7 ls hl => ?_) ls (lv_sub hl [2, 3, 4, 5, 6, 1, 0] rfl)
  rw [hr7] at hG
  refine lv_iload hx hb dX3_leastApart_86 (lv_at hl 1 rfl) ?_
  exact end0i S hr hlocks hG dX3_leastApart_88
set_option maxHeartbeats 4000000 in
set_option maxRecDepth 100000 in
theorem c_X3_tryStrengths (l : Launch) (ad : Nat → Nat) (D : va_G) (sz : Nat) (σ : St) (p1 : Int32) (p2 : Int32) (hok : OkC σ) (hx1 : 0 ≤ p1.toInt ∧ p1.toInt < 9) (hx2 : 0 ≤ p2.toInt ∧ p2.toInt < 9) : Met l yX3_tryStrengths wsX3_tryStrengths ({ frames := 2, cells := 0, slots := 0, locals := 49 }) (PreW 41 (eC ad) ad D (tyC ad) σ sz ([.ref (ad 0), .int p1, .int p2] : List Value)) (QWv 41 (eC ad) ad D (f_X3_tryStrengths σ p1 p2) (CA 41 ad sz)) 0 0 (CA 41 ad sz) := by
  generalize hG : f_X3_tryStrengths σ p1 p2 = T
  refine headW (cc := cX3_tryStrengths) (maxL := 6) (ret := none) ([.ref (ad 0), .int p1, .int p2] : List Value) (by decide) rfl (Nat.le_of_ble_eq_true rfl) ?_
  intro p e s m below meth c S hr hlocks hK hN hsz w ls hl
  have S : CallFix p m c cX3_tryStrengths 6 s ([.ref (ad 0), .int p1, .int p2] : List Value).toArray wsX3_tryStrengths RX3 := S
  have hx := S.1
  have hb := S.2.1
  have z0 : (0 : Int32).toInt = 0 := by decide
  have z1 : (1 : Int32).toInt = 1 := by decide
  have hl : lv_has ls 6 [(0, .ref (ad 0)), (1, .int p1), (2, .int p2)] := hl
  have hinX3 : ∀ w ∈ wsX30, w ∈ wsX3_tryStrengths := (fun _ h => List.mem_cons_of_mem _ (List.mem_append_left _ (List.mem_append_right _ h)))
  have hinX2 : ∀ w ∈ wsX20, w ∈ wsX3_tryStrengths := (fun _ h => List.mem_cons_of_mem _ (List.mem_append_right _ h))
  have okf0 := hok.1
  have okf1 := hok.2.1
  have okf2 := hok.2.2.1
  have okf3 := hok.2.2.2.1
  have okf4 := hok.2.2.2.2.1
  have okf5 := hok.2.2.2.2.2
  rw [f_X3_tryStrengths] at hG
  refine lv_iconst (v := 0) hx hb dX3_tryStrengths_0 (by decide) ?_
  refine lv_istore_n (lv' := [(3, .int 0), (0, .ref (ad 0)), (1, .int p1), (2, .int p2)]) hx hb dX3_tryStrengths_1 rfl hl (by decide) rfl (fun ls hl => ?_)
  have L2 : ∀ (n : Nat) (res2 : St), ∀ (v3_2 : Int32), ∀ (S_2 : St), ((OkC S_2) ∧ (0 ≤ v3_2.toInt ∧ v3_2.toInt ≤ 10)) → (10 - v3_2.toInt).toNat < n → (lp_X3_tryStrengths_2 p1 p2 n v3_2 S_2) = res2 → (∀ (S_2e : St), (OkC S_2e) → res2 = S_2e → ∀ (H : Heap) (locs : List Loc), CW 41 (eC ad) ad D (CA 41 ad sz) s.heap S_2e H locs → ∀ ls : Array Slot, lv_has ls 6 [(0, .ref (ad 0))] → W p l e (headSpec wsX3_tryStrengths ({ frames := 2, cells := 0, slots := 0, locals := 49 })).room s m ([.ref (ad 0), .int p1, .int p2] : List Value).toArray below meth c H locs 0 0 (MQ below (QWv 41 (eC ad) ad D T (CA 41 ad sz)) ([.ref (ad 0), .int p1, .int p2] : List Value).toArray s 0 0 (CA 41 ad sz)) (F0 m 89 ls [])) → ∀ (H : Heap) (locs : List Loc), CW 41 (eC ad) ad D (CA 41 ad sz) s.heap S_2 H locs → ∀ ls : Array Slot, lv_has ls 6 [(0, .ref (ad 0)), (1, .int p1), (2, .int p2), (3, .int v3_2)] → W p l e (headSpec wsX3_tryStrengths ({ frames := 2, cells := 0, slots := 0, locals := 49 })).room s m ([.ref (ad 0), .int p1, .int p2] : List Value).toArray below meth c H locs 0 0 (MQ below (QWv 41 (eC ad) ad D T (CA 41 ad sz)) ([.ref (ad 0), .int p1, .int p2] : List Value).toArray s 0 0 (CA 41 ad sz)) (F0 m 2 ls []) := by
    intro n
    induction n with
    | zero => intro _ _ _ _ hm; exact absurd hm (Nat.not_lt_zero _)
    | succ n ih2 =>
      intro res2 v3_2 S_2 hI2 hm2 hG hex2 H locs w ls hl
      obtain ⟨hok, i2_1⟩ := id hI2
      have okf0 := hok.1
      have okf1 := hok.2.1
      have okf2 := hok.2.2.1
      have okf3 := hok.2.2.2.1
      have okf4 := hok.2.2.2.2.1
      have okf5 := hok.2.2.2.2.2
      rw [lp_X3_tryStrengths_2] at hG
      refine lv_iload_n hx hb dX3_tryStrengths_2 rfl (lv_at hl 3 rfl) ?_
      refine lv_bipush (v := 9) hx hb dX3_tryStrengths_3 (by decide) ?_
      refine lv_icmp_gt (tgt := 89) hx hb dX3_tryStrengths_5 (by decide) (fun c5 => ?_) (fun c5 => ?_)
      · have t5 : 9 < v3_2.toInt := qt_lt c5
        rw [if_pos c5] at hG
        exact hex2 S_2 hok hG.symm _ _ w ls (lv_sub hl [0] rfl)
      · have t5 : v3_2.toInt ≤ 9 := qt_nlt c5
        rw [if_neg c5] at hG
        refine lv_iconst (v := 0) hx hb dX3_tryStrengths_8 (by decide) ?_
        refine lv_istore (lv' := [(4, .int 0), (0, .ref (ad 0)), (1, .int p1), (2, .int p2), (3, .int v3_2)]) hx hb dX3_tryStrengths_9 hl (by decide) rfl (fun ls hl => ?_)
        have L11 : ∀ (n : Nat) (res11 : St), ∀ (v4_11 : Int32), ∀ (S_11 : St), ((OkC S_11) ∧ (0 ≤ v4_11.toInt ∧ v4_11.toInt ≤ 10)) → (10 - v4_11.toInt).toNat < n → (lp_X3_tryStrengths_11 p1 p2 v3_2 n v4_11 S_11) = res11 → (∀ (S_11e : St), (OkC S_11e) → res11 = S_11e → ∀ (H : Heap) (locs : List Loc), CW 41 (eC ad) ad D (CA 41 ad sz) s.heap S_11e H locs → ∀ ls : Array Slot, lv_has ls 6 [(0, .ref (ad 0)), (1, .int p1), (2, .int p2), (3, .int v3_2)] → W p l e (headSpec wsX3_tryStrengths ({ frames := 2, cells := 0, slots := 0, locals := 49 })).room s m ([.ref (ad 0), .int p1, .int p2] : List Value).toArray below meth c H locs 0 0 (MQ below (QWv 41 (eC ad) ad D T (CA 41 ad sz)) ([.ref (ad 0), .int p1, .int p2] : List Value).toArray s 0 0 (CA 41 ad sz)) (F0 m 83 ls [])) → ∀ (H : Heap) (locs : List Loc), CW 41 (eC ad) ad D (CA 41 ad sz) s.heap S_11 H locs → ∀ ls : Array Slot, lv_has ls 6 [(0, .ref (ad 0)), (1, .int p1), (2, .int p2), (3, .int v3_2), (4, .int v4_11)] → W p l e (headSpec wsX3_tryStrengths ({ frames := 2, cells := 0, slots := 0, locals := 49 })).room s m ([.ref (ad 0), .int p1, .int p2] : List Value).toArray below meth c H locs 0 0 (MQ below (QWv 41 (eC ad) ad D T (CA 41 ad sz)) ([.ref (ad 0), .int p1, .int p2] : List Value).toArray s 0 0 (CA 41 ad sz)) (F0 m 11 ls []) := by
          intro n
          induction n with
          | zero => intro _ _ _ _ hm; exact absurd hm (Nat.not_lt_zero _)
          | succ n ih11 =>
            intro res11 v4_11 S_11 hI11 hm11 hG hex11 H locs w ls hl
            obtain ⟨hok, i11_1⟩ := id hI11
            have okf0 := hok.1
            have okf1 := hok.2.1
            have okf2 := hok.2.2.1
            have okf3 := hok.2.2.2.1
            have okf4 := hok.2.2.2.2.1
            have okf5 := hok.2.2.2.2.2
            rw [lp_X3_tryStrengths_11] at hG
            refine lv_iload hx hb dX3_tryStrengths_11 (lv_at hl 4 rfl) ?_
            refine lv_bipush (v := 9) hx hb dX3_tryStrengths_13 (by decide) ?_
            refine lv_icmp_gt (tgt := 83) hx hb dX3_tryStrengths_15 (by decide) (fun c15 => ?_) (fun c15 => ?_)
            · have t15 : 9 < v4_11.toInt := qt_lt c15
              rw [if_pos c15] at hG
              exact hex11 S_11 hok hG.symm _ _ w ls (lv_sub hl [0, 1, 2, 3] rfl)
            · have t15 : v4_11.toInt ≤ 9 := qt_nlt c15
              rw [if_neg c15] at hG
              refine lv_aload_n hx hb dX3_tryStrengths_18 rfl (lv_at hl 0 rfl) ?_
              refine lv_iload_n hx hb dX3_tryStrengths_19 rfl (lv_at hl 1 rfl) ?_
              refine lv_iload_n hx hb dX3_tryStrengths_20 rfl (lv_at hl 2 rfl) ?_
              refine lv_iload_n hx hb dX3_tryStrengths_21 rfl (lv_at hl 3 rfl) ?_
              refine lv_iload hx hb dX3_tryStrengths_22 (lv_at hl 4 rfl) ?_
              refine call0i (va_runV (As := [.int p1, .int p2, .int v3_2, .int v4_11]) (rest := []) S (c_X3_leastApart l ad D H.size S_11 p1 p2 v3_2 v4_11 hok (by omega) (by omega)) (cwV 4 S.2.2.2.2 gX3_tryStrengths_X3_leastApart rfl rfl rfl ⟨rfl, hd_X3_leastApart⟩ ⟨Nat.le_of_ble_eq_true rfl, Nat.le_of_ble_eq_true rfl⟩) (preV hK hN w (k := 0) (by decide) (eC_0 ad _) (q := (RX3, TX3, 14)) rfl) rfl rfl hl.1 rfl (lv_room (Nat.le_of_ble_eq_true rfl)) dX3_tryStrengths_24 ⟨Nat.zero_le _, Nat.zero_le _⟩) ?_
              refine lv_istore (lv' := [(5, .int (f_X3_leastApart S_11 p1 p2 v3_2 v4_11)), (0, .ref (ad 0)), (1, .int p1), (2, .int p2), (3, .int v3_2), (4, .int v4_11)]) hx hb dX3_tryStrengths_27 hl (by decide) rfl (fun ls hl => ?_)
              refine lv_iload hx hb dX3_tryStrengths_29 (lv_at hl 0 rfl) ?_
              refine lv_aload_n hx hb dX3_tryStrengths_31 rfl (lv_at hl 1 rfl) ?_
              refine r_get (C := RX3) (T := TX3) (N := 14) S hK w (k := 0) (by decide) (eC_0 ad _) rfl hinX3 13 (by decide) (List.mem_of_getElem? (i := 1) rfl) rfl dX3_tryStrengths_32 ?_
              refine lv_iconst (v := 0) hx hb dX3_tryStrengths_35 (by decide) ?_
              have g36 : vp_in 0 5 := vpi (by decide) (by decide)
              refine r_iald (cA := ad 100) (N := 5) S hK w (k := 8) (by decide) (fun f => eC_8 ad f) rfl g36 dX3_tryStrengths_36 ?_
              refine lv_icmp_le (tgt := 77) hx hb dX3_tryStrengths_37 (by decide) (fun c37 => ?_) (fun c37 => ?_)
              · have t37 : (f_X3_leastApart S_11 p1 p2 v3_2 v4_11).toInt ≤ (S_11 8 (ix 0)).toInt := qt_le c37
                rw [if_pos c37] at hG
                refine lv_iinc (v := (v4_11 + 1)) (lv' := [(4, .int (v4_11 + 1)), (5, .int (f_X3_leastApart S_11 p1 p2 v3_2 v4_11)), (0, .ref (ad 0)), (1, .int p1), (2, .int p2), (3, .int v3_2)]) hx hb dX3_tryStrengths_77 hl (k := 5) rfl rfl (by decide) rfl (fun ls hl => ?_)
                refine lv_goto (tgt := 11) hx hb dX3_tryStrengths_80 (by decide) ?_
                have b4_11 : (v4_11 + 1).toInt = v4_11.toInt + 1 := inc_toInt (by omega) (by omega)
                exact ih11 _ (v4_11 + 1) S_11 ⟨hok, (by omega)⟩ (by omega) hG hex11 _ _ w ls (lv_sub hl [2, 3, 4, 5, 0] rfl)
              · have t37 : (S_11 8 (ix 0)).toInt < (f_X3_leastApart S_11 p1 p2 v3_2 v4_11).toInt := qt_nle c37
                rw [if_neg c37] at hG
                refine lv_aload_n hx hb dX3_tryStrengths_40 rfl (lv_at hl 1 rfl) ?_
                refine r_get (C := RX3) (T := TX3) (N := 14) S hK w (k := 0) (by decide) (eC_0 ad _) rfl hinX3 13 (by decide) (List.mem_of_getElem? (i := 1) rfl) rfl dX3_tryStrengths_41 ?_
                refine lv_iconst (v := 0) hx hb dX3_tryStrengths_44 (by decide) ?_
                refine lv_iload hx hb dX3_tryStrengths_45 (lv_at hl 0 rfl) ?_
                have g47 : vp_in 0 5 := vpi (by decide) (by decide)
                refine r_iast (cA := ad 100) (N := 5) S hK w (k := 8) (by decide) (fun f => eC_8 ad f) rfl g47 dX3_tryStrengths_47 (fun H locs w => ?_)
                have hok : OkC (u2 S_11 8 (ix 0) (f_X3_leastApart S_11 p1 p2 v3_2 v4_11)) := okC_scr (show scrC 8 by unfold scrC; omega) hok
                have okf0 := hok.1
                have okf1 := hok.2.1
                have okf2 := hok.2.2.1
                have okf3 := hok.2.2.2.1
                have okf4 := hok.2.2.2.2.1
                have okf5 := hok.2.2.2.2.2
                refine lv_aload_n hx hb dX3_tryStrengths_48 rfl (lv_at hl 1 rfl) ?_
                refine r_get (C := RX3) (T := TX3) (N := 14) S hK w (k := 0) (by decide) (eC_0 ad _) rfl hinX3 13 (by decide) (List.mem_of_getElem? (i := 1) rfl) rfl dX3_tryStrengths_49 ?_
                refine lv_iconst (v := 1) hx hb dX3_tryStrengths_52 (by decide) ?_
                refine lv_iload_n hx hb dX3_tryStrengths_53 rfl (lv_at hl 2 rfl) ?_
                have g54 : vp_in 1 5 := vpi (by decide) (by decide)
                refine r_iast (cA := ad 100) (N := 5) S hK w (k := 8) (by decide) (fun f => eC_8 ad f) rfl g54 dX3_tryStrengths_54 (fun H locs w => ?_)
                have hok : OkC (u2 (u2 S_11 8 (ix 0) (f_X3_leastApart S_11 p1 p2 v3_2 v4_11)) 8 (ix 1) p1) := okC_scr (show scrC 8 by unfold scrC; omega) hok
                have okf0 := hok.1
                have okf1 := hok.2.1
                have okf2 := hok.2.2.1
                have okf3 := hok.2.2.2.1
                have okf4 := hok.2.2.2.2.1
                have okf5 := hok.2.2.2.2.2
                refine lv_aload_n hx hb dX3_tryStrengths_55 rfl (lv_at hl 1 rfl) ?_
                refine r_get (C := RX3) (T := TX3) (N := 14) S hK w (k := 0) (by decide) (eC_0 ad _) rfl hinX3 13 (by decide) (List.mem_of_getElem? (i := 1) rfl) rfl dX3_tryStrengths_56 ?_
                refine lv_iconst (v := 2) hx hb dX3_tryStrengths_59 (by decide) ?_
                refine lv_iload_n hx hb dX3_tryStrengths_60 rfl (lv_at hl 3 rfl) ?_
                have g61 : vp_in 2 5 := vpi (by decide) (by decide)
                refine r_iast (cA := ad 100) (N := 5) S hK w (k := 8) (by decide) (fun f => eC_8 ad f) rfl g61 dX3_tryStrengths_61 (fun H locs w => ?_)
                have hok : OkC (u2 (u2 (u2 S_11 8 (ix 0) (f_X3_leastApart S_11 p1 p2 v3_2 v4_11)) 8 (ix 1) p1) 8 (ix 2) p2) := okC_scr (show scrC 8 by unfold scrC; omega) hok
                have okf0 := hok.1
                have okf1 := hok.2.1
                have okf2 := hok.2.2.1
                have okf3 := hok.2.2.2.1
                have okf4 := hok.2.2.2.2.1
                have okf5 := hok.2.2.2.2.2
                refine lv_aload_n hx hb dX3_tryStrengths_62 rfl (lv_at hl 1 rfl) ?_
                refine r_get (C := RX3) (T := TX3) (N := 14) S hK w (k := 0) (by decide) (eC_0 ad _) rfl hinX3 13 (by decide) (List.mem_of_getElem? (i := 1) rfl) rfl dX3_tryStrengths_63 ?_
                refine lv_iconst (v := 3) hx hb dX3_tryStrengths_66 (by decide) ?_
                refine lv_iload_n hx hb dX3_tryStrengths_67 rfl (lv_at hl 4 rfl) ?_
                have g68 : vp_in 3 5 := vpi (by decide) (by decide)
                refine r_iast (cA := ad 100) (N := 5) S hK w (k := 8) (by decide) (fun f => eC_8 ad f) rfl g68 dX3_tryStrengths_68 (fun H locs w => ?_)
                have hok : OkC (u2 (u2 (u2 (u2 S_11 8 (ix 0) (f_X3_leastApart S_11 p1 p2 v3_2 v4_11)) 8 (ix 1) p1) 8 (ix 2) p2) 8 (ix 3) v3_2) := okC_scr (show scrC 8 by unfold scrC; omega) hok
                have okf0 := hok.1
                have okf1 := hok.2.1
                have okf2 := hok.2.2.1
                have okf3 := hok.2.2.2.1
                have okf4 := hok.2.2.2.2.1
                have okf5 := hok.2.2.2.2.2
                refine lv_aload_n hx hb dX3_tryStrengths_69 rfl (lv_at hl 1 rfl) ?_
                refine r_get (C := RX3) (T := TX3) (N := 14) S hK w (k := 0) (by decide) (eC_0 ad _) rfl hinX3 13 (by decide) (List.mem_of_getElem? (i := 1) rfl) rfl dX3_tryStrengths_70 ?_
                refine lv_iconst (v := 4) hx hb dX3_tryStrengths_73 (by decide) ?_
                refine lv_iload hx hb dX3_tryStrengths_74 (lv_at hl 5 rfl) ?_
                have g76 : vp_in 4 5 := vpi (by decide) (by decide)
                refine r_iast (cA := ad 100) (N := 5) S hK w (k := 8) (by decide) (fun f => eC_8 ad f) rfl g76 dX3_tryStrengths_76 (fun H locs w => ?_)
                have hok : OkC (u2 (u2 (u2 (u2 (u2 S_11 8 (ix 0) (f_X3_leastApart S_11 p1 p2 v3_2 v4_11)) 8 (ix 1) p1) 8 (ix 2) p2) 8 (ix 3) v3_2) 8 (ix 4) v4_11) := okC_scr (show scrC 8 by unfold scrC; omega) hok
                have okf0 := hok.1
                have okf1 := hok.2.1
                have okf2 := hok.2.2.1
                have okf3 := hok.2.2.2.1
                have okf4 := hok.2.2.2.2.1
                have okf5 := hok.2.2.2.2.2
                refine lv_iinc (v := (v4_11 + 1)) (lv' := [(4, .int (v4_11 + 1)), (5, .int (f_X3_leastApart S_11 p1 p2 v3_2 v4_11)), (0, .ref (ad 0)), (1, .int p1), (2, .int p2), (3, .int v3_2)]) hx hb dX3_tryStrengths_77 hl (k := 5) rfl rfl (by decide) rfl (fun ls hl => ?_)
                refine lv_goto (tgt := 11) hx hb dX3_tryStrengths_80 (by decide) ?_
                have b4_11 : (v4_11 + 1).toInt = v4_11.toInt + 1 := inc_toInt (by omega) (by omega)
                exact ih11 _ (v4_11 + 1) (u2 (u2 (u2 (u2 (u2 S_11 8 (ix 0) (f_X3_leastApart S_11 p1 p2 v3_2 v4_11)) 8 (ix 1) p1) 8 (ix 2) p2) 8 (ix 3) v3_2) 8 (ix 4) v4_11) ⟨hok, (by omega)⟩ (by omega) hG hex11 _ _ w ls (lv_sub hl [2, 3, 4, 5, 0] rfl)
        refine L11 200 _ 0 S_2 ⟨hok, (by omega)⟩ (by omega) rfl (fun S_11e hok hr11 H locs w ls hl => ?_) _ _ w ls (lv_sub hl [1, 2, 3, 4, 0] rfl)
        rw [hr11] at hG
        have okf0 := hok.1
        have okf1 := hok.2.1
        have okf2 := hok.2.2.1
        have okf3 := hok.2.2.2.1
        have okf4 := hok.2.2.2.2.1
        have okf5 := hok.2.2.2.2.2
        refine lv_iinc (v := (v3_2 + 1)) (lv' := [(3, .int (v3_2 + 1)), (0, .ref (ad 0)), (1, .int p1), (2, .int p2)]) hx hb dX3_tryStrengths_83 hl (k := 3) rfl rfl (by decide) rfl (fun ls hl => ?_)
        refine lv_goto (tgt := 2) hx hb dX3_tryStrengths_86 (by decide) ?_
        have b3_2 : (v3_2 + 1).toInt = v3_2.toInt + 1 := inc_toInt (by omega) (by omega)
        exact ih2 _ (v3_2 + 1) S_11e ⟨hok, (by omega)⟩ (by omega) hG hex2 _ _ w ls (lv_sub hl [1, 2, 3, 0] rfl)
  refine L2 200 _ 0 σ ⟨hok, (by omega)⟩ (by omega) rfl (fun S_2e hok hr2 H locs w ls hl => ?_) _ _ w ls (lv_sub hl [1, 2, 3, 0] rfl)
  rw [hr2] at hG
  have okf0 := hok.1
  have okf1 := hok.2.1
  have okf2 := hok.2.2.1
  have okf3 := hok.2.2.2.1
  have okf4 := hok.2.2.2.2.1
  have okf5 := hok.2.2.2.2.2
  exact endWv S hr hlocks w hG dX3_tryStrengths_89
set_option maxHeartbeats 4000000 in
set_option maxRecDepth 100000 in
theorem c_X3_seekNewSmell (l : Launch) (ad : Nat → Nat) (D : va_G) (sz : Nat) (σ : St) (hok : OkC σ) : Met l yX3_seekNewSmell wsX3_seekNewSmell ({ frames := 3, cells := 0, slots := 0, locals := 74 }) (PreW 41 (eC ad) ad D (tyC ad) σ sz ([.ref (ad 0)] : List Value)) (QWv 41 (eC ad) ad D (f_X3_seekNewSmell σ) (CA 41 ad sz)) 0 0 (CA 41 ad sz) := by
  generalize hG : f_X3_seekNewSmell σ = T
  refine headW (cc := cX3_seekNewSmell) (maxL := 3) (ret := none) ([.ref (ad 0)] : List Value) (by decide) rfl (Nat.le_of_ble_eq_true rfl) ?_
  intro p e s m below meth c S hr hlocks hK hN hsz w ls hl
  have S : CallFix p m c cX3_seekNewSmell 3 s ([.ref (ad 0)] : List Value).toArray wsX3_seekNewSmell RX3 := S
  have hx := S.1
  have hb := S.2.1
  have z0 : (0 : Int32).toInt = 0 := by decide
  have z1 : (1 : Int32).toInt = 1 := by decide
  have hl : lv_has ls 3 [(0, .ref (ad 0))] := hl
  have hinX3 : ∀ w ∈ wsX30, w ∈ wsX3_seekNewSmell := (fun _ h => List.mem_cons_of_mem _ (List.mem_append_left _ (List.mem_append_right _ h)))
  have hinX2 : ∀ w ∈ wsX20, w ∈ wsX3_seekNewSmell := (fun _ h => List.mem_cons_of_mem _ (List.mem_append_right _ h))
  have okf0 := hok.1
  have okf1 := hok.2.1
  have okf2 := hok.2.2.1
  have okf3 := hok.2.2.2.1
  have okf4 := hok.2.2.2.2.1
  have okf5 := hok.2.2.2.2.2
  rw [f_X3_seekNewSmell] at hG
  refine lv_iconst (v := 0) hx hb dX3_seekNewSmell_0 (by decide) ?_
  refine lv_istore_n (lv' := [(1, .int 0), (0, .ref (ad 0))]) hx hb dX3_seekNewSmell_1 rfl hl (by decide) rfl (fun ls hl => ?_)
  have L2 : ∀ (n : Nat) (res2 : St), ∀ (v1_2 : Int32), ∀ (S_2 : St), ((OkC S_2) ∧ (0 ≤ v1_2.toInt ∧ v1_2.toInt ≤ 9)) → (9 - v1_2.toInt).toNat < n → (lp_X3_seekNewSmell_2 n v1_2 S_2) = res2 → (∀ (S_2e : St), (OkC S_2e) → res2 = S_2e → ∀ (H : Heap) (locs : List Loc), CW 41 (eC ad) ad D (CA 41 ad sz) s.heap S_2e H locs → ∀ ls : Array Slot, lv_has ls 3 [(0, .ref (ad 0))] → W p l e (headSpec wsX3_seekNewSmell ({ frames := 3, cells := 0, slots := 0, locals := 74 })).room s m ([.ref (ad 0)] : List Value).toArray below meth c H locs 0 0 (MQ below (QWv 41 (eC ad) ad D T (CA 41 ad sz)) ([.ref (ad 0)] : List Value).toArray s 0 0 (CA 41 ad sz)) (F0 m 36 ls [])) → ∀ (H : Heap) (locs : List Loc), CW 41 (eC ad) ad D (CA 41 ad sz) s.heap S_2 H locs → ∀ ls : Array Slot, lv_has ls 3 [(0, .ref (ad 0)), (1, .int v1_2)] → W p l e (headSpec wsX3_seekNewSmell ({ frames := 3, cells := 0, slots := 0, locals := 74 })).room s m ([.ref (ad 0)] : List Value).toArray below meth c H locs 0 0 (MQ below (QWv 41 (eC ad) ad D T (CA 41 ad sz)) ([.ref (ad 0)] : List Value).toArray s 0 0 (CA 41 ad sz)) (F0 m 2 ls []) := by
    intro n
    induction n with
    | zero => intro _ _ _ _ hm; exact absurd hm (Nat.not_lt_zero _)
    | succ n ih2 =>
      intro res2 v1_2 S_2 hI2 hm2 hG hex2 H locs w ls hl
      obtain ⟨hok, i2_1⟩ := id hI2
      have okf0 := hok.1
      have okf1 := hok.2.1
      have okf2 := hok.2.2.1
      have okf3 := hok.2.2.2.1
      have okf4 := hok.2.2.2.2.1
      have okf5 := hok.2.2.2.2.2
      rw [lp_X3_seekNewSmell_2] at hG
      refine lv_iload_n hx hb dX3_seekNewSmell_2 rfl (lv_at hl 1 rfl) ?_
      refine lv_bipush (v := 9) hx hb dX3_seekNewSmell_3 (by decide) ?_
      refine lv_icmp_ge (tgt := 36) hx hb dX3_seekNewSmell_5 (by decide) (fun c5 => ?_) (fun c5 => ?_)
      · have t5 : 9 ≤ v1_2.toInt := qt_le c5
        rw [if_pos c5] at hG
        exact hex2 S_2 hok hG.symm _ _ w ls (lv_sub hl [0] rfl)
      · have t5 : v1_2.toInt < 9 := qt_nle c5
        rw [if_neg c5] at hG
        refine lv_iload_n hx hb dX3_seekNewSmell_8 rfl (lv_at hl 1 rfl) ?_
        refine lv_iconst (v := 1) hx hb dX3_seekNewSmell_9 (by decide) ?_
        refine lv_iadd hx hb dX3_seekNewSmell_10 ?_
        refine lv_istore_n (lv' := [(2, .int (v1_2 + 1)), (0, .ref (ad 0)), (1, .int v1_2)]) hx hb dX3_seekNewSmell_11 rfl hl (by decide) rfl (fun ls hl => ?_)
        have L12 : ∀ (n : Nat) (res12 : St), ∀ (v2_12 : Int32), ∀ (S_12 : St), ((OkC S_12) ∧ (0 ≤ v2_12.toInt ∧ v2_12.toInt ≤ 9)) → (9 - v2_12.toInt).toNat < n → (lp_X3_seekNewSmell_12 v1_2 n v2_12 S_12) = res12 → (∀ (S_12e : St), (OkC S_12e) → res12 = S_12e → ∀ (H : Heap) (locs : List Loc), CW 41 (eC ad) ad D (CA 41 ad sz) s.heap S_12e H locs → ∀ ls : Array Slot, lv_has ls 3 [(0, .ref (ad 0)), (1, .int v1_2)] → W p l e (headSpec wsX3_seekNewSmell ({ frames := 3, cells := 0, slots := 0, locals := 74 })).room s m ([.ref (ad 0)] : List Value).toArray below meth c H locs 0 0 (MQ below (QWv 41 (eC ad) ad D T (CA 41 ad sz)) ([.ref (ad 0)] : List Value).toArray s 0 0 (CA 41 ad sz)) (F0 m 30 ls [])) → ∀ (H : Heap) (locs : List Loc), CW 41 (eC ad) ad D (CA 41 ad sz) s.heap S_12 H locs → ∀ ls : Array Slot, lv_has ls 3 [(0, .ref (ad 0)), (1, .int v1_2), (2, .int v2_12)] → W p l e (headSpec wsX3_seekNewSmell ({ frames := 3, cells := 0, slots := 0, locals := 74 })).room s m ([.ref (ad 0)] : List Value).toArray below meth c H locs 0 0 (MQ below (QWv 41 (eC ad) ad D T (CA 41 ad sz)) ([.ref (ad 0)] : List Value).toArray s 0 0 (CA 41 ad sz)) (F0 m 12 ls []) := by
          intro n
          induction n with
          | zero => intro _ _ _ _ hm; exact absurd hm (Nat.not_lt_zero _)
          | succ n ih12 =>
            intro res12 v2_12 S_12 hI12 hm12 hG hex12 H locs w ls hl
            obtain ⟨hok, i12_1⟩ := id hI12
            have okf0 := hok.1
            have okf1 := hok.2.1
            have okf2 := hok.2.2.1
            have okf3 := hok.2.2.2.1
            have okf4 := hok.2.2.2.2.1
            have okf5 := hok.2.2.2.2.2
            rw [lp_X3_seekNewSmell_12] at hG
            refine lv_iload_n hx hb dX3_seekNewSmell_12 rfl (lv_at hl 2 rfl) ?_
            refine lv_bipush (v := 9) hx hb dX3_seekNewSmell_13 (by decide) ?_
            refine lv_icmp_ge (tgt := 30) hx hb dX3_seekNewSmell_15 (by decide) (fun c15 => ?_) (fun c15 => ?_)
            · have t15 : 9 ≤ v2_12.toInt := qt_le c15
              rw [if_pos c15] at hG
              exact hex12 S_12 hok hG.symm _ _ w ls (lv_sub hl [0, 1] rfl)
            · have t15 : v2_12.toInt < 9 := qt_nle c15
              rw [if_neg c15] at hG
              refine lv_aload_n hx hb dX3_seekNewSmell_18 rfl (lv_at hl 0 rfl) ?_
              refine lv_iload_n hx hb dX3_seekNewSmell_19 rfl (lv_at hl 1 rfl) ?_
              refine lv_iload_n hx hb dX3_seekNewSmell_20 rfl (lv_at hl 2 rfl) ?_
              refine callWv w (va_runV (As := [.int v1_2, .int v2_12]) (rest := []) S (c_X3_tryStrengths l ad D H.size S_12 v1_2 v2_12 hok (by omega) (by omega)) (cwV 2 S.2.2.2.2 gX3_seekNewSmell_X3_tryStrengths rfl rfl rfl ⟨rfl, hd_X3_tryStrengths⟩ ⟨Nat.le_of_ble_eq_true rfl, Nat.le_of_ble_eq_true rfl⟩) (preV hK hN w (k := 0) (by decide) (eC_0 ad _) (q := (RX3, TX3, 14)) rfl) rfl rfl hl.1 rfl (lv_room (Nat.le_of_ble_eq_true rfl)) dX3_seekNewSmell_21 ⟨Nat.zero_le _, Nat.zero_le _⟩) (fun H locs w => ?_)
              have hok : OkC (f_X3_tryStrengths S_12 v1_2 v2_12) := ok_X3_tryStrengths hok
              have okf0 := hok.1
              have okf1 := hok.2.1
              have okf2 := hok.2.2.1
              have okf3 := hok.2.2.2.1
              have okf4 := hok.2.2.2.2.1
              have okf5 := hok.2.2.2.2.2
              refine lv_iinc (v := (v2_12 + 1)) (lv' := [(2, .int (v2_12 + 1)), (0, .ref (ad 0)), (1, .int v1_2)]) hx hb dX3_seekNewSmell_24 hl (k := 2) rfl rfl (by decide) rfl (fun ls hl => ?_)
              refine lv_goto (tgt := 12) hx hb dX3_seekNewSmell_27 (by decide) ?_
              have b2_12 : (v2_12 + 1).toInt = v2_12.toInt + 1 := inc_toInt (by omega) (by omega)
              exact ih12 _ (v2_12 + 1) (f_X3_tryStrengths S_12 v1_2 v2_12) ⟨hok, (by omega)⟩ (by omega) hG hex12 _ _ w ls (lv_sub hl [1, 2, 0] rfl)
        have e12 := inc_toInt (a := v1_2) (by omega) (by omega)
        refine L12 200 _ (v1_2 + 1) S_2 ⟨hok, (by omega)⟩ (by omega) rfl (fun S_12e hok hr12 H locs w ls hl => ?_) _ _ w ls (lv_sub hl [1, 2, 0] rfl)
        rw [hr12] at hG
        have okf0 := hok.1
        have okf1 := hok.2.1
        have okf2 := hok.2.2.1
        have okf3 := hok.2.2.2.1
        have okf4 := hok.2.2.2.2.1
        have okf5 := hok.2.2.2.2.2
        refine lv_iinc (v := (v1_2 + 1)) (lv' := [(1, .int (v1_2 + 1)), (0, .ref (ad 0))]) hx hb dX3_seekNewSmell_30 hl (k := 1) rfl rfl (by decide) rfl (fun ls hl => ?_)
        refine lv_goto (tgt := 2) hx hb dX3_seekNewSmell_33 (by decide) ?_
        have b1_2 : (v1_2 + 1).toInt = v1_2.toInt + 1 := inc_toInt (by omega) (by omega)
        exact ih2 _ (v1_2 + 1) S_12e ⟨hok, (by omega)⟩ (by omega) hG hex2 _ _ w ls (lv_sub hl [1, 0] rfl)
  refine L2 200 _ 0 σ ⟨hok, (by omega)⟩ (by omega) rfl (fun S_2e hok hr2 H locs w ls hl => ?_) _ _ w ls (lv_sub hl [1, 0] rfl)
  rw [hr2] at hG
  have okf0 := hok.1
  have okf1 := hok.2.1
  have okf2 := hok.2.2.1
  have okf3 := hok.2.2.2.1
  have okf4 := hok.2.2.2.2.1
  have okf5 := hok.2.2.2.2.2
  exact endWv S hr hlocks w hG dX3_seekNewSmell_36
set_option maxHeartbeats 4000000 in
set_option maxRecDepth 100000 in
theorem c_X3_fresh (l : Launch) (ad : Nat → Nat) (D : va_G) (sz : Nat) (σ : St) (p1 : Int32) (hok : OkC σ) : Met l yX3_fresh wsX3_fresh ({ frames := 4, cells := 0, slots := 0, locals := 96 }) (PreW 41 (eC ad) ad D (tyC ad) σ sz ([.ref (ad 0), .int p1] : List Value)) (QWi 41 (eC ad) ad D (f_X3_fresh σ p1) (CA 41 ad sz)) 0 0 (CA 41 ad sz) := by
  generalize hG : f_X3_fresh σ p1 = T
  refine headW (cc := cX3_fresh) (maxL := 2) (ret := (some .int)) ([.ref (ad 0), .int p1] : List Value) (by decide) rfl (Nat.le_of_ble_eq_true rfl) ?_
  intro p e s m below meth c S hr hlocks hK hN hsz w ls hl
  have S : CallFix p m c cX3_fresh 2 s ([.ref (ad 0), .int p1] : List Value).toArray wsX3_fresh RX3 := S
  have hx := S.1
  have hb := S.2.1
  have z0 : (0 : Int32).toInt = 0 := by decide
  have z1 : (1 : Int32).toInt = 1 := by decide
  have hl : lv_has ls 2 [(0, .ref (ad 0)), (1, .int p1)] := hl
  have hinX3 : ∀ w ∈ wsX30, w ∈ wsX3_fresh := (fun _ h => List.mem_cons_of_mem _ (List.mem_append_left _ (List.mem_append_right _ h)))
  have hinX2 : ∀ w ∈ wsX20, w ∈ wsX3_fresh := (fun _ h => List.mem_cons_of_mem _ (List.mem_append_right _ h))
  have okf0 := hok.1
  have okf1 := hok.2.1
  have okf2 := hok.2.2.1
  have okf3 := hok.2.2.2.1
  have okf4 := hok.2.2.2.2.1
  have okf5 := hok.2.2.2.2.2
  rw [f_X3_fresh] at hG
  refine lv_iload_n hx hb dX3_fresh_0 rfl (lv_at hl 1 rfl) ?_
  refine lv_if_lt (tgt := 13) hx hb dX3_fresh_1 (by decide) (fun c1 => ?_) (fun c1 => ?_)
  · have t1 : p1.toInt < 0 := qt_lt c1
    rw [if_pos c1] at hG
    refine lv_bipush (v := (-2)) hx hb dX3_fresh_13 (by decide) ?_
    exact endWi S hr hlocks w hG dX3_fresh_15
  · have t1 : 0 ≤ p1.toInt := qt_nlt c1
    rw [if_neg c1] at hG
    refine lv_iload_n hx hb dX3_fresh_4 rfl (lv_at hl 1 rfl) ?_
    refine lv_aload_n hx hb dX3_fresh_5 rfl (lv_at hl 0 rfl) ?_
    refine r_get (C := RX3) (T := TX3) (N := 14) S hK w (k := 0) (by decide) (eC_0 ad _) rfl hinX3 13 (by decide) (List.mem_of_getElem? (i := 1) rfl) rfl dX3_fresh_6 ?_
    refine r_alen S hK w (k := 8) (by decide) (fun f => eC_8 ad f) rfl (v := 5) (by decide) dX3_fresh_9 ?_
    refine lv_icmp_lt (tgt := 16) hx hb dX3_fresh_10 (by decide) (fun c10 => ?_) (fun c10 => ?_)
    · have t10 : p1.toInt < 5 := qt_lt c10
      rw [if_pos c10] at hG
      refine lv_aload_n hx hb dX3_fresh_16 rfl (lv_at hl 0 rfl) ?_
      refine r_get (C := RX3) (T := TX3) (N := 14) S hK w (k := 0) (by decide) (eC_0 ad _) rfl hinX3 4 (by decide) (List.mem_of_getElem? (i := 2) rfl) rfl dX3_fresh_17 ?_
      refine lv_if_ne (tgt := 26) hx hb dX3_fresh_20 (by decide) (fun c20 => ?_) (fun c20 => ?_)
      · have t20 : (σ 0 4).toInt ≠ 0 := qt_ne c20
        rw [if_neg c20] at hG
        refine lv_aload_n hx hb dX3_fresh_26 rfl (lv_at hl 0 rfl) ?_
        refine r_get (C := RX3) (T := TX3) (N := 14) S hK w (k := 0) (by decide) (eC_0 ad _) rfl hinX3 13 (by decide) (List.mem_of_getElem? (i := 1) rfl) rfl dX3_fresh_27 ?_
        refine lv_iconst (v := 0) hx hb dX3_fresh_30 (by decide) ?_
        have g31 : vp_in 0 5 := vpi (by decide) (by decide)
        refine r_iald (cA := ad 100) (N := 5) S hK w (k := 8) (by decide) (fun f => eC_8 ad f) rfl g31 dX3_fresh_31 ?_
        refine lv_iconst (v := (-1)) hx hb dX3_fresh_32 (by decide) ?_
        refine lv_icmp_ne (tgt := 40) hx hb dX3_fresh_33 (by decide) (fun c33 => ?_) (fun c33 => ?_)
        · have t33 : (σ 8 (ix 0)).toInt ≠ -1 := qt_ne c33
          rw [if_neg c33] at hG
          refine lv_aload_n hx hb dX3_fresh_40 rfl (lv_at hl 0 rfl) ?_
          refine r_get (C := RX3) (T := TX3) (N := 14) S hK w (k := 0) (by decide) (eC_0 ad _) rfl hinX3 13 (by decide) (List.mem_of_getElem? (i := 1) rfl) rfl dX3_fresh_41 ?_
          refine lv_iload_n hx hb dX3_fresh_44 rfl (lv_at hl 1 rfl) ?_
          have g45 : vp_in p1 5 := vpi (by omega) (by omega)
          refine r_iald (cA := ad 100) (N := 5) S hK w (k := 8) (by decide) (fun f => eC_8 ad f) rfl g45 dX3_fresh_45 ?_
          exact endWi S hr hlocks w hG dX3_fresh_46
        · have t33 : (σ 8 (ix 0)).toInt = -1 := qt_eq c33
          rw [if_pos c33] at hG
          refine lv_aload_n hx hb dX3_fresh_36 rfl (lv_at hl 0 rfl) ?_
          refine callWv w (va_runV (As := []) (rest := []) S (c_X3_seekNewSmell l ad D s.heap.size σ hok) (cwV 0 S.2.2.2.2 gX3_fresh_X3_seekNewSmell rfl rfl rfl ⟨rfl, hd_X3_seekNewSmell⟩ ⟨Nat.le_of_ble_eq_true rfl, Nat.le_of_ble_eq_true rfl⟩) (preV hK hN w (k := 0) (by decide) (eC_0 ad _) (q := (RX3, TX3, 14)) rfl) rfl rfl hl.1 rfl (lv_room (Nat.le_of_ble_eq_true rfl)) dX3_fresh_37 ⟨Nat.zero_le _, Nat.zero_le _⟩) (fun H locs w => ?_)
          refine lv_aload_n hx hb dX3_fresh_40 rfl (lv_at hl 0 rfl) ?_
          refine r_get (C := RX3) (T := TX3) (N := 14) S hK w (k := 0) (by decide) (eC_0 ad _) rfl hinX3 13 (by decide) (List.mem_of_getElem? (i := 1) rfl) rfl dX3_fresh_41 ?_
          refine lv_iload_n hx hb dX3_fresh_44 rfl (lv_at hl 1 rfl) ?_
          have g45 : vp_in p1 5 := vpi (by omega) (by omega)
          refine r_iald (cA := ad 100) (N := 5) S hK w (k := 8) (by decide) (fun f => eC_8 ad f) rfl g45 dX3_fresh_45 ?_
          exact endWi S hr hlocks w hG dX3_fresh_46
      · have t20 : (σ 0 4).toInt = 0 := qt_eq c20
        rw [if_pos c20] at hG
        refine lv_bipush (v := (-3)) hx hb dX3_fresh_23 (by decide) ?_
        exact endWi S hr hlocks w hG dX3_fresh_25
    · have t10 : 5 ≤ p1.toInt := qt_nlt c10
      rw [if_neg c10] at hG
      refine lv_bipush (v := (-2)) hx hb dX3_fresh_13 (by decide) ?_
      exact endWi S hr hlocks w hG dX3_fresh_15
set_option maxHeartbeats 4000000 in
set_option maxRecDepth 100000 in
theorem c_X3_isDoor (l : Launch) (ad : Nat → Nat) (D : va_G) (sz : Nat) (σ : St) (p1 : Nat) (p2 : Int32) (p3 : Int32) (hp1 : p1 < 4) (hb1 : 0 ≤ p2.toInt ∧ p2.toInt + 9 ≤ 90) : Met l yX3_isDoor wsX3_isDoor ({ frames := 0, cells := 0, slots := 0, locals := 0 }) (PreW 41 (eC ad) ad D (tyC ad) σ sz ([.ref (ad (9 + p1)), .int p2, .int p3] : List Value)) (Q0i (f_X3_isDoor σ p1 p2 p3)) 0 0 N0 := by
  generalize hG : f_X3_isDoor σ p1 p2 p3 = T
  refine headW (cc := cX3_isDoor) (maxL := 5) (ret := (some .boolean)) ([.ref (ad (9 + p1)), .int p2, .int p3] : List Value) (by decide) rfl (Nat.le_of_ble_eq_true rfl) ?_
  intro p e s m below meth c S hr hlocks hK hN hsz w ls hl
  have S : CallFix p m c cX3_isDoor 5 s ([.ref (ad (9 + p1)), .int p2, .int p3] : List Value).toArray wsX3_isDoor RX3 := S
  have hx := S.1
  have hb := S.2.1
  have z0 : (0 : Int32).toInt = 0 := by decide
  have z1 : (1 : Int32).toInt = 1 := by decide
  have hl : lv_has ls 5 [(0, .ref (ad (9 + p1))), (1, .int p2), (2, .int p3)] := hl
  have hinX1 : ∀ w ∈ wsX10, w ∈ wsX3_isDoor := (fun _ h => List.mem_cons_of_mem _ (List.mem_append_right _ h))
  rw [f_X3_isDoor] at hG
  refine lv_iconst (v := 0) hx hb dX3_isDoor_0 (by decide) ?_
  refine lv_istore_n (lv' := [(3, .int 0), (0, .ref (ad (9 + p1))), (1, .int p2), (2, .int p3)]) hx hb dX3_isDoor_1 rfl hl (by decide) rfl (fun ls hl => ?_)
  have L2 : ∀ (n : Nat) (res2 : (Int32) ⊕ (Unit)), ∀ (v3_2 : Int32), ((0 ≤ v3_2.toInt ∧ v3_2.toInt ≤ 9)) → (9 - v3_2.toInt).toNat < n → (lp_X3_isDoor_2 σ p1 p2 p3 n v3_2) = res2 → (∀ r : Int32, res2 = Sum.inl r → r = T) → (res2 = Sum.inr () → ∀ ls : Array Slot, lv_has ls 5 [(2, .int p3)] → W p l e (headSpec wsX3_isDoor ({ frames := 0, cells := 0, slots := 0, locals := 0 })).room s m ([.ref (ad (9 + p1)), .int p2, .int p3] : List Value).toArray below meth c s.heap [] 0 0 (MQ below (Q0i T) ([.ref (ad (9 + p1)), .int p2, .int p3] : List Value).toArray s 0 0 N0) (F0 m 38 ls [])) → ∀ ls : Array Slot, lv_has ls 5 [(0, .ref (ad (9 + p1))), (1, .int p2), (2, .int p3), (3, .int v3_2)] → W p l e (headSpec wsX3_isDoor ({ frames := 0, cells := 0, slots := 0, locals := 0 })).room s m ([.ref (ad (9 + p1)), .int p2, .int p3] : List Value).toArray below meth c s.heap [] 0 0 (MQ below (Q0i T) ([.ref (ad (9 + p1)), .int p2, .int p3] : List Value).toArray s 0 0 N0) (F0 m 2 ls []) := by
    intro n
    induction n with
    | zero => intro _ _ _ hm; exact absurd hm (Nat.not_lt_zero _)
    | succ n ih2 =>
      intro res2 v3_2 hI2 hm2 hG hret2 hex2 ls hl
      have i2_0 := hI2
      rw [lp_X3_isDoor_2] at hG
      refine lv_iload_n hx hb dX3_isDoor_2 rfl (lv_at hl 3 rfl) ?_
      refine lv_bipush (v := 9) hx hb dX3_isDoor_3 (by decide) ?_
      refine lv_icmp_ge (tgt := 38) hx hb dX3_isDoor_5 (by decide) (fun c5 => ?_) (fun c5 => ?_)
      · have t5 : 9 ≤ v3_2.toInt := qt_le c5
        rw [if_pos c5] at hG
        exact hex2  hG.symm ls (lv_sub hl [2] rfl)
      · have t5 : v3_2.toInt < 9 := qt_nle c5
        rw [if_neg c5] at hG
        refine lv_aload_n hx hb dX3_isDoor_8 rfl (lv_at hl 0 rfl) ?_
        refine r_getN (C := RX1) (T := TX1) (N := 4) S hK hN w (k := (9 + p1)) (Nat.lt_of_lt_of_le (Nat.add_lt_add_left hp1 9) (by decide)) (eC_sh ad hp1 _) rfl hinX1 3 (by decide) 2 rfl rfl dX3_isDoor_9 ?_
        refine lv_iload_n hx hb dX3_isDoor_12 rfl (lv_at hl 1 rfl) ?_
        refine lv_iload_n hx hb dX3_isDoor_13 rfl (lv_at hl 3 rfl) ?_
        refine lv_iadd hx hb dX3_isDoor_14 ?_
        have e14 := a_toInt (a := p2) (b := v3_2) (by omega) (by omega)
        have g15 : vp_in (p2 + v3_2) 90 := vpi (by omega) (by omega)
        refine r_iald (cA := ad 100) (N := 90) S hK w (k := (13 + p1)) (Nat.lt_of_lt_of_le (Nat.add_lt_add_left hp1 13) (by decide)) (fun f => eC_sc ad hp1 f) rfl g15 dX3_isDoor_15 ?_
        refine lv_istore (lv' := [(4, .int (σ (13 + p1) (ix (p2 + v3_2)))), (0, .ref (ad (9 + p1))), (1, .int p2), (2, .int p3), (3, .int v3_2)]) hx hb dX3_isDoor_16 hl (by decide) rfl (fun ls hl => ?_)
        refine lv_iload hx hb dX3_isDoor_18 (lv_at hl 0 rfl) ?_
        refine lv_if_lt (tgt := 30) hx hb dX3_isDoor_20 (by decide) (fun c20 => ?_) (fun c20 => ?_)
        · have t20 : (σ (13 + p1) (ix (p2 + v3_2))).toInt < 0 := qt_lt c20
          rw [if_pos c20] at hG
          refine lv_iconst (v := 0) hx hb dX3_isDoor_30 (by decide) ?_
          exact end0z S hr hlocks (Or.inl rfl) (hret2 _ hG.symm) dX3_isDoor_31
        · have t20 : 0 ≤ (σ (13 + p1) (ix (p2 + v3_2))).toInt := qt_nlt c20
          rw [if_neg c20] at hG
          refine lv_iload hx hb dX3_isDoor_23 (lv_at hl 0 rfl) ?_
          refine lv_bipush (v := 99) hx hb dX3_isDoor_25 (by decide) ?_
          refine lv_icmp_le (tgt := 32) hx hb dX3_isDoor_27 (by decide) (fun c27 => ?_) (fun c27 => ?_)
          · have t27 : (σ (13 + p1) (ix (p2 + v3_2))).toInt ≤ 99 := qt_le c27
            rw [if_pos c27] at hG
            refine lv_iinc (v := (v3_2 + 1)) (lv' := [(3, .int (v3_2 + 1)), (4, .int (σ (13 + p1) (ix (p2 + v3_2)))), (0, .ref (ad (9 + p1))), (1, .int p2), (2, .int p3)]) hx hb dX3_isDoor_32 hl (k := 4) rfl rfl (by decide) rfl (fun ls hl => ?_)
            refine lv_goto (tgt := 2) hx hb dX3_isDoor_35 (by decide) ?_
            have b3_2 : (v3_2 + 1).toInt = v3_2.toInt + 1 := inc_toInt (by omega) (by omega)
            exact ih2 _ (v3_2 + 1) (by omega) (by omega) hG hret2 hex2 ls (lv_sub hl [2, 3, 4, 0] rfl)
          · have t27 : 99 < (σ (13 + p1) (ix (p2 + v3_2))).toInt := qt_nle c27
            rw [if_neg c27] at hG
            refine lv_iconst (v := 0) hx hb dX3_isDoor_30 (by decide) ?_
            exact end0z S hr hlocks (Or.inl rfl) (hret2 _ hG.symm) dX3_isDoor_31
  refine L2 200 _ 0 (by omega) (by omega) rfl (fun r hr2 => by rw [hr2] at hG; exact hG) (fun hr2 ls hl => ?_) ls (lv_sub hl [1, 2, 3, 0] rfl)
  rw [hr2] at hG
  dsimp only at hG
  refine lv_iload_n hx hb dX3_isDoor_38 rfl (lv_at hl 0 rfl) ?_
  refine lv_if_lt (tgt := 51) hx hb dX3_isDoor_39 (by decide) (fun c39 => ?_) (fun c39 => ?_)
  · have t39 : p3.toInt < 0 := qt_lt c39
    rw [if_pos c39] at hG
    refine lv_iconst (v := 0) hx hb dX3_isDoor_51 (by decide) ?_
    exact end0z S hr hlocks (Or.inl rfl) hG dX3_isDoor_52
  · have t39 : 0 ≤ p3.toInt := qt_nlt c39
    rw [if_neg c39] at hG
    refine lv_iload_n hx hb dX3_isDoor_42 rfl (lv_at hl 0 rfl) ?_
    refine lv_iconst (v := 3) hx hb dX3_isDoor_43 (by decide) ?_
    refine lv_icmp_gt (tgt := 51) hx hb dX3_isDoor_44 (by decide) (fun c44 => ?_) (fun c44 => ?_)
    · have t44 : 3 < p3.toInt := qt_lt c44
      rw [if_pos c44] at hG
      refine lv_iconst (v := 0) hx hb dX3_isDoor_51 (by decide) ?_
      exact end0z S hr hlocks (Or.inl rfl) hG dX3_isDoor_52
    · have t44 : p3.toInt ≤ 3 := qt_nlt c44
      rw [if_neg c44] at hG
      refine lv_iconst (v := 1) hx hb dX3_isDoor_47 (by decide) ?_
      refine lv_goto (tgt := 52) hx hb dX3_isDoor_48 (by decide) ?_
      exact end0z S hr hlocks (Or.inr rfl) hG dX3_isDoor_52
set_option maxHeartbeats 4000000 in
set_option maxRecDepth 100000 in
theorem c_X3_leftFrom (l : Launch) (ad : Nat → Nat) (D : va_G) (sz : Nat) (σ : St) (p1 : Nat) (p2 : Int32) (p3 : Nat) (p4 : Int32) (hok : OkC σ) (hp1 : p1 < 8) (hp3 : p3 < 4) (hb1 : 0 ≤ p4.toInt ∧ p4.toInt + 9 ≤ 90) : Met l yX3_leftFrom wsX3_leftFrom ({ frames := 2, cells := 0, slots := 0, locals := 47 }) (PreW 41 (eC ad) ad D (tyC ad) σ sz ([.ref (ad 0), .ref (ad (17 + p1)), .int p2, .ref (ad (9 + p3)), .int p4] : List Value)) (Q0i (f_X3_leftFrom σ p1 p2 p3 p4)) 0 0 N0 := by
  generalize hG : f_X3_leftFrom σ p1 p2 p3 p4 = T
  refine headW (cc := cX3_leftFrom) (maxL := 8) (ret := (some .int)) ([.ref (ad 0), .ref (ad (17 + p1)), .int p2, .ref (ad (9 + p3)), .int p4] : List Value) (by decide) rfl (Nat.le_of_ble_eq_true rfl) ?_
  intro p e s m below meth c S hr hlocks hK hN hsz w ls hl
  have S : CallFix p m c cX3_leftFrom 8 s ([.ref (ad 0), .ref (ad (17 + p1)), .int p2, .ref (ad (9 + p3)), .int p4] : List Value).toArray wsX3_leftFrom RX3 := S
  have hx := S.1
  have hb := S.2.1
  have z0 : (0 : Int32).toInt = 0 := by decide
  have z1 : (1 : Int32).toInt = 1 := by decide
  have hl : lv_has ls 8 [(0, .ref (ad 0)), (1, .ref (ad (17 + p1))), (2, .int p2), (3, .ref (ad (9 + p3))), (4, .int p4)] := hl
  have hinX2 : ∀ w ∈ wsX20, w ∈ wsX3_leftFrom := (fun _ h => List.mem_cons_of_mem _ (List.mem_append_left _ (List.mem_append_left _ (List.mem_append_right _ h))))
  have hinX1 : ∀ w ∈ wsX10, w ∈ wsX3_leftFrom := (fun _ h => List.mem_cons_of_mem _ (List.mem_append_left _ (List.mem_append_right _ h)))
  have hinX3 : ∀ w ∈ wsX30, w ∈ wsX3_leftFrom := (fun _ h => List.mem_cons_of_mem _ (List.mem_append_right _ h))
  have okf0 := hok.1
  have okf1 := hok.2.1
  have okf2 := hok.2.2.1
  have okf3 := hok.2.2.2.1
  have okf4 := hok.2.2.2.2.1
  have okf5 := hok.2.2.2.2.2
  rw [f_X3_leftFrom] at hG
  refine lv_iconst (v := 0) hx hb dX3_leftFrom_0 (by decide) ?_
  refine lv_istore (lv' := [(5, .int 0), (0, .ref (ad 0)), (1, .ref (ad (17 + p1))), (2, .int p2), (3, .ref (ad (9 + p3))), (4, .int p4)]) hx hb dX3_leftFrom_1 hl (by decide) rfl (fun ls hl => ?_)
  refine lv_iconst (v := 0) hx hb dX3_leftFrom_3 (by decide) ?_
  refine lv_istore (lv' := [(6, .int 0), (5, .int 0), (0, .ref (ad 0)), (1, .ref (ad (17 + p1))), (2, .int p2), (3, .ref (ad (9 + p3))), (4, .int p4)]) hx hb dX3_leftFrom_4 hl (by decide) rfl (fun ls hl => ?_)
  have L6 : ∀ (n : Nat) (res6 : Int32), ∀ (v5_6 : Int32), ∀ (v6_6 : Int32), ((0 ≤ v6_6.toInt ∧ v6_6.toInt ≤ 9)) → (9 - v6_6.toInt).toNat < n → (lp_X3_leftFrom_6 σ p1 p2 p3 p4 n v5_6 v6_6) = res6 → (∀ (v5_6e : Int32), res6 = v5_6e → ∀ ls : Array Slot, lv_has ls 8 [(0, .ref (ad 0)), (5, .int v5_6e)] → W p l e (headSpec wsX3_leftFrom ({ frames := 2, cells := 0, slots := 0, locals := 47 })).room s m ([.ref (ad 0), .ref (ad (17 + p1)), .int p2, .ref (ad (9 + p3)), .int p4] : List Value).toArray below meth c s.heap [] 0 0 (MQ below (Q0i T) ([.ref (ad 0), .ref (ad (17 + p1)), .int p2, .ref (ad (9 + p3)), .int p4] : List Value).toArray s 0 0 N0) (F0 m 60 ls [])) → ∀ ls : Array Slot, lv_has ls 8 [(0, .ref (ad 0)), (1, .ref (ad (17 + p1))), (2, .int p2), (3, .ref (ad (9 + p3))), (4, .int p4), (5, .int v5_6), (6, .int v6_6)] → W p l e (headSpec wsX3_leftFrom ({ frames := 2, cells := 0, slots := 0, locals := 47 })).room s m ([.ref (ad 0), .ref (ad (17 + p1)), .int p2, .ref (ad (9 + p3)), .int p4] : List Value).toArray below meth c s.heap [] 0 0 (MQ below (Q0i T) ([.ref (ad 0), .ref (ad (17 + p1)), .int p2, .ref (ad (9 + p3)), .int p4] : List Value).toArray s 0 0 N0) (F0 m 6 ls []) := by
    intro n
    induction n with
    | zero => intro _ _ _ _ hm; exact absurd hm (Nat.not_lt_zero _)
    | succ n ih6 =>
      intro res6 v5_6 v6_6 hI6 hm6 hG hex6 ls hl
      have i6_0 := hI6
      rw [lp_X3_leftFrom_6] at hG
      refine lv_iload hx hb dX3_leftFrom_6 (lv_at hl 6 rfl) ?_
      refine lv_bipush (v := 9) hx hb dX3_leftFrom_8 (by decide) ?_
      refine lv_icmp_ge (tgt := 60) hx hb dX3_leftFrom_10 (by decide) (fun c10 => ?_) (fun c10 => ?_)
      · have t10 : 9 ≤ v6_6.toInt := qt_le c10
        rw [if_pos c10] at hG
        exact hex6 v5_6 hG.symm ls (lv_sub hl [0, 5] rfl)
      · have t10 : v6_6.toInt < 9 := qt_nle c10
        rw [if_neg c10] at hG
        refine lv_aload_n hx hb dX3_leftFrom_13 rfl (lv_at hl 0 rfl) ?_
        refine lv_aload_n hx hb dX3_leftFrom_14 rfl (lv_at hl 1 rfl) ?_
        refine lv_iload hx hb dX3_leftFrom_15 (lv_at hl 6 rfl) ?_
        refine lv_bipush (v := 8) hx hb dX3_leftFrom_17 (by decide) ?_
        refine lv_aload_n hx hb dX3_leftFrom_19 rfl (lv_at hl 1 rfl) ?_
        refine r_getN (C := RX2) (T := TX2) (N := 3) S hK hN w (k := (17 + p1)) (Nat.lt_of_lt_of_le (Nat.add_lt_add_left hp1 17) (by decide)) (eC_sg ad hp1 _) rfl hinX2 2 (by decide) 5 rfl rfl dX3_leftFrom_20 ?_
        refine lv_iload hx hb dX3_leftFrom_23 (lv_at hl 6 rfl) ?_
        have g25 : vp_in v6_6 9 := vpi (by omega) (by omega)
        refine r_iald (cA := ad 100) (N := 9) S hK w (k := (25 + p1)) (Nat.lt_of_lt_of_le (Nat.add_lt_add_left hp1 25) (by decide)) (fun f => eC_st ad hp1 f) rfl g25 dX3_leftFrom_25 ?_
        refine lv_imul hx hb dX3_leftFrom_26 ?_
        refine lv_iload_n hx hb dX3_leftFrom_27 rfl (lv_at hl 2 rfl) ?_
        refine call0i (va_runV (As := [.ref (ad (17 + p1)), .int v6_6, .int (8 * (σ (25 + p1) (ix v6_6))), .int p2]) (rest := []) S (c_X3_fade l ad D s.heap.size σ p1 v6_6 (8 * (σ (25 + p1) (ix v6_6))) p2 hok hp1 (by omega)) (cwV 4 S.2.2.2.2 gX3_leftFrom_X3_fade rfl rfl rfl ⟨rfl, hd_X3_fade⟩ ⟨Nat.le_of_ble_eq_true rfl, Nat.le_of_ble_eq_true rfl⟩) (preV hK hN w (k := 0) (by decide) (eC_0 ad _) (q := (RX3, TX3, 14)) rfl) rfl rfl hl.1 rfl (lv_room (Nat.le_of_ble_eq_true rfl)) dX3_leftFrom_28 ⟨Nat.zero_le _, Nat.zero_le _⟩) ?_
        refine lv_istore (lv' := [(7, .int (f_X3_fade σ p1 v6_6 (8 * (σ (25 + p1) (ix v6_6))) p2)), (0, .ref (ad 0)), (1, .ref (ad (17 + p1))), (2, .int p2), (3, .ref (ad (9 + p3))), (4, .int p4), (5, .int v5_6), (6, .int v6_6)]) hx hb dX3_leftFrom_31 hl (by decide) rfl (fun ls hl => ?_)
        refine lv_iload hx hb dX3_leftFrom_33 (lv_at hl 6 rfl) ?_
        refine lv_iload hx hb dX3_leftFrom_35 (lv_at hl 0 rfl) ?_
        refine lv_aload_n hx hb dX3_leftFrom_37 rfl (lv_at hl 4 rfl) ?_
        refine r_getN (C := RX1) (T := TX1) (N := 4) S hK hN w (k := (9 + p3)) (Nat.lt_of_lt_of_le (Nat.add_lt_add_left hp3 9) (by decide)) (eC_sh ad hp3 _) rfl hinX1 3 (by decide) 2 rfl rfl dX3_leftFrom_38 ?_
        refine lv_iload hx hb dX3_leftFrom_41 (lv_at hl 5 rfl) ?_
        refine lv_iload hx hb dX3_leftFrom_43 (lv_at hl 7 rfl) ?_
        refine lv_iadd hx hb dX3_leftFrom_45 ?_
        have e45 := a_toInt (a := p4) (b := v6_6) (by omega) (by omega)
        have g46 : vp_in (p4 + v6_6) 90 := vpi (by omega) (by omega)
        refine r_iald (cA := ad 100) (N := 90) S hK w (k := (13 + p3)) (Nat.lt_of_lt_of_le (Nat.add_lt_add_left hp3 13) (by decide)) (fun f => eC_sc ad hp3 f) rfl g46 dX3_leftFrom_46 ?_
        refine lv_isub hx hb dX3_leftFrom_47 ?_
        refine r_abs S hl.1 (List.mem_of_getElem? (i := 1) rfl) (List.mem_of_getElem? (i := 2) rfl) (List.mem_of_getElem? (i := 3) rfl) (List.mem_of_getElem? (i := 4) rfl) ⟨Nat.le_of_ble_eq_true rfl, Nat.le_of_ble_eq_true rfl, Nat.zero_le _, Nat.zero_le _⟩ dX3_leftFrom_48 ?_
        refine lv_iadd hx hb dX3_leftFrom_51 ?_
        refine lv_istore (lv' := [(5, .int (v5_6 + (jabs ((f_X3_fade σ p1 v6_6 (8 * (σ (25 + p1) (ix v6_6))) p2) - (σ (13 + p3) (ix (p4 + v6_6))))))), (7, .int (f_X3_fade σ p1 v6_6 (8 * (σ (25 + p1) (ix v6_6))) p2)), (0, .ref (ad 0)), (1, .ref (ad (17 + p1))), (2, .int p2), (3, .ref (ad (9 + p3))), (4, .int p4), (6, .int v6_6)]) hx hb dX3_leftFrom_52 hl (by decide) rfl (fun ls hl => ?_)
        refine lv_iinc (v := (v6_6 + 1)) (lv' := [(6, .int (v6_6 + 1)), (5, .int (v5_6 + (jabs ((f_X3_fade σ p1 v6_6 (8 * (σ (25 + p1) (ix v6_6))) p2) - (σ (13 + p3) (ix (p4 + v6_6))))))), (7, .int (f_X3_fade σ p1 v6_6 (8 * (σ (25 + p1) (ix v6_6))) p2)), (0, .ref (ad 0)), (1, .ref (ad (17 + p1))), (2, .int p2), (3, .ref (ad (9 + p3))), (4, .int p4)]) hx hb dX3_leftFrom_54 hl (k := 7) rfl rfl (by decide) rfl (fun ls hl => ?_)
        refine lv_goto (tgt := 6) hx hb dX3_leftFrom_57 (by decide) ?_
        have b6_6 : (v6_6 + 1).toInt = v6_6.toInt + 1 := inc_toInt (by omega) (by omega)
        exact ih6 _ (v5_6 + (jabs ((f_X3_fade σ p1 v6_6 (8 * (σ (25 + p1) (ix v6_6))) p2) - (σ (13 + p3) (ix (p4 + v6_6)))))) (v6_6 + 1) (by omega) (by omega) hG hex6 ls (lv_sub hl [3, 4, 5, 6, 7, 1, 0] rfl)
  refine L6 200 _ 0 0 (by omega) (by omega) rfl (fun v5_6e hr6 ls hl => ?_) ls (lv_sub hl [2, 3, 4, 5, 6, 1, 0] rfl)
  rw [hr6] at hG
  refine lv_iload hx hb dX3_leftFrom_60 (lv_at hl 1 rfl) ?_
  exact end0i S hr hlocks hG dX3_leftFrom_62
set_option maxHeartbeats 4000000 in
set_option maxRecDepth 100000 in
theorem c_X3_countHours (l : Launch) (ad : Nat → Nat) (D : va_G) (sz : Nat) (σ : St) (p1 : Int32) (p2 : Nat) (p3 : Int32) (hok : OkC σ) (hp2 : p2 < 4) (hb1 : 0 ≤ p3.toInt ∧ p3.toInt + 9 ≤ 90) : Met l yX3_countHours wsX3_countHours ({ frames := 3, cells := 0, slots := 0, locals := 74 }) (PreW 41 (eC ad) ad D (tyC ad) σ sz ([.ref (ad 0), .int p1, .ref (ad (9 + p2)), .int p3] : List Value)) (QWi 41 (eC ad) ad D (f_X3_countHours σ p1 p2 p3) (CA 41 ad sz)) 0 0 (CA 41 ad sz) := by
  generalize hG : f_X3_countHours σ p1 p2 p3 = T
  refine headW (cc := cX3_countHours) (maxL := 7) (ret := (some .int)) ([.ref (ad 0), .int p1, .ref (ad (9 + p2)), .int p3] : List Value) (by decide) rfl (Nat.le_of_ble_eq_true rfl) ?_
  intro p e s m below meth c S hr hlocks hK hN hsz w ls hl
  have S : CallFix p m c cX3_countHours 7 s ([.ref (ad 0), .int p1, .ref (ad (9 + p2)), .int p3] : List Value).toArray wsX3_countHours RX3 := S
  have hx := S.1
  have hb := S.2.1
  have z0 : (0 : Int32).toInt = 0 := by decide
  have z1 : (1 : Int32).toInt = 1 := by decide
  have hl : lv_has ls 7 [(0, .ref (ad 0)), (1, .int p1), (2, .ref (ad (9 + p2))), (3, .int p3)] := hl
  have hinX3 : ∀ w ∈ wsX30, w ∈ wsX3_countHours := (fun _ h => List.mem_cons_of_mem _ (List.mem_append_left _ (List.mem_append_left _ (List.mem_append_right _ h))))
  have hinX2 : ∀ w ∈ wsX20, w ∈ wsX3_countHours := (fun _ h => List.mem_cons_of_mem _ (List.mem_append_left _ (List.mem_append_right _ h)))
  have hinX1 : ∀ w ∈ wsX10, w ∈ wsX3_countHours := (fun _ h => List.mem_cons_of_mem _ (List.mem_append_right _ h))
  have okf0 := hok.1
  have okf1 := hok.2.1
  have okf2 := hok.2.2.1
  have okf3 := hok.2.2.2.1
  have okf4 := hok.2.2.2.2.1
  have okf5 := hok.2.2.2.2.2
  rw [f_X3_countHours] at hG
  refine lv_iconst (v := 0) hx hb dX3_countHours_0 (by decide) ?_
  refine lv_istore (lv' := [(4, .int 0), (0, .ref (ad 0)), (1, .int p1), (2, .ref (ad (9 + p2))), (3, .int p3)]) hx hb dX3_countHours_1 hl (by decide) rfl (fun ls hl => ?_)
  refine lv_iconst (v := 0) hx hb dX3_countHours_3 (by decide) ?_
  refine lv_istore (lv' := [(5, .int 0), (4, .int 0), (0, .ref (ad 0)), (1, .int p1), (2, .ref (ad (9 + p2))), (3, .int p3)]) hx hb dX3_countHours_4 hl (by decide) rfl (fun ls hl => ?_)
  have L6 : ∀ (n : Nat) (res6 : Int32 × St), ∀ (v4_6 : Int32), ∀ (v5_6 : Int32), ∀ (S_6 : St), ((OkC S_6) ∧ (0 ≤ v5_6.toInt ∧ v5_6.toInt ≤ 8)) → (8 - v5_6.toInt).toNat < n → (lp_X3_countHours_6 p1 p2 p3 n v4_6 v5_6 S_6) = res6 → (∀ (v4_6e : Int32), ∀ (S_6e : St), (OkC S_6e) → res6 = (v4_6e, S_6e) → ∀ (H : Heap) (locs : List Loc), CW 41 (eC ad) ad D (CA 41 ad sz) s.heap S_6e H locs → ∀ ls : Array Slot, lv_has ls 7 [(0, .ref (ad 0)), (4, .int v4_6e)] → W p l e (headSpec wsX3_countHours ({ frames := 3, cells := 0, slots := 0, locals := 74 })).room s m ([.ref (ad 0), .int p1, .ref (ad (9 + p2)), .int p3] : List Value).toArray below meth c H locs 0 0 (MQ below (QWi 41 (eC ad) ad D T (CA 41 ad sz)) ([.ref (ad 0), .int p1, .ref (ad (9 + p2)), .int p3] : List Value).toArray s 0 0 (CA 41 ad sz)) (F0 m 95 ls [])) → ∀ (H : Heap) (locs : List Loc), CW 41 (eC ad) ad D (CA 41 ad sz) s.heap S_6 H locs → ∀ ls : Array Slot, lv_has ls 7 [(0, .ref (ad 0)), (1, .int p1), (2, .ref (ad (9 + p2))), (3, .int p3), (4, .int v4_6), (5, .int v5_6)] → W p l e (headSpec wsX3_countHours ({ frames := 3, cells := 0, slots := 0, locals := 74 })).room s m ([.ref (ad 0), .int p1, .ref (ad (9 + p2)), .int p3] : List Value).toArray below meth c H locs 0 0 (MQ below (QWi 41 (eC ad) ad D T (CA 41 ad sz)) ([.ref (ad 0), .int p1, .ref (ad (9 + p2)), .int p3] : List Value).toArray s 0 0 (CA 41 ad sz)) (F0 m 6 ls []) := by
    intro n
    induction n with
    | zero => intro _ _ _ _ _ hm; exact absurd hm (Nat.not_lt_zero _)
    | succ n ih6 =>
      intro res6 v4_6 v5_6 S_6 hI6 hm6 hG hex6 H locs w ls hl
      obtain ⟨hok, i6_1⟩ := id hI6
      have okf0 := hok.1
      have okf1 := hok.2.1
      have okf2 := hok.2.2.1
      have okf3 := hok.2.2.2.1
      have okf4 := hok.2.2.2.2.1
      have okf5 := hok.2.2.2.2.2
      rw [lp_X3_countHours_6] at hG
      refine lv_iload hx hb dX3_countHours_6 (lv_at hl 5 rfl) ?_
      refine lv_aload_n hx hb dX3_countHours_8 rfl (lv_at hl 0 rfl) ?_
      refine r_get (C := RX3) (T := TX3) (N := 14) S hK w (k := 0) (by decide) (eC_0 ad _) rfl hinX3 4 (by decide) (List.mem_of_getElem? (i := 1) rfl) rfl dX3_countHours_9 ?_
      refine lv_icmp_ge (tgt := 95) hx hb dX3_countHours_12 (by decide) (fun c12 => ?_) (fun c12 => ?_)
      · have t12 : (S_6 0 4).toInt ≤ v5_6.toInt := qt_le c12
        rw [if_pos c12] at hG
        exact hex6 v4_6 S_6 hok hG.symm _ _ w ls (lv_sub hl [0, 4] rfl)
      · have t12 : v5_6.toInt < (S_6 0 4).toInt := qt_nle c12
        rw [if_neg c12] at hG
        refine lv_aload_n hx hb dX3_countHours_15 rfl (lv_at hl 0 rfl) ?_
        refine r_get (C := RX3) (T := TX3) (N := 14) S hK w (k := 0) (by decide) (eC_0 ad _) rfl hinX3 12 (by decide) (List.mem_of_getElem? (i := 2) rfl) rfl dX3_countHours_16 ?_
        refine lv_iload hx hb dX3_countHours_19 (lv_at hl 5 rfl) ?_
        refine lv_iconst (v := 0) hx hb dX3_countHours_21 (by decide) ?_
        have g22 : vp_in v5_6 8 := vpi (by omega) (by omega)
        refine r_iast (cA := ad 100) (N := 8) S hK w (k := 7) (by decide) (fun f => eC_7 ad f) rfl g22 dX3_countHours_22 (fun H locs w => ?_)
        have hok : OkC (u2 S_6 7 (ix v5_6) 0) := okC_scr (show scrC 7 by unfold scrC; omega) hok
        have okf0 := hok.1
        have okf1 := hok.2.1
        have okf2 := hok.2.2.1
        have okf3 := hok.2.2.2.1
        have okf4 := hok.2.2.2.2.1
        have okf5 := hok.2.2.2.2.2
        refine lv_iconst (v := 0) hx hb dX3_countHours_23 (by decide) ?_
        refine lv_istore (lv' := [(6, .int 0), (0, .ref (ad 0)), (1, .int p1), (2, .ref (ad (9 + p2))), (3, .int p3), (4, .int v4_6), (5, .int v5_6)]) hx hb dX3_countHours_24 hl (by decide) rfl (fun ls hl => ?_)
        have L26 : ∀ (n : Nat) (res26 : St), ∀ (v6_26 : Int32), ∀ (S_26 : St), ((OkC S_26) ∧ (0 ≤ v6_26.toInt ∧ v6_26.toInt ≤ 10)) → (10 - v6_26.toInt).toNat < n → (lp_X3_countHours_26 p1 p2 p3 v4_6 v5_6 n v6_26 S_26) = res26 → (∀ (S_26e : St), (OkC S_26e) → res26 = S_26e → ∀ (H : Heap) (locs : List Loc), CW 41 (eC ad) ad D (CA 41 ad sz) s.heap S_26e H locs → ∀ ls : Array Slot, lv_has ls 7 [(0, .ref (ad 0)), (1, .int p1), (2, .ref (ad (9 + p2))), (3, .int p3), (4, .int v4_6), (5, .int v5_6)] → W p l e (headSpec wsX3_countHours ({ frames := 3, cells := 0, slots := 0, locals := 74 })).room s m ([.ref (ad 0), .int p1, .ref (ad (9 + p2)), .int p3] : List Value).toArray below meth c H locs 0 0 (MQ below (QWi 41 (eC ad) ad D T (CA 41 ad sz)) ([.ref (ad 0), .int p1, .ref (ad (9 + p2)), .int p3] : List Value).toArray s 0 0 (CA 41 ad sz)) (F0 m 77 ls [])) → ∀ (H : Heap) (locs : List Loc), CW 41 (eC ad) ad D (CA 41 ad sz) s.heap S_26 H locs → ∀ ls : Array Slot, lv_has ls 7 [(0, .ref (ad 0)), (1, .int p1), (2, .ref (ad (9 + p2))), (3, .int p3), (4, .int v4_6), (5, .int v5_6), (6, .int v6_26)] → W p l e (headSpec wsX3_countHours ({ frames := 3, cells := 0, slots := 0, locals := 74 })).room s m ([.ref (ad 0), .int p1, .ref (ad (9 + p2)), .int p3] : List Value).toArray below meth c H locs 0 0 (MQ below (QWi 41 (eC ad) ad D T (CA 41 ad sz)) ([.ref (ad 0), .int p1, .ref (ad (9 + p2)), .int p3] : List Value).toArray s 0 0 (CA 41 ad sz)) (F0 m 26 ls []) := by
          intro n
          induction n with
          | zero => intro _ _ _ _ hm; exact absurd hm (Nat.not_lt_zero _)
          | succ n ih26 =>
            intro res26 v6_26 S_26 hI26 hm26 hG hex26 H locs w ls hl
            obtain ⟨hok, i26_1⟩ := id hI26
            have okf0 := hok.1
            have okf1 := hok.2.1
            have okf2 := hok.2.2.1
            have okf3 := hok.2.2.2.1
            have okf4 := hok.2.2.2.2.1
            have okf5 := hok.2.2.2.2.2
            rw [lp_X3_countHours_26] at hG
            refine lv_iload hx hb dX3_countHours_26 (lv_at hl 6 rfl) ?_
            refine lv_bipush (v := 10) hx hb dX3_countHours_28 (by decide) ?_
            refine lv_icmp_ge (tgt := 77) hx hb dX3_countHours_30 (by decide) (fun c30 => ?_) (fun c30 => ?_)
            · have t30 : 10 ≤ v6_26.toInt := qt_le c30
              rw [if_pos c30] at hG
              exact hex26 S_26 hok hG.symm _ _ w ls (lv_sub hl [0, 1, 2, 3, 4, 5] rfl)
            · have t30 : v6_26.toInt < 10 := qt_nle c30
              rw [if_neg c30] at hG
              refine lv_aload_n hx hb dX3_countHours_33 rfl (lv_at hl 0 rfl) ?_
              refine lv_aload_n hx hb dX3_countHours_34 rfl (lv_at hl 0 rfl) ?_
              refine r_get (C := RX3) (T := TX3) (N := 14) S hK w (k := 0) (by decide) (eC_0 ad _) rfl hinX3 1 (by decide) (List.mem_of_getElem? (i := 3) rfl) rfl dX3_countHours_35 ?_
              refine lv_iload hx hb dX3_countHours_38 (lv_at hl 5 rfl) ?_
              have g40 : vp_in v5_6 8 := vpi (by omega) (by omega)
              refine r_aald S hK w (k := 2) (by decide) (eC_2 ad _) (t0 := 2) rfl g40 dX3_countHours_40 ?_
              refine lv_iload hx hb dX3_countHours_41 (lv_at hl 6 rfl) ?_
              refine lv_iload hx hb dX3_countHours_43 (lv_at hl 6 rfl) ?_
              refine lv_iload_n hx hb dX3_countHours_45 rfl (lv_at hl 1 rfl) ?_
              refine lv_imul hx hb dX3_countHours_46 ?_
              refine lv_iadd hx hb dX3_countHours_47 ?_
              refine lv_aload_n hx hb dX3_countHours_48 rfl (lv_at hl 2 rfl) ?_
              refine lv_iload_n hx hb dX3_countHours_49 rfl (lv_at hl 3 rfl) ?_
              refine call0i (va_runV (As := [.ref (ad (17 + (ix v5_6))), .int (v6_26 + (v6_26 * p1)), .ref (ad (9 + p2)), .int p3]) (rest := []) S (c_X3_leftFrom l ad D H.size S_26 (ix v5_6) (v6_26 + (v6_26 * p1)) p2 p3 hok (vpl g40) hp2 (by omega)) (cwV 4 S.2.2.2.2 gX3_countHours_X3_leftFrom rfl rfl rfl ⟨rfl, hd_X3_leftFrom⟩ ⟨Nat.le_of_ble_eq_true rfl, Nat.le_of_ble_eq_true rfl⟩) (preV hK hN w (k := 0) (by decide) (eC_0 ad _) (q := (RX3, TX3, 14)) rfl) rfl rfl hl.1 rfl (lv_room (Nat.le_of_ble_eq_true rfl)) dX3_countHours_50 ⟨Nat.zero_le _, Nat.zero_le _⟩) ?_
              refine lv_aload_n hx hb dX3_countHours_53 rfl (lv_at hl 0 rfl) ?_
              refine r_get (C := RX3) (T := TX3) (N := 14) S hK w (k := 0) (by decide) (eC_0 ad _) rfl hinX3 7 (by decide) (List.mem_of_getElem? (i := 4) rfl) rfl dX3_countHours_54 ?_
              refine lv_icmp_gt (tgt := 71) hx hb dX3_countHours_57 (by decide) (fun c57 => ?_) (fun c57 => ?_)
              · have t57 : (S_26 0 7).toInt < (f_X3_leftFrom S_26 (ix v5_6) (v6_26 + (v6_26 * p1)) p2 p3).toInt := qt_lt c57
                rw [if_pos c57] at hG
                refine lv_iinc (v := (v6_26 + 1)) (lv' := [(6, .int (v6_26 + 1)), (0, .ref (ad 0)), (1, .int p1), (2, .ref (ad (9 + p2))), (3, .int p3), (4, .int v4_6), (5, .int v5_6)]) hx hb dX3_countHours_71 hl (k := 6) rfl rfl (by decide) rfl (fun ls hl => ?_)
                refine lv_goto (tgt := 26) hx hb dX3_countHours_74 (by decide) ?_
                have b6_26 : (v6_26 + 1).toInt = v6_26.toInt + 1 := inc_toInt (by omega) (by omega)
                exact ih26 _ (v6_26 + 1) S_26 ⟨hok, (by omega)⟩ (by omega) hG hex26 _ _ w ls (lv_sub hl [1, 2, 3, 4, 5, 6, 0] rfl)
              · have t57 : (f_X3_leftFrom S_26 (ix v5_6) (v6_26 + (v6_26 * p1)) p2 p3).toInt ≤ (S_26 0 7).toInt := qt_nlt c57
                rw [if_neg c57] at hG
                refine lv_aload_n hx hb dX3_countHours_60 rfl (lv_at hl 0 rfl) ?_
                refine r_get (C := RX3) (T := TX3) (N := 14) S hK w (k := 0) (by decide) (eC_0 ad _) rfl hinX3 12 (by decide) (List.mem_of_getElem? (i := 2) rfl) rfl dX3_countHours_61 ?_
                refine lv_iload hx hb dX3_countHours_64 (lv_at hl 5 rfl) ?_
                refine lv_dup2_11 hx hb dX3_countHours_66 rfl rfl ?_
                have g67 : vp_in v5_6 8 := vpi (by omega) (by omega)
                refine r_iald (cA := ad 100) (N := 8) S hK w (k := 7) (by decide) (fun f => eC_7 ad f) rfl g67 dX3_countHours_67 ?_
                refine lv_iconst (v := 1) hx hb dX3_countHours_68 (by decide) ?_
                refine lv_iadd hx hb dX3_countHours_69 ?_
                have g70 : vp_in v5_6 8 := vpi (by omega) (by omega)
                refine r_iast (cA := ad 100) (N := 8) S hK w (k := 7) (by decide) (fun f => eC_7 ad f) rfl g70 dX3_countHours_70 (fun H locs w => ?_)
                have hok : OkC (u2 S_26 7 (ix v5_6) ((S_26 7 (ix v5_6)) + 1)) := okC_scr (show scrC 7 by unfold scrC; omega) hok
                have okf0 := hok.1
                have okf1 := hok.2.1
                have okf2 := hok.2.2.1
                have okf3 := hok.2.2.2.1
                have okf4 := hok.2.2.2.2.1
                have okf5 := hok.2.2.2.2.2
                refine lv_iinc (v := (v6_26 + 1)) (lv' := [(6, .int (v6_26 + 1)), (0, .ref (ad 0)), (1, .int p1), (2, .ref (ad (9 + p2))), (3, .int p3), (4, .int v4_6), (5, .int v5_6)]) hx hb dX3_countHours_71 hl (k := 6) rfl rfl (by decide) rfl (fun ls hl => ?_)
                refine lv_goto (tgt := 26) hx hb dX3_countHours_74 (by decide) ?_
                have b6_26 : (v6_26 + 1).toInt = v6_26.toInt + 1 := inc_toInt (by omega) (by omega)
                exact ih26 _ (v6_26 + 1) (u2 S_26 7 (ix v5_6) ((S_26 7 (ix v5_6)) + 1)) ⟨hok, (by omega)⟩ (by omega) hG hex26 _ _ w ls (lv_sub hl [1, 2, 3, 4, 5, 6, 0] rfl)
        refine L26 200 _ 0 (u2 S_6 7 (ix v5_6) 0) ⟨hok, (by omega)⟩ (by omega) rfl (fun S_26e hok hr26 H locs w ls hl => ?_) _ _ w ls (lv_sub hl [1, 2, 3, 4, 5, 6, 0] rfl)
        rw [hr26] at hG
        have okf0 := hok.1
        have okf1 := hok.2.1
        have okf2 := hok.2.2.1
        have okf3 := hok.2.2.2.1
        have okf4 := hok.2.2.2.2.1
        have okf5 := hok.2.2.2.2.2
        refine lv_iload hx hb dX3_countHours_77 (lv_at hl 4 rfl) ?_
        refine lv_aload_n hx hb dX3_countHours_79 rfl (lv_at hl 0 rfl) ?_
        refine r_get (C := RX3) (T := TX3) (N := 14) S hK w (k := 0) (by decide) (eC_0 ad _) rfl hinX3 12 (by decide) (List.mem_of_getElem? (i := 2) rfl) rfl dX3_countHours_80 ?_
        refine lv_iload hx hb dX3_countHours_83 (lv_at hl 5 rfl) ?_
        have g85 : vp_in v5_6 8 := vpi (by omega) (by omega)
        refine r_iald (cA := ad 100) (N := 8) S hK w (k := 7) (by decide) (fun f => eC_7 ad f) rfl g85 dX3_countHours_85 ?_
        refine lv_iadd hx hb dX3_countHours_86 ?_
        refine lv_istore (lv' := [(4, .int (v4_6 + (S_26e 7 (ix v5_6)))), (0, .ref (ad 0)), (1, .int p1), (2, .ref (ad (9 + p2))), (3, .int p3), (5, .int v5_6)]) hx hb dX3_countHours_87 hl (by decide) rfl (fun ls hl => ?_)
        refine lv_iinc (v := (v5_6 + 1)) (lv' := [(5, .int (v5_6 + 1)), (4, .int (v4_6 + (S_26e 7 (ix v5_6)))), (0, .ref (ad 0)), (1, .int p1), (2, .ref (ad (9 + p2))), (3, .int p3)]) hx hb dX3_countHours_89 hl (k := 5) rfl rfl (by decide) rfl (fun ls hl => ?_)
        refine lv_goto (tgt := 6) hx hb dX3_countHours_92 (by decide) ?_
        have b5_6 : (v5_6 + 1).toInt = v5_6.toInt + 1 := inc_toInt (by omega) (by omega)
        exact ih6 _ (v4_6 + (S_26e 7 (ix v5_6))) (v5_6 + 1) S_26e ⟨hok, (by omega)⟩ (by omega) hG hex6 _ _ w ls (lv_sub hl [2, 3, 4, 5, 1, 0] rfl)
  refine L6 200 _ 0 0 σ ⟨hok, (by omega)⟩ (by omega) rfl (fun v4_6e S_6e hok hr6 H locs w ls hl => ?_) _ _ w ls (lv_sub hl [2, 3, 4, 5, 1, 0] rfl)
  rw [hr6] at hG
  dsimp only at hG
  have okf0 := hok.1
  have okf1 := hok.2.1
  have okf2 := hok.2.2.1
  have okf3 := hok.2.2.2.1
  have okf4 := hok.2.2.2.2.1
  have okf5 := hok.2.2.2.2.2
  refine lv_iload hx hb dX3_countHours_95 (lv_at hl 1 rfl) ?_
  exact endWi S hr hlocks w hG dX3_countHours_97
set_option maxHeartbeats 4000000 in
set_option maxRecDepth 100000 in
theorem c_X3_commonDivisor (l : Launch) (p1 : Int32) (p2 : Int32) (hb1 : p2.toInt ≤ 100) : Met l yX3_commonDivisor wsX3_commonDivisor ({ frames := 0, cells := 0, slots := 0, locals := 0 }) (Pre0 ([.int p1, .int p2] : List Value)) (Q0i (f_X3_commonDivisor p1 p2)) 0 0 N0 := by
  generalize hG : f_X3_commonDivisor p1 p2 = T
  refine head0 (cc := cX3_commonDivisor) (maxL := 3) (ret := (some .int)) ([.int p1, .int p2] : List Value) (by decide) rfl (Nat.le_of_ble_eq_true rfl) ?_
  intro p e s m below meth c S hr hlocks ls hl
  have S : CallFix p m c cX3_commonDivisor 3 s ([.int p1, .int p2] : List Value).toArray wsX3_commonDivisor RX3 := S
  have hx := S.1
  have hb := S.2.1
  have z0 : (0 : Int32).toInt = 0 := by decide
  have z1 : (1 : Int32).toInt = 1 := by decide
  have hl : lv_has ls 3 [(0, .int p1), (1, .int p2)] := hl
  rw [f_X3_commonDivisor] at hG
  refine lv_iload_n hx hb dX3_commonDivisor_0 rfl (lv_at hl 1 rfl) ?_
  refine lv_istore_n (lv' := [(2, .int p2), (0, .int p1), (1, .int p2)]) hx hb dX3_commonDivisor_1 rfl hl (by decide) rfl (fun ls hl => ?_)
  have L2 : ∀ (n : Nat) (res2 : (Int32) ⊕ (Unit)), ∀ (v2_2 : Int32), ((v2_2.toInt ≤ 100)) → v2_2.toInt.toNat < n → (lp_X3_commonDivisor_2 p1 p2 n v2_2) = res2 → (∀ r : Int32, res2 = Sum.inl r → r = T) → (res2 = Sum.inr () → ∀ ls : Array Slot, lv_has ls 3 [] → W p l e (headSpec wsX3_commonDivisor ({ frames := 0, cells := 0, slots := 0, locals := 0 })).room s m ([.int p1, .int p2] : List Value).toArray below meth c s.heap [] 0 0 (MQ below (Q0i T) ([.int p1, .int p2] : List Value).toArray s 0 0 N0) (F0 m 27 ls [])) → ∀ ls : Array Slot, lv_has ls 3 [(0, .int p1), (1, .int p2), (2, .int v2_2)] → W p l e (headSpec wsX3_commonDivisor ({ frames := 0, cells := 0, slots := 0, locals := 0 })).room s m ([.int p1, .int p2] : List Value).toArray below meth c s.heap [] 0 0 (MQ below (Q0i T) ([.int p1, .int p2] : List Value).toArray s 0 0 N0) (F0 m 2 ls []) := by
    intro n
    induction n with
    | zero => intro _ _ _ hm; exact absurd hm (Nat.not_lt_zero _)
    | succ n ih2 =>
      intro res2 v2_2 hI2 hm2 hG hret2 hex2 ls hl
      have i2_0 := hI2
      rw [lp_X3_commonDivisor_2] at hG
      refine lv_iload_n hx hb dX3_commonDivisor_2 rfl (lv_at hl 2 rfl) ?_
      refine lv_iconst (v := 1) hx hb dX3_commonDivisor_3 (by decide) ?_
      refine lv_icmp_le (tgt := 27) hx hb dX3_commonDivisor_4 (by decide) (fun c4 => ?_) (fun c4 => ?_)
      · have t4 : v2_2.toInt ≤ 1 := qt_le c4
        rw [if_pos c4] at hG
        exact hex2  hG.symm ls (lv_sub hl [] rfl)
      · have t4 : 1 < v2_2.toInt := qt_nle c4
        rw [if_neg c4] at hG
        refine lv_iload_n hx hb dX3_commonDivisor_7 rfl (lv_at hl 0 rfl) ?_
        refine lv_iload_n hx hb dX3_commonDivisor_8 rfl (lv_at hl 2 rfl) ?_
        refine lv_irem hx hb dX3_commonDivisor_9 (by intro q; rw [q] at t4; revert t4; decide) ?_
        refine lv_if_ne (tgt := 21) hx hb dX3_commonDivisor_10 (by decide) (fun c10 => ?_) (fun c10 => ?_)
        · have t10 : (p1 - (p1 / v2_2) * v2_2).toInt ≠ 0 := qt_ne c10
          rw [if_neg c10] at hG
          refine lv_iinc (v := (v2_2 + (-1))) (lv' := [(2, .int (v2_2 + (-1))), (0, .int p1), (1, .int p2)]) hx hb dX3_commonDivisor_21 hl (k := 2) rfl rfl (by decide) rfl (fun ls hl => ?_)
          refine lv_goto (tgt := 2) hx hb dX3_commonDivisor_24 (by decide) ?_
          have b2 := dec_toInt (a := v2_2) (by omega) (by omega)
          exact ih2 _ (v2_2 + (-1)) (by omega) (by omega) hG hret2 hex2 ls (lv_sub hl [1, 2, 0] rfl)
        · have t10 : (p1 - (p1 / v2_2) * v2_2).toInt = 0 := qt_eq c10
          rw [if_pos c10] at hG
          refine lv_iload_n hx hb dX3_commonDivisor_13 rfl (lv_at hl 1 rfl) ?_
          refine lv_iload_n hx hb dX3_commonDivisor_14 rfl (lv_at hl 2 rfl) ?_
          refine lv_irem hx hb dX3_commonDivisor_15 (by intro q; rw [q] at t4; revert t4; decide) ?_
          refine lv_if_ne (tgt := 21) hx hb dX3_commonDivisor_16 (by decide) (fun c16 => ?_) (fun c16 => ?_)
          · have t16 : (p2 - (p2 / v2_2) * v2_2).toInt ≠ 0 := qt_ne c16
            rw [if_neg c16] at hG
            refine lv_iinc (v := (v2_2 + (-1))) (lv' := [(2, .int (v2_2 + (-1))), (0, .int p1), (1, .int p2)]) hx hb dX3_commonDivisor_21 hl (k := 2) rfl rfl (by decide) rfl (fun ls hl => ?_)
            refine lv_goto (tgt := 2) hx hb dX3_commonDivisor_24 (by decide) ?_
            have b2 := dec_toInt (a := v2_2) (by omega) (by omega)
            exact ih2 _ (v2_2 + (-1)) (by omega) (by omega) hG hret2 hex2 ls (lv_sub hl [1, 2, 0] rfl)
          · have t16 : (p2 - (p2 / v2_2) * v2_2).toInt = 0 := qt_eq c16
            rw [if_pos c16] at hG
            refine lv_iload_n hx hb dX3_commonDivisor_19 rfl (lv_at hl 2 rfl) ?_
            exact end0i S hr hlocks (hret2 _ hG.symm) dX3_commonDivisor_20
  refine L2 200 _ p2 (by omega) (by omega) rfl (fun r hr2 => by rw [hr2] at hG; exact hG) (fun hr2 ls hl => ?_) ls (lv_sub hl [1, 2, 0] rfl)
  rw [hr2] at hG
  dsimp only at hG
  refine lv_iconst (v := 1) hx hb dX3_commonDivisor_27 (by decide) ?_
  exact end0i S hr hlocks hG dX3_commonDivisor_28
set_option maxHeartbeats 4000000 in
set_option maxRecDepth 100000 in
theorem c_X3_odds (l : Launch) (ad : Nat → Nat) (D : va_G) (sz : Nat) (σ : St) (p1 : Int32) (p2 : Int32) (p3 : Int32) (p4 : Int32) (p5 : Int32) (p6 : Int32) (hok : OkC σ) : Met l yX3_odds wsX3_odds ({ frames := 4, cells := 0, slots := 0, locals := 100 }) (PreW 41 (eC ad) ad D (tyC ad) σ sz ([.ref (ad 0), .int p1, .int p2, .int p3, .int p4, .int p5, .int p6] : List Value)) (QWl 41 (eC ad) ad D (f_X3_odds σ p1 p2 p3 p4 p5 p6) (CA 41 ad sz)) 0 0 (CA 41 ad sz) := by
  generalize hG : f_X3_odds σ p1 p2 p3 p4 p5 p6 = T
  refine headW (cc := cX3_odds) (maxL := 9) (ret := (some .long)) ([.ref (ad 0), .int p1, .int p2, .int p3, .int p4, .int p5, .int p6] : List Value) (by decide) rfl (Nat.le_of_ble_eq_true rfl) ?_
  intro p e s m below meth c S hr hlocks hK hN hsz w ls hl
  have S : CallFix p m c cX3_odds 9 s ([.ref (ad 0), .int p1, .int p2, .int p3, .int p4, .int p5, .int p6] : List Value).toArray wsX3_odds RX3 := S
  have hx := S.1
  have hb := S.2.1
  have z0 : (0 : Int32).toInt = 0 := by decide
  have z1 : (1 : Int32).toInt = 1 := by decide
  have hl : lv_has ls 9 [(0, .ref (ad 0)), (1, .int p1), (2, .int p2), (3, .int p3), (4, .int p4), (5, .int p5), (6, .int p6)] := hl
  have hinX3 : ∀ w ∈ wsX30, w ∈ wsX3_odds := (fun _ h => List.mem_cons_of_mem _ (List.mem_append_left _ (List.mem_append_left _ (List.mem_append_right _ h))))
  have hinX1 : ∀ w ∈ wsX10, w ∈ wsX3_odds := (fun _ h => List.mem_cons_of_mem _ (List.mem_append_left _ (List.mem_append_right _ h)))
  have hinX2 : ∀ w ∈ wsX20, w ∈ wsX3_odds := (fun _ h => List.mem_cons_of_mem _ (List.mem_append_right _ h))
  have okf0 := hok.1
  have okf1 := hok.2.1
  have okf2 := hok.2.2.1
  have okf3 := hok.2.2.2.1
  have okf4 := hok.2.2.2.2.1
  have okf5 := hok.2.2.2.2.2
  rw [f_X3_odds] at hG
  refine lv_aload_n hx hb dX3_odds_0 rfl (lv_at hl 0 rfl) ?_
  refine lv_iconst (v := 0) hx hb dX3_odds_1 (by decide) ?_
  refine r_put (C := RX3) (T := TX3) (N := 14) S hK w (k := 0) (by decide) (eC_0 ad _) rfl hinX3 tyX3 tyX3_ok nmX3 9 (by decide) (List.mem_of_getElem? (i := 1) rfl) rfl (x := 0) (ty := .int) (by decide +kernel) rfl rfl (by show _ < List.length _; exact Nat.le_of_ble_eq_true rfl) (sO ad _ _ 9 (by decide)) dX3_odds_2 (fun H locs w => ?_)
  have hok : OkC (u2 σ 0 9 0) := okC_obj (by decide) hok
  have okf0 := hok.1
  have okf1 := hok.2.1
  have okf2 := hok.2.2.1
  have okf3 := hok.2.2.2.1
  have okf4 := hok.2.2.2.2.1
  have okf5 := hok.2.2.2.2.2
  refine lv_aload_n hx hb dX3_odds_5 rfl (lv_at hl 0 rfl) ?_
  refine lv_iload_n hx hb dX3_odds_6 rfl (lv_at hl 1 rfl) ?_
  refine call0i (va_runV (As := [.int p1]) (rest := []) S (c_X3_isSign l ad D H.size (u2 σ 0 9 0) p1) (cwV 1 S.2.2.2.2 gX3_odds_X3_isSign rfl rfl rfl ⟨rfl, hd_X3_isSign⟩ ⟨Nat.le_of_ble_eq_true rfl, Nat.le_of_ble_eq_true rfl⟩) (preV hK hN w (k := 0) (by decide) (eC_0 ad _) (q := (RX3, TX3, 14)) rfl) rfl rfl hl.1 rfl (lv_room (Nat.le_of_ble_eq_true rfl)) dX3_odds_7 ⟨Nat.zero_le _, Nat.zero_le _⟩) ?_
  refine lv_if_eq (tgt := 28) hx hb dX3_odds_10 (by decide) (fun c10 => ?_) (fun c10 => ?_)
  · rw [if_pos c10] at hG
    refine lv_ldc2 hx hb S.2.2.2.1 (S.2.2.2.2 _ (List.mem_of_getElem? (i := 3) rfl)) dX3_odds_28 ?_
    exact endWl S hr hlocks w hG dX3_odds_31
  · have t10 := bf_isSign_n c10
    rw [if_neg c10] at hG
    refine lv_aload_n hx hb dX3_odds_13 rfl (lv_at hl 0 rfl) ?_
    refine lv_iload_n hx hb dX3_odds_14 rfl (lv_at hl 3 rfl) ?_
    refine lv_iload hx hb dX3_odds_15 (lv_at hl 4 rfl) ?_
    refine lv_iload hx hb dX3_odds_17 (lv_at hl 5 rfl) ?_
    refine lv_ldc2 hx hb S.2.2.2.1 (S.2.2.2.2 _ (List.mem_of_getElem? (i := 2) rfl)) dX3_odds_19 ?_
    have ok3 := okf3
    refine callWi w (va_runV (As := [.int p3, .int p4, .int p5, .long 9]) (rest := []) S (c_X3_spanRefusal l ad D H.size (u2 σ 0 9 0) p3 p4 p5 9) (cwV 4 S.2.2.2.2 gX3_odds_X3_spanRefusal rfl rfl rfl ⟨rfl, hd_X3_spanRefusal⟩ ⟨Nat.le_of_ble_eq_true rfl, Nat.le_of_ble_eq_true rfl⟩) (preV hK hN w (k := 0) (by decide) (eC_0 ad _) (q := (RX3, TX3, 14)) rfl) rfl rfl hl.1 rfl (lv_room (Nat.le_of_ble_eq_true rfl)) dX3_odds_22 ⟨Nat.zero_le _, Nat.zero_le _⟩) (fun H locs w => ?_)
    have hok : OkC ((f_X3_spanRefusal (u2 σ 0 9 0) p3 p4 p5 9).2) := ok_X3_spanRefusal hok
    have okf0 := hok.1
    have okf1 := hok.2.1
    have okf2 := hok.2.2.1
    have okf3 := hok.2.2.2.1
    have okf4 := hok.2.2.2.2.1
    have okf5 := hok.2.2.2.2.2
    refine lv_if_eq (tgt := 32) hx hb dX3_odds_25 (by decide) (fun c25 => ?_) (fun c25 => ?_)
    · have t25 : ((f_X3_spanRefusal (u2 σ 0 9 0) p3 p4 p5 9).1).toInt = 0 := qt_eq c25
      rw [if_pos c25] at hG
      have z := sp_z c25
      have z9 : (9 : Int64).toInt = 9 := by decide
      have z3 := ok3 (ix p3) (vpl (vpi (by omega) (by omega)))
      refine lv_aload_n hx hb dX3_odds_32 rfl (lv_at hl 0 rfl) ?_
      refine r_get (C := RX3) (T := TX3) (N := 14) S hK w (k := 0) (by decide) (eC_0 ad _) rfl hinX3 0 (by decide) (List.mem_of_getElem? (i := 4) rfl) rfl dX3_odds_33 ?_
      refine lv_iload_n hx hb dX3_odds_36 rfl (lv_at hl 3 rfl) ?_
      have g37 : vp_in p3 4 := vpi (by omega) (by omega)
      refine r_aald S hK w (k := 1) (by decide) (eC_1 ad _) (t0 := 1) rfl g37 dX3_odds_37 ?_
      refine lv_iload hx hb dX3_odds_38 (lv_at hl 5 rfl) ?_
      refine lv_iload_n hx hb dX3_odds_40 rfl (lv_at hl 2 rfl) ?_
      refine call0i (va_runS (As := [.ref (ad (9 + (ix p3))), .int p5, .int p2]) (rest := []) S (c_X3_isDoor l ad D H.size ((f_X3_spanRefusal (u2 σ 0 9 0) p3 p4 p5 9).2) (ix p3) p5 p2 (vpl g37) (by omega)) (va_cwS 3 S.2.2.2.2 gX3_odds_X3_isDoor rfl rfl rfl hd_X3_isDoor ⟨Nat.le_of_ble_eq_true rfl, Nat.le_of_ble_eq_true rfl⟩) (preS hK hN w) rfl rfl hl.1 rfl (lv_room (Nat.le_of_ble_eq_true rfl)) dX3_odds_41 ⟨Nat.zero_le _, Nat.zero_le _⟩) ?_
      refine lv_if_eq (tgt := 58) hx hb dX3_odds_44 (by decide) (fun c44 => ?_) (fun c44 => ?_)
      · rw [if_pos c44] at hG
        refine lv_ldc2 hx hb S.2.2.2.1 (S.2.2.2.2 _ (List.mem_of_getElem? (i := 3) rfl)) dX3_odds_58 ?_
        exact endWl S hr hlocks w hG dX3_odds_61
      · rw [if_neg c44] at hG
        refine lv_iload hx hb dX3_odds_47 (lv_at hl 6 rfl) ?_
        refine lv_if_lt (tgt := 58) hx hb dX3_odds_49 (by decide) (fun c49 => ?_) (fun c49 => ?_)
        · have t49 : p6.toInt < 0 := qt_lt c49
          rw [if_pos c49] at hG
          refine lv_ldc2 hx hb S.2.2.2.1 (S.2.2.2.2 _ (List.mem_of_getElem? (i := 3) rfl)) dX3_odds_58 ?_
          exact endWl S hr hlocks w hG dX3_odds_61
        · have t49 : 0 ≤ p6.toInt := qt_nlt c49
          rw [if_neg c49] at hG
          refine lv_iload hx hb dX3_odds_52 (lv_at hl 6 rfl) ?_
          refine lv_iconst (v := 1) hx hb dX3_odds_54 (by decide) ?_
          refine lv_icmp_le (tgt := 62) hx hb dX3_odds_55 (by decide) (fun c55 => ?_) (fun c55 => ?_)
          · have t55 : p6.toInt ≤ 1 := qt_le c55
            rw [if_pos c55] at hG
            refine lv_aload_n hx hb dX3_odds_62 rfl (lv_at hl 0 rfl) ?_
            refine lv_iload_n hx hb dX3_odds_63 rfl (lv_at hl 2 rfl) ?_
            refine lv_aload_n hx hb dX3_odds_64 rfl (lv_at hl 0 rfl) ?_
            refine r_get (C := RX3) (T := TX3) (N := 14) S hK w (k := 0) (by decide) (eC_0 ad _) rfl hinX3 0 (by decide) (List.mem_of_getElem? (i := 4) rfl) rfl dX3_odds_65 ?_
            refine lv_iload_n hx hb dX3_odds_68 rfl (lv_at hl 3 rfl) ?_
            have g69 : vp_in p3 4 := vpi (by omega) (by omega)
            refine r_aald S hK w (k := 1) (by decide) (eC_1 ad _) (t0 := 1) rfl g69 dX3_odds_69 ?_
            refine lv_iload hx hb dX3_odds_70 (lv_at hl 5 rfl) ?_
            have z7 := fun (q : Nat) (a b : Int32) => ch_le (q := q) (a := a) (b := b) hok
            refine callWi w (va_runV (As := [.int p2, .ref (ad (9 + (ix p3))), .int p5]) (rest := []) S (c_X3_countHours l ad D H.size ((f_X3_spanRefusal (u2 σ 0 9 0) p3 p4 p5 9).2) p2 (ix p3) p5 hok (vpl g69) (by omega)) (cwV 3 S.2.2.2.2 gX3_odds_X3_countHours rfl rfl rfl ⟨rfl, hd_X3_countHours⟩ ⟨Nat.le_of_ble_eq_true rfl, Nat.le_of_ble_eq_true rfl⟩) (preV hK hN w (k := 0) (by decide) (eC_0 ad _) (q := (RX3, TX3, 14)) rfl) rfl rfl hl.1 rfl (lv_room (Nat.le_of_ble_eq_true rfl)) dX3_odds_72 ⟨Nat.zero_le _, Nat.zero_le _⟩) (fun H locs w => ?_)
            refine lv_istore (lv' := [(7, .int ((f_X3_countHours ((f_X3_spanRefusal (u2 σ 0 9 0) p3 p4 p5 9).2) p2 (ix p3) p5).1)), (0, .ref (ad 0)), (1, .int p1), (2, .int p2), (3, .int p3), (4, .int p4), (5, .int p5), (6, .int p6)]) hx hb dX3_odds_75 hl (by decide) rfl (fun ls hl => ?_)
            refine lv_iload hx hb dX3_odds_77 (lv_at hl 0 rfl) ?_
            refine lv_if_ne (tgt := 86) hx hb dX3_odds_79 (by decide) (fun c79 => ?_) (fun c79 => ?_)
            · have t79 : ((f_X3_countHours ((f_X3_spanRefusal (u2 σ 0 9 0) p3 p4 p5 9).2) p2 (ix p3) p5).1).toInt ≠ 0 := qt_ne c79
              rw [if_neg c79] at hG
              refine lv_iload hx hb dX3_odds_86 (lv_at hl 7 rfl) ?_
              have J88_102 : ∀ (k0_88_102 : Int32), ((k0_88_102 / (f_X3_commonDivisor (((f_X3_countHours ((f_X3_spanRefusal (u2 σ 0 9 0) p3 p4 p5 9).2) p2 (ix p3) p5).2) 7 (ix p1)) ((f_X3_countHours ((f_X3_spanRefusal (u2 σ 0 9 0) p3 p4 p5 9).2) p2 (ix p3) p5).1))).toInt64, (f_X3_countHours ((f_X3_spanRefusal (u2 σ 0 9 0) p3 p4 p5 9).2) p2 (ix p3) p5).2) = T → ∀ (H : Heap) (locs : List Loc), CW 41 (eC ad) ad D (CA 41 ad sz) s.heap ((f_X3_countHours ((f_X3_spanRefusal (u2 σ 0 9 0) p3 p4 p5 9).2) p2 (ix p3) p5).2) H locs → ∀ ls : Array Slot, lv_has ls 9 [(0, .ref (ad 0)), (1, .int p1), (7, .int ((f_X3_countHours ((f_X3_spanRefusal (u2 σ 0 9 0) p3 p4 p5 9).2) p2 (ix p3) p5).1))] → W p l e (headSpec wsX3_odds ({ frames := 4, cells := 0, slots := 0, locals := 100 })).room s m ([.ref (ad 0), .int p1, .int p2, .int p3, .int p4, .int p5, .int p6] : List Value).toArray below meth c H locs 0 0 (MQ below (QWl 41 (eC ad) ad D T (CA 41 ad sz)) ([.ref (ad 0), .int p1, .int p2, .int p3, .int p4, .int p5, .int p6] : List Value).toArray s 0 0 (CA 41 ad sz)) (F0 m 102 ls [.int k0_88_102]) := by
                intro k0_88_102 hG H locs w ls hl
                refine lv_istore (lv' := [(8, .int k0_88_102), (0, .ref (ad 0)), (1, .int p1), (7, .int ((f_X3_countHours ((f_X3_spanRefusal (u2 σ 0 9 0) p3 p4 p5 9).2) p2 (ix p3) p5).1))]) hx hb dX3_odds_102 hl (by decide) rfl (fun ls hl => ?_)
                refine lv_iload hx hb dX3_odds_104 (lv_at hl 0 rfl) ?_
                refine lv_aload_n hx hb dX3_odds_106 rfl (lv_at hl 1 rfl) ?_
                refine r_get (C := RX3) (T := TX3) (N := 14) S hK w (k := 0) (by decide) (eC_0 ad _) rfl hinX3 12 (by decide) (List.mem_of_getElem? (i := 5) rfl) rfl dX3_odds_107 ?_
                refine lv_iload_n hx hb dX3_odds_110 rfl (lv_at hl 2 rfl) ?_
                have g111 : vp_in p1 8 := vpi (by omega) (by omega)
                refine r_iald (cA := ad 100) (N := 8) S hK w (k := 7) (by decide) (fun f => eC_7 ad f) rfl g111 dX3_odds_111 ?_
                refine lv_iload hx hb dX3_odds_112 (lv_at hl 3 rfl) ?_
                refine call0i (va_runS (As := [.int (((f_X3_countHours ((f_X3_spanRefusal (u2 σ 0 9 0) p3 p4 p5 9).2) p2 (ix p3) p5).2) 7 (ix p1)), .int ((f_X3_countHours ((f_X3_spanRefusal (u2 σ 0 9 0) p3 p4 p5 9).2) p2 (ix p3) p5).1)]) (rest := [.int k0_88_102]) S (c_X3_commonDivisor l (((f_X3_countHours ((f_X3_spanRefusal (u2 σ 0 9 0) p3 p4 p5 9).2) p2 (ix p3) p5).2) 7 (ix p1)) ((f_X3_countHours ((f_X3_spanRefusal (u2 σ 0 9 0) p3 p4 p5 9).2) p2 (ix p3) p5).1) (z7 _ _ _).2) (va_cwS 2 S.2.2.2.2 gX3_odds_X3_commonDivisor rfl rfl rfl hd_X3_commonDivisor ⟨Nat.le_of_ble_eq_true rfl, Nat.le_of_ble_eq_true rfl⟩) pre0S rfl rfl hl.1 rfl (lv_room (Nat.le_of_ble_eq_true rfl)) dX3_odds_114 ⟨Nat.zero_le _, Nat.zero_le _⟩) ?_
                refine lv_idiv hx hb dX3_odds_117 (cd_nz _ _) ?_
                refine lv_i2l hx hb dX3_odds_118 rfl ?_
                exact endWl S hr hlocks w hG dX3_odds_119
              refine lv_if_ne (tgt := 100) hx hb dX3_odds_88 (by decide) (fun c88 => ?_) (fun c88 => ?_)
              · have t88 : p6.toInt ≠ 0 := qt_ne c88
                simp only [if_neg c88] at hG
                refine lv_iload hx hb dX3_odds_100 (lv_at hl 0 rfl) ?_
                exact J88_102 ((f_X3_countHours ((f_X3_spanRefusal (u2 σ 0 9 0) p3 p4 p5 9).2) p2 (ix p3) p5).1) hG _ _ w ls (lv_sub hl [1, 2, 0] rfl)
              · have t88 : p6.toInt = 0 := qt_eq c88
                simp only [if_pos c88] at hG
                refine lv_aload_n hx hb dX3_odds_91 rfl (lv_at hl 1 rfl) ?_
                refine r_get (C := RX3) (T := TX3) (N := 14) S hK w (k := 0) (by decide) (eC_0 ad _) rfl hinX3 12 (by decide) (List.mem_of_getElem? (i := 5) rfl) rfl dX3_odds_92 ?_
                refine lv_iload_n hx hb dX3_odds_95 rfl (lv_at hl 2 rfl) ?_
                have g96 : vp_in p1 8 := vpi (by omega) (by omega)
                refine r_iald (cA := ad 100) (N := 8) S hK w (k := 7) (by decide) (fun f => eC_7 ad f) rfl g96 dX3_odds_96 ?_
                refine lv_goto (tgt := 102) hx hb dX3_odds_97 (by decide) ?_
                exact J88_102 (((f_X3_countHours ((f_X3_spanRefusal (u2 σ 0 9 0) p3 p4 p5 9).2) p2 (ix p3) p5).2) 7 (ix p1)) hG _ _ w ls (lv_sub hl [1, 2, 0] rfl)
            · have t79 : ((f_X3_countHours ((f_X3_spanRefusal (u2 σ 0 9 0) p3 p4 p5 9).2) p2 (ix p3) p5).1).toInt = 0 := qt_eq c79
              rw [if_pos c79] at hG
              refine lv_ldc2 hx hb S.2.2.2.1 (S.2.2.2.2 _ (List.mem_of_getElem? (i := 3) rfl)) dX3_odds_82 ?_
              exact endWl S hr hlocks w hG dX3_odds_85
          · have t55 : 1 < p6.toInt := qt_nle c55
            rw [if_neg c55] at hG
            refine lv_ldc2 hx hb S.2.2.2.1 (S.2.2.2.2 _ (List.mem_of_getElem? (i := 3) rfl)) dX3_odds_58 ?_
            exact endWl S hr hlocks w hG dX3_odds_61
    · have t25 : ((f_X3_spanRefusal (u2 σ 0 9 0) p3 p4 p5 9).1).toInt ≠ 0 := qt_ne c25
      rw [if_neg c25] at hG
      refine lv_ldc2 hx hb S.2.2.2.1 (S.2.2.2.2 _ (List.mem_of_getElem? (i := 3) rfl)) dX3_odds_28 ?_
      exact endWl S hr hlocks w hG dX3_odds_31
set_option maxHeartbeats 4000000 in
set_option maxRecDepth 100000 in
theorem c_X3_who (l : Launch) (ad : Nat → Nat) (D : va_G) (sz : Nat) (σ : St) (p1 : Int32) (p2 : Int32) (p3 : Int32) (p4 : Int32) (hok : OkC σ) : Met l yX3_who wsX3_who ({ frames := 4, cells := 0, slots := 0, locals := 100 }) (PreW 41 (eC ad) ad D (tyC ad) σ sz ([.ref (ad 0), .int p1, .int p2, .int p3, .int p4] : List Value)) (QWi 41 (eC ad) ad D (f_X3_who σ p1 p2 p3 p4) (CA 41 ad sz)) 0 0 (CA 41 ad sz) := by
  generalize hG : f_X3_who σ p1 p2 p3 p4 = T
  refine headW (cc := cX3_who) (maxL := 9) (ret := (some .int)) ([.ref (ad 0), .int p1, .int p2, .int p3, .int p4] : List Value) (by decide) rfl (Nat.le_of_ble_eq_true rfl) ?_
  intro p e s m below meth c S hr hlocks hK hN hsz w ls hl
  have S : CallFix p m c cX3_who 9 s ([.ref (ad 0), .int p1, .int p2, .int p3, .int p4] : List Value).toArray wsX3_who RX3 := S
  have hx := S.1
  have hb := S.2.1
  have z0 : (0 : Int32).toInt = 0 := by decide
  have z1 : (1 : Int32).toInt = 1 := by decide
  have hl : lv_has ls 9 [(0, .ref (ad 0)), (1, .int p1), (2, .int p2), (3, .int p3), (4, .int p4)] := hl
  have hinX3 : ∀ w ∈ wsX30, w ∈ wsX3_who := (fun _ h => List.mem_cons_of_mem _ (List.mem_append_left _ (List.mem_append_left _ (List.mem_append_right _ h))))
  have hinX1 : ∀ w ∈ wsX10, w ∈ wsX3_who := (fun _ h => List.mem_cons_of_mem _ (List.mem_append_left _ (List.mem_append_right _ h)))
  have hinX2 : ∀ w ∈ wsX20, w ∈ wsX3_who := (fun _ h => List.mem_cons_of_mem _ (List.mem_append_right _ h))
  have okf0 := hok.1
  have okf1 := hok.2.1
  have okf2 := hok.2.2.1
  have okf3 := hok.2.2.2.1
  have okf4 := hok.2.2.2.2.1
  have okf5 := hok.2.2.2.2.2
  rw [f_X3_who] at hG
  refine lv_aload_n hx hb dX3_who_0 rfl (lv_at hl 0 rfl) ?_
  refine lv_iload_n hx hb dX3_who_1 rfl (lv_at hl 2 rfl) ?_
  refine lv_iload_n hx hb dX3_who_2 rfl (lv_at hl 3 rfl) ?_
  refine lv_iload hx hb dX3_who_3 (lv_at hl 4 rfl) ?_
  refine lv_ldc2 hx hb S.2.2.2.1 (S.2.2.2.2 _ (List.mem_of_getElem? (i := 1) rfl)) dX3_who_5 ?_
  have ok3 := okf3
  refine callWi w (va_runV (As := [.int p2, .int p3, .int p4, .long 9]) (rest := []) S (c_X3_spanRefusal l ad D s.heap.size σ p2 p3 p4 9) (cwV 4 S.2.2.2.2 gX3_who_X3_spanRefusal rfl rfl rfl ⟨rfl, hd_X3_spanRefusal⟩ ⟨Nat.le_of_ble_eq_true rfl, Nat.le_of_ble_eq_true rfl⟩) (preV hK hN w (k := 0) (by decide) (eC_0 ad _) (q := (RX3, TX3, 14)) rfl) rfl rfl hl.1 rfl (lv_room (Nat.le_of_ble_eq_true rfl)) dX3_who_8 ⟨Nat.zero_le _, Nat.zero_le _⟩) (fun H locs w => ?_)
  have hok : OkC ((f_X3_spanRefusal σ p2 p3 p4 9).2) := ok_X3_spanRefusal hok
  have okf0 := hok.1
  have okf1 := hok.2.1
  have okf2 := hok.2.2.1
  have okf3 := hok.2.2.2.1
  have okf4 := hok.2.2.2.2.1
  have okf5 := hok.2.2.2.2.2
  refine lv_istore (lv' := [(5, .int ((f_X3_spanRefusal σ p2 p3 p4 9).1)), (0, .ref (ad 0)), (1, .int p1), (2, .int p2), (3, .int p3), (4, .int p4)]) hx hb dX3_who_11 hl (by decide) rfl (fun ls hl => ?_)
  refine lv_iload hx hb dX3_who_13 (lv_at hl 0 rfl) ?_
  refine lv_if_eq (tgt := 21) hx hb dX3_who_15 (by decide) (fun c15 => ?_) (fun c15 => ?_)
  · have t15 : ((f_X3_spanRefusal σ p2 p3 p4 9).1).toInt = 0 := qt_eq c15
    rw [if_pos c15] at hG
    have z := sp_z c15
    have z9 : (9 : Int64).toInt = 9 := by decide
    have z3 := ok3 (ix p2) (vpl (vpi (by omega) (by omega)))
    refine lv_aload_n hx hb dX3_who_21 rfl (lv_at hl 1 rfl) ?_
    refine r_get (C := RX3) (T := TX3) (N := 14) S hK w (k := 0) (by decide) (eC_0 ad _) rfl hinX3 0 (by decide) (List.mem_of_getElem? (i := 2) rfl) rfl dX3_who_22 ?_
    refine lv_iload_n hx hb dX3_who_25 rfl (lv_at hl 3 rfl) ?_
    have g26 : vp_in p2 4 := vpi (by omega) (by omega)
    refine r_aald S hK w (k := 1) (by decide) (eC_1 ad _) (t0 := 1) rfl g26 dX3_who_26 ?_
    refine lv_iload hx hb dX3_who_27 (lv_at hl 5 rfl) ?_
    refine lv_iload_n hx hb dX3_who_29 rfl (lv_at hl 2 rfl) ?_
    refine call0i (va_runS (As := [.ref (ad (9 + (ix p2))), .int p4, .int p1]) (rest := []) S (c_X3_isDoor l ad D H.size ((f_X3_spanRefusal σ p2 p3 p4 9).2) (ix p2) p4 p1 (vpl g26) (by omega)) (va_cwS 3 S.2.2.2.2 gX3_who_X3_isDoor rfl rfl rfl hd_X3_isDoor ⟨Nat.le_of_ble_eq_true rfl, Nat.le_of_ble_eq_true rfl⟩) (preS hK hN w) rfl rfl hl.1 rfl (lv_room (Nat.le_of_ble_eq_true rfl)) dX3_who_30 ⟨Nat.zero_le _, Nat.zero_le _⟩) ?_
    refine lv_if_ne (tgt := 39) hx hb dX3_who_33 (by decide) (fun c33 => ?_) (fun c33 => ?_)
    · rw [if_neg c33] at hG
      refine lv_aload_n hx hb dX3_who_39 rfl (lv_at hl 1 rfl) ?_
      refine lv_iload_n hx hb dX3_who_40 rfl (lv_at hl 2 rfl) ?_
      refine lv_aload_n hx hb dX3_who_41 rfl (lv_at hl 1 rfl) ?_
      refine r_get (C := RX3) (T := TX3) (N := 14) S hK w (k := 0) (by decide) (eC_0 ad _) rfl hinX3 0 (by decide) (List.mem_of_getElem? (i := 2) rfl) rfl dX3_who_42 ?_
      refine lv_iload_n hx hb dX3_who_45 rfl (lv_at hl 3 rfl) ?_
      have g46 : vp_in p2 4 := vpi (by omega) (by omega)
      refine r_aald S hK w (k := 1) (by decide) (eC_1 ad _) (t0 := 1) rfl g46 dX3_who_46 ?_
      refine lv_iload hx hb dX3_who_47 (lv_at hl 5 rfl) ?_
      refine callWi w (va_runV (As := [.int p1, .ref (ad (9 + (ix p2))), .int p4]) (rest := []) S (c_X3_countHours l ad D H.size ((f_X3_spanRefusal σ p2 p3 p4 9).2) p1 (ix p2) p4 hok (vpl g46) (by omega)) (cwV 3 S.2.2.2.2 gX3_who_X3_countHours rfl rfl rfl ⟨rfl, hd_X3_countHours⟩ ⟨Nat.le_of_ble_eq_true rfl, Nat.le_of_ble_eq_true rfl⟩) (preV hK hN w (k := 0) (by decide) (eC_0 ad _) (q := (RX3, TX3, 14)) rfl) rfl rfl hl.1 rfl (lv_room (Nat.le_of_ble_eq_true rfl)) dX3_who_49 ⟨Nat.zero_le _, Nat.zero_le _⟩) (fun H locs w => ?_)
      have hok : OkC ((f_X3_countHours ((f_X3_spanRefusal σ p2 p3 p4 9).2) p1 (ix p2) p4).2) := ok_X3_countHours hok
      have okf0 := hok.1
      have okf1 := hok.2.1
      have okf2 := hok.2.2.1
      have okf3 := hok.2.2.2.1
      have okf4 := hok.2.2.2.2.1
      have okf5 := hok.2.2.2.2.2
      refine lv_pop hx hb dX3_who_52 rfl ?_
      refine lv_bipush (v := (-9)) hx hb dX3_who_53 (by decide) ?_
      refine lv_istore (lv' := [(6, .int (-9)), (5, .int ((f_X3_spanRefusal σ p2 p3 p4 9).1)), (0, .ref (ad 0)), (1, .int p1), (2, .int p2), (3, .int p3), (4, .int p4)]) hx hb dX3_who_55 hl (by decide) rfl (fun ls hl => ?_)
      refine lv_iconst (v := 0) hx hb dX3_who_57 (by decide) ?_
      refine lv_istore (lv' := [(7, .int 0), (6, .int (-9)), (5, .int ((f_X3_spanRefusal σ p2 p3 p4 9).1)), (0, .ref (ad 0)), (1, .int p1), (2, .int p2), (3, .int p3), (4, .int p4)]) hx hb dX3_who_58 hl (by decide) rfl (fun ls hl => ?_)
      refine lv_iconst (v := 0) hx hb dX3_who_60 (by decide) ?_
      refine lv_istore (lv' := [(8, .int 0), (7, .int 0), (6, .int (-9)), (5, .int ((f_X3_spanRefusal σ p2 p3 p4 9).1)), (0, .ref (ad 0)), (1, .int p1), (2, .int p2), (3, .int p3), (4, .int p4)]) hx hb dX3_who_61 hl (by decide) rfl (fun ls hl => ?_)
      have L63 : ∀ (n : Nat) (res63 : Int32), ∀ (v6_63 : Int32), ∀ (v7_63 : Int32), ∀ (v8_63 : Int32), ((0 ≤ v8_63.toInt ∧ v8_63.toInt ≤ 8)) → (8 - v8_63.toInt).toNat < n → (lp_X3_who_63 ((f_X3_countHours ((f_X3_spanRefusal σ p2 p3 p4 9).2) p1 (ix p2) p4).2) n v6_63 v7_63 v8_63) = res63 → (∀ (v6_63e : Int32), res63 = v6_63e → ∀ (H : Heap) (locs : List Loc), CW 41 (eC ad) ad D (CA 41 ad sz) s.heap ((f_X3_countHours ((f_X3_spanRefusal σ p2 p3 p4 9).2) p1 (ix p2) p4).2) H locs → ∀ ls : Array Slot, lv_has ls 9 [(0, .ref (ad 0)), (6, .int v6_63e)] → W p l e (headSpec wsX3_who ({ frames := 4, cells := 0, slots := 0, locals := 100 })).room s m ([.ref (ad 0), .int p1, .int p2, .int p3, .int p4] : List Value).toArray below meth c H locs 0 0 (MQ below (QWi 41 (eC ad) ad D T (CA 41 ad sz)) ([.ref (ad 0), .int p1, .int p2, .int p3, .int p4] : List Value).toArray s 0 0 (CA 41 ad sz)) (F0 m 103 ls [])) → ∀ (H : Heap) (locs : List Loc), CW 41 (eC ad) ad D (CA 41 ad sz) s.heap ((f_X3_countHours ((f_X3_spanRefusal σ p2 p3 p4 9).2) p1 (ix p2) p4).2) H locs → ∀ ls : Array Slot, lv_has ls 9 [(0, .ref (ad 0)), (6, .int v6_63), (7, .int v7_63), (8, .int v8_63)] → W p l e (headSpec wsX3_who ({ frames := 4, cells := 0, slots := 0, locals := 100 })).room s m ([.ref (ad 0), .int p1, .int p2, .int p3, .int p4] : List Value).toArray below meth c H locs 0 0 (MQ below (QWi 41 (eC ad) ad D T (CA 41 ad sz)) ([.ref (ad 0), .int p1, .int p2, .int p3, .int p4] : List Value).toArray s 0 0 (CA 41 ad sz)) (F0 m 63 ls []) := by
        intro n
        induction n with
        | zero => intro _ _ _ _ _ hm; exact absurd hm (Nat.not_lt_zero _)
        | succ n ih63 =>
          intro res63 v6_63 v7_63 v8_63 hI63 hm63 hG hex63 H locs w ls hl
          have i63_0 := hI63
          rw [lp_X3_who_63] at hG
          refine lv_iload hx hb dX3_who_63 (lv_at hl 3 rfl) ?_
          refine lv_aload_n hx hb dX3_who_65 rfl (lv_at hl 0 rfl) ?_
          refine r_get (C := RX3) (T := TX3) (N := 14) S hK w (k := 0) (by decide) (eC_0 ad _) rfl hinX3 4 (by decide) (List.mem_of_getElem? (i := 3) rfl) rfl dX3_who_66 ?_
          refine lv_icmp_ge (tgt := 103) hx hb dX3_who_69 (by decide) (fun c69 => ?_) (fun c69 => ?_)
          · have t69 : (((f_X3_countHours ((f_X3_spanRefusal σ p2 p3 p4 9).2) p1 (ix p2) p4).2) 0 4).toInt ≤ v8_63.toInt := qt_le c69
            rw [if_pos c69] at hG
            exact hex63 v6_63 hG.symm _ _ w ls (lv_sub hl [0, 1] rfl)
          · have t69 : v8_63.toInt < (((f_X3_countHours ((f_X3_spanRefusal σ p2 p3 p4 9).2) p1 (ix p2) p4).2) 0 4).toInt := qt_nle c69
            rw [if_neg c69] at hG
            refine lv_aload_n hx hb dX3_who_72 rfl (lv_at hl 0 rfl) ?_
            refine r_get (C := RX3) (T := TX3) (N := 14) S hK w (k := 0) (by decide) (eC_0 ad _) rfl hinX3 12 (by decide) (List.mem_of_getElem? (i := 4) rfl) rfl dX3_who_73 ?_
            refine lv_iload hx hb dX3_who_76 (lv_at hl 3 rfl) ?_
            have g78 : vp_in v8_63 8 := vpi (by omega) (by omega)
            refine r_iald (cA := ad 100) (N := 8) S hK w (k := 7) (by decide) (fun f => eC_7 ad f) rfl g78 dX3_who_78 ?_
            refine lv_iload hx hb dX3_who_79 (lv_at hl 2 rfl) ?_
            refine lv_icmp_le (tgt := 97) hx hb dX3_who_81 (by decide) (fun c81 => ?_) (fun c81 => ?_)
            · have t81 : (((f_X3_countHours ((f_X3_spanRefusal σ p2 p3 p4 9).2) p1 (ix p2) p4).2) 7 (ix v8_63)).toInt ≤ v7_63.toInt := qt_le c81
              rw [if_pos c81] at hG
              refine lv_iinc (v := (v8_63 + 1)) (lv' := [(8, .int (v8_63 + 1)), (0, .ref (ad 0)), (6, .int v6_63), (7, .int v7_63)]) hx hb dX3_who_97 hl (k := 3) rfl rfl (by decide) rfl (fun ls hl => ?_)
              refine lv_goto (tgt := 63) hx hb dX3_who_100 (by decide) ?_
              have b8_63 : (v8_63 + 1).toInt = v8_63.toInt + 1 := inc_toInt (by omega) (by omega)
              exact ih63 _ v6_63 v7_63 (v8_63 + 1) (by omega) (by omega) hG hex63 _ _ w ls (lv_sub hl [1, 2, 3, 0] rfl)
            · have t81 : v7_63.toInt < (((f_X3_countHours ((f_X3_spanRefusal σ p2 p3 p4 9).2) p1 (ix p2) p4).2) 7 (ix v8_63)).toInt := qt_nle c81
              rw [if_neg c81] at hG
              refine lv_aload_n hx hb dX3_who_84 rfl (lv_at hl 0 rfl) ?_
              refine r_get (C := RX3) (T := TX3) (N := 14) S hK w (k := 0) (by decide) (eC_0 ad _) rfl hinX3 12 (by decide) (List.mem_of_getElem? (i := 4) rfl) rfl dX3_who_85 ?_
              refine lv_iload hx hb dX3_who_88 (lv_at hl 3 rfl) ?_
              have g90 : vp_in v8_63 8 := vpi (by omega) (by omega)
              refine r_iald (cA := ad 100) (N := 8) S hK w (k := 7) (by decide) (fun f => eC_7 ad f) rfl g90 dX3_who_90 ?_
              refine lv_istore (lv' := [(7, .int (((f_X3_countHours ((f_X3_spanRefusal σ p2 p3 p4 9).2) p1 (ix p2) p4).2) 7 (ix v8_63))), (0, .ref (ad 0)), (6, .int v6_63), (8, .int v8_63)]) hx hb dX3_who_91 hl (by decide) rfl (fun ls hl => ?_)
              refine lv_iload hx hb dX3_who_93 (lv_at hl 3 rfl) ?_
              refine lv_istore (lv' := [(6, .int v8_63), (7, .int (((f_X3_countHours ((f_X3_spanRefusal σ p2 p3 p4 9).2) p1 (ix p2) p4).2) 7 (ix v8_63))), (0, .ref (ad 0)), (8, .int v8_63)]) hx hb dX3_who_95 hl (by decide) rfl (fun ls hl => ?_)
              refine lv_iinc (v := (v8_63 + 1)) (lv' := [(8, .int (v8_63 + 1)), (6, .int v8_63), (7, .int (((f_X3_countHours ((f_X3_spanRefusal σ p2 p3 p4 9).2) p1 (ix p2) p4).2) 7 (ix v8_63))), (0, .ref (ad 0))]) hx hb dX3_who_97 hl (k := 3) rfl rfl (by decide) rfl (fun ls hl => ?_)
              refine lv_goto (tgt := 63) hx hb dX3_who_100 (by decide) ?_
              have b8_63 : (v8_63 + 1).toInt = v8_63.toInt + 1 := inc_toInt (by omega) (by omega)
              exact ih63 _ v8_63 (((f_X3_countHours ((f_X3_spanRefusal σ p2 p3 p4 9).2) p1 (ix p2) p4).2) 7 (ix v8_63)) (v8_63 + 1) (by omega) (by omega) hG hex63 _ _ w ls (lv_sub hl [3, 1, 2, 0] rfl)
      refine L63 200 _ (-9) 0 0 (by omega) (by omega) rfl (fun v6_63e hr63 H locs w ls hl => ?_) _ _ w ls (lv_sub hl [4, 2, 1, 0] rfl)
      rw [hr63] at hG
      refine lv_iload hx hb dX3_who_103 (lv_at hl 1 rfl) ?_
      exact endWi S hr hlocks w hG dX3_who_105
    · rw [if_pos c33] at hG
      refine lv_bipush (v := (-2)) hx hb dX3_who_36 (by decide) ?_
      exact endWi S hr hlocks w hG dX3_who_38
  · have t15 : ((f_X3_spanRefusal σ p2 p3 p4 9).1).toInt ≠ 0 := qt_ne c15
    rw [if_neg c15] at hG
    refine lv_iload hx hb dX3_who_18 (lv_at hl 0 rfl) ?_
    exact endWi S hr hlocks w hG dX3_who_20
set_option maxHeartbeats 4000000 in
set_option maxRecDepth 100000 in
theorem c_X3_sheet (l : Launch) (ad : Nat → Nat) (D : va_G) (sz : Nat) (σ : St) (p1 : Int32) (p2 : Int32) (p3 : Int32) : Met l yX3_sheet wsX3_sheet ({ frames := 2, cells := 0, slots := 0, locals := 45 }) (PreW 41 (eC ad) ad D (tyC ad) σ sz ([.ref (ad 0), .int p1, .int p2, .int p3] : List Value)) (QWi 41 (eC ad) ad D (f_X3_sheet σ p1 p2 p3) (CA 41 ad sz)) 0 0 (CA 41 ad sz) := by
  generalize hG : f_X3_sheet σ p1 p2 p3 = T
  refine headW (cc := cX3_sheet) (maxL := 4) (ret := (some .int)) ([.ref (ad 0), .int p1, .int p2, .int p3] : List Value) (by decide) rfl (Nat.le_of_ble_eq_true rfl) ?_
  intro p e s m below meth c S hr hlocks hK hN hsz w ls hl
  have S : CallFix p m c cX3_sheet 4 s ([.ref (ad 0), .int p1, .int p2, .int p3] : List Value).toArray wsX3_sheet RX3 := S
  have hx := S.1
  have hb := S.2.1
  have z0 : (0 : Int32).toInt = 0 := by decide
  have z1 : (1 : Int32).toInt = 1 := by decide
  have hl : lv_has ls 4 [(0, .ref (ad 0)), (1, .int p1), (2, .int p2), (3, .int p3)] := hl
  have hinX3 : ∀ w ∈ wsX30, w ∈ wsX3_sheet := (fun _ h => List.mem_cons_of_mem _ (List.mem_append_left _ (List.mem_append_right _ h)))
  have hinX1 : ∀ w ∈ wsX10, w ∈ wsX3_sheet := (fun _ h => List.mem_cons_of_mem _ (List.mem_append_right _ h))
  rw [f_X3_sheet] at hG
  refine lv_iload_n hx hb dX3_sheet_0 rfl (lv_at hl 1 rfl) ?_
  refine call0i (va_runS (As := [.int p1]) (rest := []) S (c_X3_isSheet l p1) (va_cwS 1 S.2.2.2.2 gX3_sheet_X3_isSheet rfl rfl rfl hd_X3_isSheet ⟨Nat.le_of_ble_eq_true rfl, Nat.le_of_ble_eq_true rfl⟩) pre0S rfl rfl hl.1 rfl (lv_room (Nat.le_of_ble_eq_true rfl)) dX3_sheet_1 ⟨Nat.zero_le _, Nat.zero_le _⟩) ?_
  refine lv_if_ne (tgt := 13) hx hb dX3_sheet_4 (by decide) (fun c4 => ?_) (fun c4 => ?_)
  · have t4 := bf_isSheet_n c4
    rw [if_neg c4] at hG
    refine lv_iload_n hx hb dX3_sheet_13 rfl (lv_at hl 2 rfl) ?_
    refine call0i (va_runS (As := [.int p2]) (rest := []) S (c_X3_isLane l p2) (va_cwS 1 S.2.2.2.2 gX3_sheet_X3_isLane rfl rfl rfl hd_X3_isLane ⟨Nat.le_of_ble_eq_true rfl, Nat.le_of_ble_eq_true rfl⟩) pre0S rfl rfl hl.1 rfl (lv_room (Nat.le_of_ble_eq_true rfl)) dX3_sheet_14 ⟨Nat.zero_le _, Nat.zero_le _⟩) ?_
    refine lv_if_eq (tgt := 26) hx hb dX3_sheet_17 (by decide) (fun c17 => ?_) (fun c17 => ?_)
    · rw [if_pos c17] at hG
      refine lv_aload_n hx hb dX3_sheet_26 rfl (lv_at hl 0 rfl) ?_
      refine lv_bipush (v := (-2)) hx hb dX3_sheet_27 (by decide) ?_
      refine callWi w (va_runV (As := [.int (-2)]) (rest := []) S (c_X3_refused l ad D s.heap.size σ (-2)) (cwV 1 S.2.2.2.2 gX3_sheet_X3_refused rfl rfl rfl ⟨rfl, hd_X3_refused⟩ ⟨Nat.le_of_ble_eq_true rfl, Nat.le_of_ble_eq_true rfl⟩) (preV hK hN w (k := 0) (by decide) (eC_0 ad _) (q := (RX3, TX3, 14)) rfl) rfl rfl hl.1 rfl (lv_room (Nat.le_of_ble_eq_true rfl)) dX3_sheet_29 ⟨Nat.zero_le _, Nat.zero_le _⟩) (fun H locs w => ?_)
      exact endWi S hr hlocks w hG dX3_sheet_32
    · rw [if_neg c17] at hG
      refine lv_iload_n hx hb dX3_sheet_20 rfl (lv_at hl 3 rfl) ?_
      refine lv_bipush (v := 90) hx hb dX3_sheet_21 (by decide) ?_
      refine lv_icmp_le (tgt := 33) hx hb dX3_sheet_23 (by decide) (fun c23 => ?_) (fun c23 => ?_)
      · have t23 : p3.toInt ≤ 90 := qt_le c23
        rw [if_pos c23] at hG
        refine lv_iload_n hx hb dX3_sheet_33 rfl (lv_at hl 3 rfl) ?_
        refine lv_if_ge (tgt := 43) hx hb dX3_sheet_34 (by decide) (fun c34 => ?_) (fun c34 => ?_)
        · have t34 : 0 ≤ p3.toInt := qt_le c34
          rw [if_pos c34] at hG
          refine lv_aload_n hx hb dX3_sheet_43 rfl (lv_at hl 0 rfl) ?_
          refine lv_iconst (v := 0) hx hb dX3_sheet_44 (by decide) ?_
          refine r_put (C := RX3) (T := TX3) (N := 14) S hK w (k := 0) (by decide) (eC_0 ad _) rfl hinX3 tyX3 tyX3_ok nmX3 9 (by decide) (List.mem_of_getElem? (i := 1) rfl) rfl (x := 0) (ty := .int) (by decide +kernel) rfl rfl (by show _ < List.length _; exact Nat.le_of_ble_eq_true rfl) (sO ad _ _ 9 (by decide)) dX3_sheet_45 (fun H locs w => ?_)
          refine lv_aload_n hx hb dX3_sheet_48 rfl (lv_at hl 0 rfl) ?_
          refine r_get (C := RX3) (T := TX3) (N := 14) S hK w (k := 0) (by decide) (eC_0 ad _) rfl hinX3 0 (by decide) (List.mem_of_getElem? (i := 2) rfl) rfl dX3_sheet_49 ?_
          refine lv_iload_n hx hb dX3_sheet_52 rfl (lv_at hl 1 rfl) ?_
          have g53 : vp_in p1 4 := vpi (by omega) (by omega)
          refine r_aald S hK w (k := 1) (by decide) (eC_1 ad _) (t0 := 1) rfl g53 dX3_sheet_53 ?_
          refine lv_iload_n hx hb dX3_sheet_54 rfl (lv_at hl 2 rfl) ?_
          refine lv_iload_n hx hb dX3_sheet_55 rfl (lv_at hl 3 rfl) ?_
          refine callWv w (va_runVN (As := [.int p2, .int p3]) (rest := []) S (c_X1_renew l ad D H.size (u2 σ 0 9 0) (ix p1) p2 p3 (vpl g53)) ⟨va_cnB 2 S.2.2.2.2 gX3_sheet_X1_renew_n246 rfl rfl rfl (hN.m 4 rfl) (S.2.2.2.2 _ (List.mem_of_getElem? (i := 19) rfl)) hd_X1_renew ⟨Nat.le_of_ble_eq_true rfl, Nat.le_of_ble_eq_true rfl⟩, S.2.2.2.2 _ (List.mem_of_getElem? (i := 18) rfl), S.2.2.2.2 _ (List.mem_of_getElem? (i := 20) rfl)⟩ (preV hK hN w (k := (9 + (ix p1))) (Nat.lt_of_lt_of_le (Nat.add_lt_add_left (vpl g53) 9) (by decide)) (eC_sh ad (vpl g53) _) (q := (RX1, TX1, 4)) rfl) rfl rfl hl.1 rfl (lv_room (Nat.le_of_ble_eq_true rfl)) dX3_sheet_56 ⟨Nat.zero_le _, Nat.zero_le _⟩) (fun H locs w => ?_)
          refine lv_iconst (v := 1) hx hb dX3_sheet_59 (by decide) ?_
          exact endWi S hr hlocks w hG dX3_sheet_60
        · have t34 : p3.toInt < 0 := qt_nle c34
          rw [if_neg c34] at hG
          refine lv_aload_n hx hb dX3_sheet_37 rfl (lv_at hl 0 rfl) ?_
          refine lv_iconst (v := 4) hx hb dX3_sheet_38 (by decide) ?_
          refine callWi w (va_runV (As := [.int 4]) (rest := []) S (c_X3_faulted l ad D s.heap.size σ 4) (cwV 1 S.2.2.2.2 gX3_sheet_X3_faulted rfl rfl rfl ⟨rfl, hd_X3_faulted⟩ ⟨Nat.le_of_ble_eq_true rfl, Nat.le_of_ble_eq_true rfl⟩) (preV hK hN w (k := 0) (by decide) (eC_0 ad _) (q := (RX3, TX3, 14)) rfl) rfl rfl hl.1 rfl (lv_room (Nat.le_of_ble_eq_true rfl)) dX3_sheet_39 ⟨Nat.zero_le _, Nat.zero_le _⟩) (fun H locs w => ?_)
          exact endWi S hr hlocks w hG dX3_sheet_42
      · have t23 : 90 < p3.toInt := qt_nle c23
        rw [if_neg c23] at hG
        refine lv_aload_n hx hb dX3_sheet_26 rfl (lv_at hl 0 rfl) ?_
        refine lv_bipush (v := (-2)) hx hb dX3_sheet_27 (by decide) ?_
        refine callWi w (va_runV (As := [.int (-2)]) (rest := []) S (c_X3_refused l ad D s.heap.size σ (-2)) (cwV 1 S.2.2.2.2 gX3_sheet_X3_refused rfl rfl rfl ⟨rfl, hd_X3_refused⟩ ⟨Nat.le_of_ble_eq_true rfl, Nat.le_of_ble_eq_true rfl⟩) (preV hK hN w (k := 0) (by decide) (eC_0 ad _) (q := (RX3, TX3, 14)) rfl) rfl rfl hl.1 rfl (lv_room (Nat.le_of_ble_eq_true rfl)) dX3_sheet_29 ⟨Nat.zero_le _, Nat.zero_le _⟩) (fun H locs w => ?_)
        exact endWi S hr hlocks w hG dX3_sheet_32
  · rw [if_pos c4] at hG
    refine lv_aload_n hx hb dX3_sheet_7 rfl (lv_at hl 0 rfl) ?_
    refine lv_iconst (v := (-1)) hx hb dX3_sheet_8 (by decide) ?_
    refine callWi w (va_runV (As := [.int (-1)]) (rest := []) S (c_X3_refused l ad D s.heap.size σ (-1)) (cwV 1 S.2.2.2.2 gX3_sheet_X3_refused rfl rfl rfl ⟨rfl, hd_X3_refused⟩ ⟨Nat.le_of_ble_eq_true rfl, Nat.le_of_ble_eq_true rfl⟩) (preV hK hN w (k := 0) (by decide) (eC_0 ad _) (q := (RX3, TX3, 14)) rfl) rfl rfl hl.1 rfl (lv_room (Nat.le_of_ble_eq_true rfl)) dX3_sheet_9 ⟨Nat.zero_le _, Nat.zero_le _⟩) (fun H locs w => ?_)
    exact endWi S hr hlocks w hG dX3_sheet_12
set_option maxHeartbeats 4000000 in
set_option maxRecDepth 100000 in
theorem c_X3_lose (l : Launch) (ad : Nat → Nat) (D : va_G) (sz : Nat) (σ : St) (p1 : Int32) : Met l yX3_lose wsX3_lose ({ frames := 1, cells := 0, slots := 0, locals := 20 }) (PreW 41 (eC ad) ad D (tyC ad) σ sz ([.ref (ad 0), .int p1] : List Value)) (QWi 41 (eC ad) ad D (f_X3_lose σ p1) (CA 41 ad sz)) 0 0 (CA 41 ad sz) := by
  generalize hG : f_X3_lose σ p1 = T
  refine headW (cc := cX3_lose) (maxL := 3) (ret := (some .int)) ([.ref (ad 0), .int p1] : List Value) (by decide) rfl (Nat.le_of_ble_eq_true rfl) ?_
  intro p e s m below meth c S hr hlocks hK hN hsz w ls hl
  have S : CallFix p m c cX3_lose 3 s ([.ref (ad 0), .int p1] : List Value).toArray wsX3_lose RX3 := S
  have hx := S.1
  have hb := S.2.1
  have z0 : (0 : Int32).toInt = 0 := by decide
  have z1 : (1 : Int32).toInt = 1 := by decide
  have hl : lv_has ls 3 [(0, .ref (ad 0)), (1, .int p1)] := hl
  have hinX3 : ∀ w ∈ wsX30, w ∈ wsX3_lose := (fun _ h => List.mem_cons_of_mem _ (List.mem_append_left _ (List.mem_append_right _ h)))
  have hinX1 : ∀ w ∈ wsX10, w ∈ wsX3_lose := (fun _ h => List.mem_cons_of_mem _ (List.mem_append_right _ h))
  rw [f_X3_lose] at hG
  refine lv_iload_n hx hb dX3_lose_0 rfl (lv_at hl 1 rfl) ?_
  refine call0i (va_runS (As := [.int p1]) (rest := []) S (c_X3_isSheet l p1) (va_cwS 1 S.2.2.2.2 gX3_lose_X3_isSheet rfl rfl rfl hd_X3_isSheet ⟨Nat.le_of_ble_eq_true rfl, Nat.le_of_ble_eq_true rfl⟩) pre0S rfl rfl hl.1 rfl (lv_room (Nat.le_of_ble_eq_true rfl)) dX3_lose_1 ⟨Nat.zero_le _, Nat.zero_le _⟩) ?_
  refine lv_if_ne (tgt := 9) hx hb dX3_lose_4 (by decide) (fun c4 => ?_) (fun c4 => ?_)
  · have t4 := bf_isSheet_n c4
    rw [if_neg c4] at hG
    refine lv_aload_n hx hb dX3_lose_9 rfl (lv_at hl 0 rfl) ?_
    refine r_get (C := RX3) (T := TX3) (N := 14) S hK w (k := 0) (by decide) (eC_0 ad _) rfl hinX3 0 (by decide) (List.mem_of_getElem? (i := 1) rfl) rfl dX3_lose_10 ?_
    refine lv_iload_n hx hb dX3_lose_13 rfl (lv_at hl 1 rfl) ?_
    have g14 : vp_in p1 4 := vpi (by omega) (by omega)
    refine r_aald S hK w (k := 1) (by decide) (eC_1 ad _) (t0 := 1) rfl g14 dX3_lose_14 ?_
    refine r_getN (C := RX1) (T := TX1) (N := 4) S hK hN w (k := (9 + (ix p1))) (Nat.lt_of_lt_of_le (Nat.add_lt_add_left (vpl g14) 9) (by decide)) (eC_sh ad (vpl g14) _) rfl hinX1 0 (by decide) 0 rfl rfl dX3_lose_15 ?_
    have J18_26 : ∀ (k0_18_26 : Int32), (k0_18_26, (u2 σ (9 + (ix p1)) 0 0)) = T → ∀ (H : Heap) (locs : List Loc), CW 41 (eC ad) ad D (CA 41 ad sz) s.heap σ H locs → ∀ ls : Array Slot, lv_has ls 3 [(0, .ref (ad 0)), (1, .int p1)] → W p l e (headSpec wsX3_lose ({ frames := 1, cells := 0, slots := 0, locals := 20 })).room s m ([.ref (ad 0), .int p1] : List Value).toArray below meth c H locs 0 0 (MQ below (QWi 41 (eC ad) ad D T (CA 41 ad sz)) ([.ref (ad 0), .int p1] : List Value).toArray s 0 0 (CA 41 ad sz)) (F0 m 26 ls [.int k0_18_26]) := by
      intro k0_18_26 hG H locs w ls hl
      refine lv_istore_n (lv' := [(2, .int k0_18_26), (0, .ref (ad 0)), (1, .int p1)]) hx hb dX3_lose_26 rfl hl (by decide) rfl (fun ls hl => ?_)
      refine lv_aload_n hx hb dX3_lose_27 rfl (lv_at hl 1 rfl) ?_
      refine r_get (C := RX3) (T := TX3) (N := 14) S hK w (k := 0) (by decide) (eC_0 ad _) rfl hinX3 0 (by decide) (List.mem_of_getElem? (i := 1) rfl) rfl dX3_lose_28 ?_
      refine lv_iload_n hx hb dX3_lose_31 rfl (lv_at hl 2 rfl) ?_
      have g32 : vp_in p1 4 := vpi (by omega) (by omega)
      refine r_aald S hK w (k := 1) (by decide) (eC_1 ad _) (t0 := 1) rfl g32 dX3_lose_32 ?_
      refine lv_iconst (v := 0) hx hb dX3_lose_33 (by decide) ?_
      refine r_putN (C := RX1) (T := TX1) (N := 4) S hK hN w (k := (9 + (ix p1))) (Nat.lt_of_lt_of_le (Nat.add_lt_add_left (vpl g32) 9) (by decide)) (eC_sh ad (vpl g32) _) rfl hinX1 tyX1 tyX1_ok nmX1 0 (by decide) 0 rfl rfl (x := 0) (ty := .boolean) (by decide +kernel) (by first | rfl | decide) (by first | rfl | decide) (by show _ < List.length _; exact Nat.le_of_ble_eq_true rfl) (sSh ad (vpl g32) _ _ 0 (by decide)) dX3_lose_34 (fun H locs w => ?_)
      refine lv_iload_n hx hb dX3_lose_37 rfl (lv_at hl 0 rfl) ?_
      exact endWi S hr hlocks w hG dX3_lose_38
    refine lv_if_eq (tgt := 25) hx hb dX3_lose_18 (by decide) (fun c18 => ?_) (fun c18 => ?_)
    · have t18 : (σ (9 + (ix p1)) 0).toInt = 0 := qt_eq c18
      simp only [if_pos c18] at hG
      refine lv_iconst (v := 0) hx hb dX3_lose_25 (by decide) ?_
      exact J18_26 0 hG _ _ w ls (lv_sub hl [0, 1] rfl)
    · have t18 : (σ (9 + (ix p1)) 0).toInt ≠ 0 := qt_ne c18
      simp only [if_neg c18] at hG
      refine lv_iconst (v := 1) hx hb dX3_lose_21 (by decide) ?_
      refine lv_goto (tgt := 26) hx hb dX3_lose_22 (by decide) ?_
      exact J18_26 1 hG _ _ w ls (lv_sub hl [0, 1] rfl)
  · rw [if_pos c4] at hG
    refine lv_iconst (v := (-1)) hx hb dX3_lose_7 (by decide) ?_
    exact endWi S hr hlocks w hG dX3_lose_8
set_option maxHeartbeats 4000000 in
set_option maxRecDepth 100000 in
theorem c_X3_put (l : Launch) (ad : Nat → Nat) (D : va_G) (sz : Nat) (σ : St) (p1 : Int32) (p2 : Int32) (p3 : Int32) (hok : OkC σ) : Met l yX3_put wsX3_put ({ frames := 1, cells := 0, slots := 0, locals := 23 }) (PreW 41 (eC ad) ad D (tyC ad) σ sz ([.ref (ad 0), .int p1, .int p2, .int p3] : List Value)) (QWi 41 (eC ad) ad D (f_X3_put σ p1 p2 p3) (CA 41 ad sz)) 0 0 (CA 41 ad sz) := by
  generalize hG : f_X3_put σ p1 p2 p3 = T
  refine headW (cc := cX3_put) (maxL := 5) (ret := (some .int)) ([.ref (ad 0), .int p1, .int p2, .int p3] : List Value) (by decide) rfl (Nat.le_of_ble_eq_true rfl) ?_
  intro p e s m below meth c S hr hlocks hK hN hsz w ls hl
  have S : CallFix p m c cX3_put 5 s ([.ref (ad 0), .int p1, .int p2, .int p3] : List Value).toArray wsX3_put RX3 := S
  have hx := S.1
  have hb := S.2.1
  have z0 : (0 : Int32).toInt = 0 := by decide
  have z1 : (1 : Int32).toInt = 1 := by decide
  have hl : lv_has ls 5 [(0, .ref (ad 0)), (1, .int p1), (2, .int p2), (3, .int p3)] := hl
  have hinX3 : ∀ w ∈ wsX30, w ∈ wsX3_put := (fun _ h => List.mem_cons_of_mem _ (List.mem_append_left _ (List.mem_append_right _ h)))
  have hinX1 : ∀ w ∈ wsX10, w ∈ wsX3_put := (fun _ h => List.mem_cons_of_mem _ (List.mem_append_right _ h))
  have okf0 := hok.1
  have okf1 := hok.2.1
  have okf2 := hok.2.2.1
  have okf3 := hok.2.2.2.1
  have okf4 := hok.2.2.2.2.1
  have okf5 := hok.2.2.2.2.2
  rw [f_X3_put] at hG
  refine lv_iload_n hx hb dX3_put_0 rfl (lv_at hl 1 rfl) ?_
  refine call0i (va_runS (As := [.int p1]) (rest := []) S (c_X3_isSheet l p1) (va_cwS 1 S.2.2.2.2 gX3_put_X3_isSheet rfl rfl rfl hd_X3_isSheet ⟨Nat.le_of_ble_eq_true rfl, Nat.le_of_ble_eq_true rfl⟩) pre0S rfl rfl hl.1 rfl (lv_room (Nat.le_of_ble_eq_true rfl)) dX3_put_1 ⟨Nat.zero_le _, Nat.zero_le _⟩) ?_
  refine lv_if_ne (tgt := 13) hx hb dX3_put_4 (by decide) (fun c4 => ?_) (fun c4 => ?_)
  · have t4 := bf_isSheet_n c4
    rw [if_neg c4] at hG
    refine lv_aload_n hx hb dX3_put_13 rfl (lv_at hl 0 rfl) ?_
    refine r_get (C := RX3) (T := TX3) (N := 14) S hK w (k := 0) (by decide) (eC_0 ad _) rfl hinX3 0 (by decide) (List.mem_of_getElem? (i := 1) rfl) rfl dX3_put_14 ?_
    refine lv_iload_n hx hb dX3_put_17 rfl (lv_at hl 1 rfl) ?_
    have g18 : vp_in p1 4 := vpi (by omega) (by omega)
    refine r_aald S hK w (k := 1) (by decide) (eC_1 ad _) (t0 := 1) rfl g18 dX3_put_18 ?_
    refine lv_astore (lv' := [(4, .ref (ad (9 + (ix p1)))), (0, .ref (ad 0)), (1, .int p1), (2, .int p2), (3, .int p3)]) hx hb dX3_put_19 hl (by decide) rfl (fun ls hl => ?_)
    refine lv_aload hx hb dX3_put_21 (lv_at hl 0 rfl) ?_
    refine r_getN (C := RX1) (T := TX1) (N := 4) S hK hN w (k := (9 + (ix p1))) (Nat.lt_of_lt_of_le (Nat.add_lt_add_left (vpl g18) 9) (by decide)) (eC_sh ad (vpl g18) _) rfl hinX1 0 (by decide) 0 rfl rfl dX3_put_23 ?_
    refine lv_if_ne (tgt := 35) hx hb dX3_put_26 (by decide) (fun c26 => ?_) (fun c26 => ?_)
    · have t26 : (σ (9 + (ix p1)) 0).toInt ≠ 0 := qt_ne c26
      rw [if_neg c26] at hG
      refine lv_aload hx hb dX3_put_35 (lv_at hl 0 rfl) ?_
      refine lv_iload_n hx hb dX3_put_37 rfl (lv_at hl 3 rfl) ?_
      refine lv_lconst (v := 1) hx hb dX3_put_38 (by decide) ?_
      refine call0i (va_runVN (As := [.int p2, .long 1]) (rest := []) S (c_X1_lacks l ad D s.heap.size σ (ix p1) p2 1 (vpl g18)) ⟨va_cnB 2 S.2.2.2.2 gX3_put_X1_lacks_n253 rfl rfl rfl (hN.m 3 rfl) (S.2.2.2.2 _ (List.mem_of_getElem? (i := 16) rfl)) hd_X1_lacks ⟨Nat.le_of_ble_eq_true rfl, Nat.le_of_ble_eq_true rfl⟩, S.2.2.2.2 _ (List.mem_of_getElem? (i := 15) rfl), S.2.2.2.2 _ (List.mem_of_getElem? (i := 17) rfl)⟩ (preV hK hN w (k := (9 + (ix p1))) (Nat.lt_of_lt_of_le (Nat.add_lt_add_left (vpl g18) 9) (by decide)) (eC_sh ad (vpl g18) _) (q := (RX1, TX1, 4)) rfl) rfl rfl hl.1 rfl (lv_room (Nat.le_of_ble_eq_true rfl)) dX3_put_39 ⟨Nat.zero_le _, Nat.zero_le _⟩) ?_
      refine lv_if_eq (tgt := 51) hx hb dX3_put_42 (by decide) (fun c42 => ?_) (fun c42 => ?_)
      · have t42 := bf_lacks_z c42
        rw [if_pos c42] at hG
        have z1 : (1 : Int64).toInt = 1 := by decide
        have z3 := okf3 (ix p1) (vpl g18)
        refine lv_aload_n hx hb dX3_put_51 rfl (lv_at hl 1 rfl) ?_
        refine lv_iconst (v := 0) hx hb dX3_put_52 (by decide) ?_
        refine r_put (C := RX3) (T := TX3) (N := 14) S hK w (k := 0) (by decide) (eC_0 ad _) rfl hinX3 tyX3 tyX3_ok nmX3 9 (by decide) (List.mem_of_getElem? (i := 2) rfl) rfl (x := 0) (ty := .int) (by decide +kernel) rfl rfl (by show _ < List.length _; exact Nat.le_of_ble_eq_true rfl) (sO ad _ _ 9 (by decide)) dX3_put_53 (fun H locs w => ?_)
        have hok : OkC (u2 σ 0 9 0) := okC_obj (by decide) hok
        have okf0 := hok.1
        have okf1 := hok.2.1
        have okf2 := hok.2.2.1
        have okf3 := hok.2.2.2.1
        have okf4 := hok.2.2.2.2.1
        have okf5 := hok.2.2.2.2.2
        refine lv_aload hx hb dX3_put_56 (lv_at hl 0 rfl) ?_
        refine r_getN (C := RX1) (T := TX1) (N := 4) S hK hN w (k := (9 + (ix p1))) (Nat.lt_of_lt_of_le (Nat.add_lt_add_left (vpl g18) 9) (by decide)) (eC_sh ad (vpl g18) _) rfl hinX1 3 (by decide) 2 rfl rfl dX3_put_58 ?_
        refine lv_iload_n hx hb dX3_put_61 rfl (lv_at hl 3 rfl) ?_
        refine lv_aload hx hb dX3_put_62 (lv_at hl 0 rfl) ?_
        refine lv_iload_n hx hb dX3_put_64 rfl (lv_at hl 4 rfl) ?_
        refine call0i (va_runVN (As := [.int p3]) (rest := [.int p2, .ref (ad (13 + (ix p1)))]) S (c_X1_cut l ad D H.size (u2 σ 0 9 0) (ix p1) p3 (vpl g18)) ⟨va_cnB 1 S.2.2.2.2 gX3_put_X1_cut_n257 rfl rfl rfl (hN.m 5 rfl) (S.2.2.2.2 _ (List.mem_of_getElem? (i := 16) rfl)) hd_X1_cut ⟨Nat.le_of_ble_eq_true rfl, Nat.le_of_ble_eq_true rfl⟩, S.2.2.2.2 _ (List.mem_of_getElem? (i := 20) rfl), S.2.2.2.2 _ (List.mem_of_getElem? (i := 21) rfl)⟩ (preV hK hN w (k := (9 + (ix p1))) (Nat.lt_of_lt_of_le (Nat.add_lt_add_left (vpl g18) 9) (by decide)) (eC_sh ad (vpl g18) _) (q := (RX1, TX1, 4)) rfl) rfl rfl hl.1 rfl (lv_room (Nat.le_of_ble_eq_true rfl)) dX3_put_65 ⟨Nat.zero_le _, Nat.zero_le _⟩) ?_
        have g68 : vp_in p2 90 := vpi (by omega) (by omega)
        refine r_iast (cA := ad 100) (N := 90) S hK w (k := (13 + (ix p1))) (Nat.lt_of_lt_of_le (Nat.add_lt_add_left (vpl g18) 13) (by decide)) (fun f => eC_sc ad (vpl g18) f) rfl g68 dX3_put_68 (fun H locs w => ?_)
        have hok : OkC (u2 (u2 σ 0 9 0) (13 + (ix p1)) (ix p2) (f_X1_cut (u2 σ 0 9 0) (ix p1) p3)) := okC_scr (show scrC (13 + (ix p1)) by have h9 := (vpl g18); unfold scrC; omega) hok
        have okf0 := hok.1
        have okf1 := hok.2.1
        have okf2 := hok.2.2.1
        have okf3 := hok.2.2.2.1
        have okf4 := hok.2.2.2.2.1
        have okf5 := hok.2.2.2.2.2
        refine lv_iconst (v := 1) hx hb dX3_put_69 (by decide) ?_
        exact endWi S hr hlocks w hG dX3_put_70
      · rw [if_neg c42] at hG
        refine lv_aload_n hx hb dX3_put_45 rfl (lv_at hl 1 rfl) ?_
        refine lv_iconst (v := 3) hx hb dX3_put_46 (by decide) ?_
        refine callWi w (va_runV (As := [.int 3]) (rest := []) S (c_X3_faulted l ad D s.heap.size σ 3) (cwV 1 S.2.2.2.2 gX3_put_X3_faulted rfl rfl rfl ⟨rfl, hd_X3_faulted⟩ ⟨Nat.le_of_ble_eq_true rfl, Nat.le_of_ble_eq_true rfl⟩) (preV hK hN w (k := 0) (by decide) (eC_0 ad _) (q := (RX3, TX3, 14)) rfl) rfl rfl hl.1 rfl (lv_room (Nat.le_of_ble_eq_true rfl)) dX3_put_47 ⟨Nat.zero_le _, Nat.zero_le _⟩) (fun H locs w => ?_)
        exact endWi S hr hlocks w hG dX3_put_50
    · have t26 : (σ (9 + (ix p1)) 0).toInt = 0 := qt_eq c26
      rw [if_pos c26] at hG
      refine lv_aload_n hx hb dX3_put_29 rfl (lv_at hl 1 rfl) ?_
      refine lv_iconst (v := 1) hx hb dX3_put_30 (by decide) ?_
      refine callWi w (va_runV (As := [.int 1]) (rest := []) S (c_X3_faulted l ad D s.heap.size σ 1) (cwV 1 S.2.2.2.2 gX3_put_X3_faulted rfl rfl rfl ⟨rfl, hd_X3_faulted⟩ ⟨Nat.le_of_ble_eq_true rfl, Nat.le_of_ble_eq_true rfl⟩) (preV hK hN w (k := 0) (by decide) (eC_0 ad _) (q := (RX3, TX3, 14)) rfl) rfl rfl hl.1 rfl (lv_room (Nat.le_of_ble_eq_true rfl)) dX3_put_31 ⟨Nat.zero_le _, Nat.zero_le _⟩) (fun H locs w => ?_)
      exact endWi S hr hlocks w hG dX3_put_34
  · rw [if_pos c4] at hG
    refine lv_aload_n hx hb dX3_put_7 rfl (lv_at hl 0 rfl) ?_
    refine lv_iconst (v := (-1)) hx hb dX3_put_8 (by decide) ?_
    refine callWi w (va_runV (As := [.int (-1)]) (rest := []) S (c_X3_refused l ad D s.heap.size σ (-1)) (cwV 1 S.2.2.2.2 gX3_put_X3_refused rfl rfl rfl ⟨rfl, hd_X3_refused⟩ ⟨Nat.le_of_ble_eq_true rfl, Nat.le_of_ble_eq_true rfl⟩) (preV hK hN w (k := 0) (by decide) (eC_0 ad _) (q := (RX3, TX3, 14)) rfl) rfl rfl hl.1 rfl (lv_room (Nat.le_of_ble_eq_true rfl)) dX3_put_9 ⟨Nat.zero_le _, Nat.zero_le _⟩) (fun H locs w => ?_)
    exact endWi S hr hlocks w hG dX3_put_12
set_option maxHeartbeats 4000000 in
set_option maxRecDepth 100000 in
theorem c_X3_cell (l : Launch) (ad : Nat → Nat) (D : va_G) (sz : Nat) (σ : St) (p1 : Int32) (p2 : Int32) (p3 : Int32) (hok : OkC σ) : Met l yX3_cell wsX3_cell ({ frames := 2, cells := 0, slots := 0, locals := 49 }) (PreW 41 (eC ad) ad D (tyC ad) σ sz ([.ref (ad 0), .int p1, .int p2, .int p3] : List Value)) (QWl 41 (eC ad) ad D (f_X3_cell σ p1 p2 p3) (CA 41 ad sz)) 0 0 (CA 41 ad sz) := by
  generalize hG : f_X3_cell σ p1 p2 p3 = T
  refine headW (cc := cX3_cell) (maxL := 4) (ret := (some .long)) ([.ref (ad 0), .int p1, .int p2, .int p3] : List Value) (by decide) rfl (Nat.le_of_ble_eq_true rfl) ?_
  intro p e s m below meth c S hr hlocks hK hN hsz w ls hl
  have S : CallFix p m c cX3_cell 4 s ([.ref (ad 0), .int p1, .int p2, .int p3] : List Value).toArray wsX3_cell RX3 := S
  have hx := S.1
  have hb := S.2.1
  have z0 : (0 : Int32).toInt = 0 := by decide
  have z1 : (1 : Int32).toInt = 1 := by decide
  have hl : lv_has ls 4 [(0, .ref (ad 0)), (1, .int p1), (2, .int p2), (3, .int p3)] := hl
  have hinX3 : ∀ w ∈ wsX30, w ∈ wsX3_cell := (fun _ h => List.mem_cons_of_mem _ (List.mem_append_left _ (List.mem_append_right _ h)))
  have hinX1 : ∀ w ∈ wsX10, w ∈ wsX3_cell := (fun _ h => List.mem_cons_of_mem _ (List.mem_append_right _ h))
  have okf0 := hok.1
  have okf1 := hok.2.1
  have okf2 := hok.2.2.1
  have okf3 := hok.2.2.2.1
  have okf4 := hok.2.2.2.2.1
  have okf5 := hok.2.2.2.2.2
  rw [f_X3_cell] at hG
  refine lv_aload_n hx hb dX3_cell_0 rfl (lv_at hl 0 rfl) ?_
  refine lv_iload_n hx hb dX3_cell_1 rfl (lv_at hl 1 rfl) ?_
  refine lv_iload_n hx hb dX3_cell_2 rfl (lv_at hl 3 rfl) ?_
  refine lv_iload_n hx hb dX3_cell_3 rfl (lv_at hl 2 rfl) ?_
  refine lv_lconst (v := 1) hx hb dX3_cell_4 (by decide) ?_
  have ok3 := okf3
  refine callWi w (va_runV (As := [.int p1, .int p3, .int p2, .long 1]) (rest := []) S (c_X3_spanRefusal l ad D s.heap.size σ p1 p3 p2 1) (cwV 4 S.2.2.2.2 gX3_cell_X3_spanRefusal rfl rfl rfl ⟨rfl, hd_X3_spanRefusal⟩ ⟨Nat.le_of_ble_eq_true rfl, Nat.le_of_ble_eq_true rfl⟩) (preV hK hN w (k := 0) (by decide) (eC_0 ad _) (q := (RX3, TX3, 14)) rfl) rfl rfl hl.1 rfl (lv_room (Nat.le_of_ble_eq_true rfl)) dX3_cell_5 ⟨Nat.zero_le _, Nat.zero_le _⟩) (fun H locs w => ?_)
  have hok : OkC ((f_X3_spanRefusal σ p1 p3 p2 1).2) := ok_X3_spanRefusal hok
  have okf0 := hok.1
  have okf1 := hok.2.1
  have okf2 := hok.2.2.1
  have okf3 := hok.2.2.2.1
  have okf4 := hok.2.2.2.2.1
  have okf5 := hok.2.2.2.2.2
  refine lv_if_eq (tgt := 15) hx hb dX3_cell_8 (by decide) (fun c8 => ?_) (fun c8 => ?_)
  · have t8 : ((f_X3_spanRefusal σ p1 p3 p2 1).1).toInt = 0 := qt_eq c8
    rw [if_pos c8] at hG
    have z := sp_z c8
    have z1 : (1 : Int64).toInt = 1 := by decide
    have z3 := ok3 (ix p1) (vpl (vpi (by omega) (by omega)))
    refine lv_aload_n hx hb dX3_cell_15 rfl (lv_at hl 0 rfl) ?_
    refine r_get (C := RX3) (T := TX3) (N := 14) S hK w (k := 0) (by decide) (eC_0 ad _) rfl hinX3 0 (by decide) (List.mem_of_getElem? (i := 2) rfl) rfl dX3_cell_16 ?_
    refine lv_iload_n hx hb dX3_cell_19 rfl (lv_at hl 1 rfl) ?_
    have g20 : vp_in p1 4 := vpi (by omega) (by omega)
    refine r_aald S hK w (k := 1) (by decide) (eC_1 ad _) (t0 := 1) rfl g20 dX3_cell_20 ?_
    refine r_getN (C := RX1) (T := TX1) (N := 4) S hK hN w (k := (9 + (ix p1))) (Nat.lt_of_lt_of_le (Nat.add_lt_add_left (vpl g20) 9) (by decide)) (eC_sh ad (vpl g20) _) rfl hinX1 3 (by decide) 2 rfl rfl dX3_cell_21 ?_
    refine lv_iload_n hx hb dX3_cell_24 rfl (lv_at hl 2 rfl) ?_
    have g25 : vp_in p2 90 := vpi (by omega) (by omega)
    refine r_iald (cA := ad 100) (N := 90) S hK w (k := (13 + (ix p1))) (Nat.lt_of_lt_of_le (Nat.add_lt_add_left (vpl g20) 13) (by decide)) (fun f => eC_sc ad (vpl g20) f) rfl g25 dX3_cell_25 ?_
    refine lv_i2l hx hb dX3_cell_26 rfl ?_
    exact endWl S hr hlocks w hG dX3_cell_27
  · have t8 : ((f_X3_spanRefusal σ p1 p3 p2 1).1).toInt ≠ 0 := qt_ne c8
    rw [if_neg c8] at hG
    refine lv_ldc2 hx hb S.2.2.2.1 (S.2.2.2.2 _ (List.mem_of_getElem? (i := 1) rfl)) dX3_cell_11 ?_
    exact endWl S hr hlocks w hG dX3_cell_14
set_option maxHeartbeats 4000000 in
set_option maxRecDepth 100000 in
theorem c_X3_copy (l : Launch) (ad : Nat → Nat) (D : va_G) (sz : Nat) (σ : St) (p1 : Int32) (p2 : Int32) (p3 : Int32) (p4 : Int32) (p5 : Int32) (hok : OkC σ) : Met l yX3_copy wsX3_copy ({ frames := 1, cells := 0, slots := 0, locals := 40 }) (PreW 41 (eC ad) ad D (tyC ad) σ sz ([.ref (ad 0), .int p1, .int p2, .int p3, .int p4, .int p5] : List Value)) (QWi 41 (eC ad) ad D (f_X3_copy σ p1 p2 p3 p4 p5) (CA 41 ad sz)) 0 0 (CA 41 ad sz) := by
  generalize hG : f_X3_copy σ p1 p2 p3 p4 p5 = T
  refine headW (cc := cX3_copy) (maxL := 8) (ret := (some .int)) ([.ref (ad 0), .int p1, .int p2, .int p3, .int p4, .int p5] : List Value) (by decide) rfl (Nat.le_of_ble_eq_true rfl) ?_
  intro p e s m below meth c S hr hlocks hK hN hsz w ls hl
  have S : CallFix p m c cX3_copy 8 s ([.ref (ad 0), .int p1, .int p2, .int p3, .int p4, .int p5] : List Value).toArray wsX3_copy RX3 := S
  have hx := S.1
  have hb := S.2.1
  have z0 : (0 : Int32).toInt = 0 := by decide
  have z1 : (1 : Int32).toInt = 1 := by decide
  have hl : lv_has ls 8 [(0, .ref (ad 0)), (1, .int p1), (2, .int p2), (3, .int p3), (4, .int p4), (5, .int p5)] := hl
  have hinX3 : ∀ w ∈ wsX30, w ∈ wsX3_copy := (fun _ h => List.mem_cons_of_mem _ (List.mem_append_left _ (List.mem_append_right _ h)))
  have hinX1 : ∀ w ∈ wsX10, w ∈ wsX3_copy := (fun _ h => List.mem_cons_of_mem _ (List.mem_append_right _ h))
  have okf0 := hok.1
  have okf1 := hok.2.1
  have okf2 := hok.2.2.1
  have okf3 := hok.2.2.2.1
  have okf4 := hok.2.2.2.2.1
  have okf5 := hok.2.2.2.2.2
  rw [f_X3_copy] at hG
  refine lv_iload_n hx hb dX3_copy_0 rfl (lv_at hl 1 rfl) ?_
  refine call0i (va_runS (As := [.int p1]) (rest := []) S (c_X3_isSheet l p1) (va_cwS 1 S.2.2.2.2 gX3_copy_X3_isSheet rfl rfl rfl hd_X3_isSheet ⟨Nat.le_of_ble_eq_true rfl, Nat.le_of_ble_eq_true rfl⟩) pre0S rfl rfl hl.1 rfl (lv_room (Nat.le_of_ble_eq_true rfl)) dX3_copy_1 ⟨Nat.zero_le _, Nat.zero_le _⟩) ?_
  refine lv_if_eq (tgt := 14) hx hb dX3_copy_4 (by decide) (fun c4 => ?_) (fun c4 => ?_)
  · rw [if_pos c4] at hG
    refine lv_aload_n hx hb dX3_copy_14 rfl (lv_at hl 0 rfl) ?_
    refine lv_iconst (v := (-1)) hx hb dX3_copy_15 (by decide) ?_
    refine callWi w (va_runV (As := [.int (-1)]) (rest := []) S (c_X3_refused l ad D s.heap.size σ (-1)) (cwV 1 S.2.2.2.2 gX3_copy_X3_refused rfl rfl rfl ⟨rfl, hd_X3_refused⟩ ⟨Nat.le_of_ble_eq_true rfl, Nat.le_of_ble_eq_true rfl⟩) (preV hK hN w (k := 0) (by decide) (eC_0 ad _) (q := (RX3, TX3, 14)) rfl) rfl rfl hl.1 rfl (lv_room (Nat.le_of_ble_eq_true rfl)) dX3_copy_16 ⟨Nat.zero_le _, Nat.zero_le _⟩) (fun H locs w => ?_)
    exact endWi S hr hlocks w hG dX3_copy_19
  · have t4 := bf_isSheet_n c4
    rw [if_neg c4] at hG
    refine lv_iload_n hx hb dX3_copy_7 rfl (lv_at hl 3 rfl) ?_
    refine call0i (va_runS (As := [.int p3]) (rest := []) S (c_X3_isSheet l p3) (va_cwS 1 S.2.2.2.2 gX3_copy_X3_isSheet rfl rfl rfl hd_X3_isSheet ⟨Nat.le_of_ble_eq_true rfl, Nat.le_of_ble_eq_true rfl⟩) pre0S rfl rfl hl.1 rfl (lv_room (Nat.le_of_ble_eq_true rfl)) dX3_copy_8 ⟨Nat.zero_le _, Nat.zero_le _⟩) ?_
    refine lv_if_ne (tgt := 20) hx hb dX3_copy_11 (by decide) (fun c11 => ?_) (fun c11 => ?_)
    · have t11 := bf_isSheet_n c11
      rw [if_neg c11] at hG
      refine lv_aload_n hx hb dX3_copy_20 rfl (lv_at hl 0 rfl) ?_
      refine r_get (C := RX3) (T := TX3) (N := 14) S hK w (k := 0) (by decide) (eC_0 ad _) rfl hinX3 0 (by decide) (List.mem_of_getElem? (i := 1) rfl) rfl dX3_copy_21 ?_
      refine lv_iload_n hx hb dX3_copy_24 rfl (lv_at hl 1 rfl) ?_
      have g25 : vp_in p1 4 := vpi (by omega) (by omega)
      refine r_aald S hK w (k := 1) (by decide) (eC_1 ad _) (t0 := 1) rfl g25 dX3_copy_25 ?_
      refine lv_astore (lv' := [(6, .ref (ad (9 + (ix p1)))), (0, .ref (ad 0)), (1, .int p1), (2, .int p2), (3, .int p3), (4, .int p4), (5, .int p5)]) hx hb dX3_copy_26 hl (by decide) rfl (fun ls hl => ?_)
      refine lv_aload_n hx hb dX3_copy_28 rfl (lv_at hl 1 rfl) ?_
      refine r_get (C := RX3) (T := TX3) (N := 14) S hK w (k := 0) (by decide) (eC_0 ad _) rfl hinX3 0 (by decide) (List.mem_of_getElem? (i := 1) rfl) rfl dX3_copy_29 ?_
      refine lv_iload_n hx hb dX3_copy_32 rfl (lv_at hl 4 rfl) ?_
      have g33 : vp_in p3 4 := vpi (by omega) (by omega)
      refine r_aald S hK w (k := 1) (by decide) (eC_1 ad _) (t0 := 1) rfl g33 dX3_copy_33 ?_
      refine lv_astore (lv' := [(7, .ref (ad (9 + (ix p3)))), (6, .ref (ad (9 + (ix p1)))), (0, .ref (ad 0)), (1, .int p1), (2, .int p2), (3, .int p3), (4, .int p4), (5, .int p5)]) hx hb dX3_copy_34 hl (by decide) rfl (fun ls hl => ?_)
      refine lv_aload hx hb dX3_copy_36 (lv_at hl 1 rfl) ?_
      refine r_getN (C := RX1) (T := TX1) (N := 4) S hK hN w (k := (9 + (ix p1))) (Nat.lt_of_lt_of_le (Nat.add_lt_add_left (vpl g25) 9) (by decide)) (eC_sh ad (vpl g25) _) rfl hinX1 0 (by decide) 0 rfl rfl dX3_copy_38 ?_
      refine lv_if_eq (tgt := 52) hx hb dX3_copy_41 (by decide) (fun c41 => ?_) (fun c41 => ?_)
      · have t41 : (σ (9 + (ix p1)) 0).toInt = 0 := qt_eq c41
        rw [if_pos c41] at hG
        refine lv_aload_n hx hb dX3_copy_52 rfl (lv_at hl 2 rfl) ?_
        refine lv_iconst (v := 1) hx hb dX3_copy_53 (by decide) ?_
        refine callWi w (va_runV (As := [.int 1]) (rest := []) S (c_X3_faulted l ad D s.heap.size σ 1) (cwV 1 S.2.2.2.2 gX3_copy_X3_faulted rfl rfl rfl ⟨rfl, hd_X3_faulted⟩ ⟨Nat.le_of_ble_eq_true rfl, Nat.le_of_ble_eq_true rfl⟩) (preV hK hN w (k := 0) (by decide) (eC_0 ad _) (q := (RX3, TX3, 14)) rfl) rfl rfl hl.1 rfl (lv_room (Nat.le_of_ble_eq_true rfl)) dX3_copy_54 ⟨Nat.zero_le _, Nat.zero_le _⟩) (fun H locs w => ?_)
        exact endWi S hr hlocks w hG dX3_copy_57
      · have t41 : (σ (9 + (ix p1)) 0).toInt ≠ 0 := qt_ne c41
        rw [if_neg c41] at hG
        refine lv_aload hx hb dX3_copy_44 (lv_at hl 0 rfl) ?_
        refine r_getN (C := RX1) (T := TX1) (N := 4) S hK hN w (k := (9 + (ix p3))) (Nat.lt_of_lt_of_le (Nat.add_lt_add_left (vpl g33) 9) (by decide)) (eC_sh ad (vpl g33) _) rfl hinX1 0 (by decide) 0 rfl rfl dX3_copy_46 ?_
        refine lv_if_ne (tgt := 58) hx hb dX3_copy_49 (by decide) (fun c49 => ?_) (fun c49 => ?_)
        · have t49 : (σ (9 + (ix p3)) 0).toInt ≠ 0 := qt_ne c49
          rw [if_neg c49] at hG
          refine lv_aload hx hb dX3_copy_58 (lv_at hl 1 rfl) ?_
          refine r_getN (C := RX1) (T := TX1) (N := 4) S hK hN w (k := (9 + (ix p1))) (Nat.lt_of_lt_of_le (Nat.add_lt_add_left (vpl g25) 9) (by decide)) (eC_sh ad (vpl g25) _) rfl hinX1 1 (by decide) 1 rfl rfl dX3_copy_60 ?_
          refine lv_aload hx hb dX3_copy_63 (lv_at hl 0 rfl) ?_
          refine r_getN (C := RX1) (T := TX1) (N := 4) S hK hN w (k := (9 + (ix p3))) (Nat.lt_of_lt_of_le (Nat.add_lt_add_left (vpl g33) 9) (by decide)) (eC_sh ad (vpl g33) _) rfl hinX1 1 (by decide) 1 rfl rfl dX3_copy_65 ?_
          refine lv_icmp_eq (tgt := 77) hx hb dX3_copy_68 (by decide) (fun c68 => ?_) (fun c68 => ?_)
          · have t68 : (σ (9 + (ix p1)) 1).toInt = (σ (9 + (ix p3)) 1).toInt := qt_eq c68
            rw [if_pos c68] at hG
            refine lv_iload hx hb dX3_copy_77 (lv_at hl 7 rfl) ?_
            refine lv_if_lt (tgt := 107) hx hb dX3_copy_79 (by decide) (fun c79 => ?_) (fun c79 => ?_)
            · have t79 : p5.toInt < 0 := qt_lt c79
              rw [if_pos c79] at hG
              refine lv_aload_n hx hb dX3_copy_107 rfl (lv_at hl 2 rfl) ?_
              refine lv_iconst (v := 3) hx hb dX3_copy_108 (by decide) ?_
              refine callWi w (va_runV (As := [.int 3]) (rest := []) S (c_X3_faulted l ad D s.heap.size σ 3) (cwV 1 S.2.2.2.2 gX3_copy_X3_faulted rfl rfl rfl ⟨rfl, hd_X3_faulted⟩ ⟨Nat.le_of_ble_eq_true rfl, Nat.le_of_ble_eq_true rfl⟩) (preV hK hN w (k := 0) (by decide) (eC_0 ad _) (q := (RX3, TX3, 14)) rfl) rfl rfl hl.1 rfl (lv_room (Nat.le_of_ble_eq_true rfl)) dX3_copy_109 ⟨Nat.zero_le _, Nat.zero_le _⟩) (fun H locs w => ?_)
              exact endWi S hr hlocks w hG dX3_copy_112
            · have t79 : 0 ≤ p5.toInt := qt_nlt c79
              rw [if_neg c79] at hG
              refine lv_aload hx hb dX3_copy_82 (lv_at hl 1 rfl) ?_
              refine lv_iload_n hx hb dX3_copy_84 rfl (lv_at hl 4 rfl) ?_
              refine lv_iload hx hb dX3_copy_85 (lv_at hl 7 rfl) ?_
              refine lv_i2l hx hb dX3_copy_87 rfl ?_
              refine call0i (va_runVN (As := [.int p2, .long p5.toInt64]) (rest := []) S (c_X1_lacks l ad D s.heap.size σ (ix p1) p2 p5.toInt64 (vpl g25)) ⟨va_cnB 2 S.2.2.2.2 gX3_copy_X1_lacks_n253 rfl rfl rfl (hN.m 3 rfl) (S.2.2.2.2 _ (List.mem_of_getElem? (i := 20) rfl)) hd_X1_lacks ⟨Nat.le_of_ble_eq_true rfl, Nat.le_of_ble_eq_true rfl⟩, S.2.2.2.2 _ (List.mem_of_getElem? (i := 19) rfl), S.2.2.2.2 _ (List.mem_of_getElem? (i := 21) rfl)⟩ (preV hK hN w (k := (9 + (ix p1))) (Nat.lt_of_lt_of_le (Nat.add_lt_add_left (vpl g25) 9) (by decide)) (eC_sh ad (vpl g25) _) (q := (RX1, TX1, 4)) rfl) rfl rfl hl.1 rfl (lv_room (Nat.le_of_ble_eq_true rfl)) dX3_copy_88 ⟨Nat.zero_le _, Nat.zero_le _⟩) ?_
              refine lv_if_ne (tgt := 107) hx hb dX3_copy_91 (by decide) (fun c91 => ?_) (fun c91 => ?_)
              · rw [if_neg c91] at hG
                refine lv_aload_n hx hb dX3_copy_107 rfl (lv_at hl 2 rfl) ?_
                refine lv_iconst (v := 3) hx hb dX3_copy_108 (by decide) ?_
                refine callWi w (va_runV (As := [.int 3]) (rest := []) S (c_X3_faulted l ad D s.heap.size σ 3) (cwV 1 S.2.2.2.2 gX3_copy_X3_faulted rfl rfl rfl ⟨rfl, hd_X3_faulted⟩ ⟨Nat.le_of_ble_eq_true rfl, Nat.le_of_ble_eq_true rfl⟩) (preV hK hN w (k := 0) (by decide) (eC_0 ad _) (q := (RX3, TX3, 14)) rfl) rfl rfl hl.1 rfl (lv_room (Nat.le_of_ble_eq_true rfl)) dX3_copy_109 ⟨Nat.zero_le _, Nat.zero_le _⟩) (fun H locs w => ?_)
                exact endWi S hr hlocks w hG dX3_copy_112
              · have t91 := bf_lacks_z c91
                rw [if_pos c91] at hG
                refine lv_aload hx hb dX3_copy_94 (lv_at hl 0 rfl) ?_
                refine lv_iload hx hb dX3_copy_96 (lv_at hl 6 rfl) ?_
                refine lv_iload hx hb dX3_copy_98 (lv_at hl 7 rfl) ?_
                refine lv_i2l hx hb dX3_copy_100 rfl ?_
                refine call0i (va_runVN (As := [.int p4, .long p5.toInt64]) (rest := []) S (c_X1_lacks l ad D s.heap.size σ (ix p3) p4 p5.toInt64 (vpl g33)) ⟨va_cnB 2 S.2.2.2.2 gX3_copy_X1_lacks_n253 rfl rfl rfl (hN.m 3 rfl) (S.2.2.2.2 _ (List.mem_of_getElem? (i := 20) rfl)) hd_X1_lacks ⟨Nat.le_of_ble_eq_true rfl, Nat.le_of_ble_eq_true rfl⟩, S.2.2.2.2 _ (List.mem_of_getElem? (i := 19) rfl), S.2.2.2.2 _ (List.mem_of_getElem? (i := 21) rfl)⟩ (preV hK hN w (k := (9 + (ix p3))) (Nat.lt_of_lt_of_le (Nat.add_lt_add_left (vpl g33) 9) (by decide)) (eC_sh ad (vpl g33) _) (q := (RX1, TX1, 4)) rfl) rfl rfl hl.1 rfl (lv_room (Nat.le_of_ble_eq_true rfl)) dX3_copy_101 ⟨Nat.zero_le _, Nat.zero_le _⟩) ?_
                refine lv_if_eq (tgt := 113) hx hb dX3_copy_104 (by decide) (fun c104 => ?_) (fun c104 => ?_)
                · have t104 := bf_lacks_z c104
                  rw [if_pos c104] at hG
                  have z3 := okf3 (ix p1) (vpl g25)
                  have z4 := okf3 (ix p3) (vpl g33)
                  have zl : p5.toInt64.toInt = p5.toInt := Int32.toInt_toInt64 p5
                  have zb : p5.toInt < 2147483648 := Int32.toInt_lt p5
                  have zc : -2147483648 ≤ p5.toInt := Int32.le_toInt p5
                  have x2 := ix_toInt (x := p2) (by omega)
                  have x4 := ix_toInt (x := p4) (by omega)
                  have x5 := ix_toInt (x := p5) (by omega)
                  refine lv_aload_n hx hb dX3_copy_113 rfl (lv_at hl 2 rfl) ?_
                  refine lv_iconst (v := 0) hx hb dX3_copy_114 (by decide) ?_
                  refine r_put (C := RX3) (T := TX3) (N := 14) S hK w (k := 0) (by decide) (eC_0 ad _) rfl hinX3 tyX3 tyX3_ok nmX3 9 (by decide) (List.mem_of_getElem? (i := 2) rfl) rfl (x := 0) (ty := .int) (by decide +kernel) rfl rfl (by show _ < List.length _; exact Nat.le_of_ble_eq_true rfl) (sO ad _ _ 9 (by decide)) dX3_copy_115 (fun H locs w => ?_)
                  have hok : OkC (u2 σ 0 9 0) := okC_obj (by decide) hok
                  have okf0 := hok.1
                  have okf1 := hok.2.1
                  have okf2 := hok.2.2.1
                  have okf3 := hok.2.2.2.1
                  have okf4 := hok.2.2.2.2.1
                  have okf5 := hok.2.2.2.2.2
                  refine lv_aload hx hb dX3_copy_118 (lv_at hl 1 rfl) ?_
                  refine r_getN (C := RX1) (T := TX1) (N := 4) S hK hN w (k := (9 + (ix p1))) (Nat.lt_of_lt_of_le (Nat.add_lt_add_left (vpl g25) 9) (by decide)) (eC_sh ad (vpl g25) _) rfl hinX1 3 (by decide) 2 rfl rfl dX3_copy_120 ?_
                  refine lv_iload_n hx hb dX3_copy_123 rfl (lv_at hl 4 rfl) ?_
                  refine lv_aload hx hb dX3_copy_124 (lv_at hl 0 rfl) ?_
                  refine r_getN (C := RX1) (T := TX1) (N := 4) S hK hN w (k := (9 + (ix p3))) (Nat.lt_of_lt_of_le (Nat.add_lt_add_left (vpl g33) 9) (by decide)) (eC_sh ad (vpl g33) _) rfl hinX1 3 (by decide) 2 rfl rfl dX3_copy_126 ?_
                  refine lv_iload hx hb dX3_copy_129 (lv_at hl 6 rfl) ?_
                  refine lv_iload hx hb dX3_copy_131 (lv_at hl 7 rfl) ?_
                  refine r_copy (cA := ad 100) (n0 := 90) (n1 := 90) S hl.1 hK w (List.mem_of_getElem? (i := 3) rfl) (List.mem_of_getElem? (i := 4) rfl) (List.mem_of_getElem? (i := 5) rfl) (List.mem_of_getElem? (i := 6) rfl) (k0 := (13 + (ix p1))) (k1 := (13 + (ix p3))) (Nat.lt_of_lt_of_le (Nat.add_lt_add_left (vpl g25) 13) (by decide)) (Nat.lt_of_lt_of_le (Nat.add_lt_add_left (vpl g33) 13) (by decide)) (fun f => eC_sc ad (vpl g25) f) (fun f => eC_sc ad (vpl g33) f) rfl (qm_nlt (by omega)) (qm_nlt (by omega)) (qm_nlt (by omega)) (by omega) (by omega) (Nat.le_of_ble_eq_true rfl) (Nat.le_of_ble_eq_true rfl) dX3_copy_133 (fun H locs w => ?_)
                  have hok : OkC (u1 (u2 σ 0 9 0) (13 + (ix p3)) (va_cpy ((u2 σ 0 9 0) (13 + (ix p1))) ((u2 σ 0 9 0) (13 + (ix p3))) (ix p2) (ix p4) (ix p5))) := okC_scr (show scrC (13 + (ix p3)) by have h9 := (vpl g33); unfold scrC; omega) hok
                  have okf0 := hok.1
                  have okf1 := hok.2.1
                  have okf2 := hok.2.2.1
                  have okf3 := hok.2.2.2.1
                  have okf4 := hok.2.2.2.2.1
                  have okf5 := hok.2.2.2.2.2
                  refine lv_iload hx hb dX3_copy_136 (lv_at hl 7 rfl) ?_
                  exact endWi S hr hlocks w hG dX3_copy_138
                · rw [if_neg c104] at hG
                  refine lv_aload_n hx hb dX3_copy_107 rfl (lv_at hl 2 rfl) ?_
                  refine lv_iconst (v := 3) hx hb dX3_copy_108 (by decide) ?_
                  refine callWi w (va_runV (As := [.int 3]) (rest := []) S (c_X3_faulted l ad D s.heap.size σ 3) (cwV 1 S.2.2.2.2 gX3_copy_X3_faulted rfl rfl rfl ⟨rfl, hd_X3_faulted⟩ ⟨Nat.le_of_ble_eq_true rfl, Nat.le_of_ble_eq_true rfl⟩) (preV hK hN w (k := 0) (by decide) (eC_0 ad _) (q := (RX3, TX3, 14)) rfl) rfl rfl hl.1 rfl (lv_room (Nat.le_of_ble_eq_true rfl)) dX3_copy_109 ⟨Nat.zero_le _, Nat.zero_le _⟩) (fun H locs w => ?_)
                  exact endWi S hr hlocks w hG dX3_copy_112
          · have t68 : (σ (9 + (ix p1)) 1).toInt ≠ (σ (9 + (ix p3)) 1).toInt := qt_ne c68
            rw [if_neg c68] at hG
            refine lv_aload_n hx hb dX3_copy_71 rfl (lv_at hl 2 rfl) ?_
            refine lv_iconst (v := 2) hx hb dX3_copy_72 (by decide) ?_
            refine callWi w (va_runV (As := [.int 2]) (rest := []) S (c_X3_faulted l ad D s.heap.size σ 2) (cwV 1 S.2.2.2.2 gX3_copy_X3_faulted rfl rfl rfl ⟨rfl, hd_X3_faulted⟩ ⟨Nat.le_of_ble_eq_true rfl, Nat.le_of_ble_eq_true rfl⟩) (preV hK hN w (k := 0) (by decide) (eC_0 ad _) (q := (RX3, TX3, 14)) rfl) rfl rfl hl.1 rfl (lv_room (Nat.le_of_ble_eq_true rfl)) dX3_copy_73 ⟨Nat.zero_le _, Nat.zero_le _⟩) (fun H locs w => ?_)
            exact endWi S hr hlocks w hG dX3_copy_76
        · have t49 : (σ (9 + (ix p3)) 0).toInt = 0 := qt_eq c49
          rw [if_pos c49] at hG
          refine lv_aload_n hx hb dX3_copy_52 rfl (lv_at hl 2 rfl) ?_
          refine lv_iconst (v := 1) hx hb dX3_copy_53 (by decide) ?_
          refine callWi w (va_runV (As := [.int 1]) (rest := []) S (c_X3_faulted l ad D s.heap.size σ 1) (cwV 1 S.2.2.2.2 gX3_copy_X3_faulted rfl rfl rfl ⟨rfl, hd_X3_faulted⟩ ⟨Nat.le_of_ble_eq_true rfl, Nat.le_of_ble_eq_true rfl⟩) (preV hK hN w (k := 0) (by decide) (eC_0 ad _) (q := (RX3, TX3, 14)) rfl) rfl rfl hl.1 rfl (lv_room (Nat.le_of_ble_eq_true rfl)) dX3_copy_54 ⟨Nat.zero_le _, Nat.zero_le _⟩) (fun H locs w => ?_)
          exact endWi S hr hlocks w hG dX3_copy_57
    · rw [if_pos c11] at hG
      refine lv_aload_n hx hb dX3_copy_14 rfl (lv_at hl 0 rfl) ?_
      refine lv_iconst (v := (-1)) hx hb dX3_copy_15 (by decide) ?_
      refine callWi w (va_runV (As := [.int (-1)]) (rest := []) S (c_X3_refused l ad D s.heap.size σ (-1)) (cwV 1 S.2.2.2.2 gX3_copy_X3_refused rfl rfl rfl ⟨rfl, hd_X3_refused⟩ ⟨Nat.le_of_ble_eq_true rfl, Nat.le_of_ble_eq_true rfl⟩) (preV hK hN w (k := 0) (by decide) (eC_0 ad _) (q := (RX3, TX3, 14)) rfl) rfl rfl hl.1 rfl (lv_room (Nat.le_of_ble_eq_true rfl)) dX3_copy_16 ⟨Nat.zero_le _, Nat.zero_le _⟩) (fun H locs w => ?_)
      exact endWi S hr hlocks w hG dX3_copy_19
set_option maxHeartbeats 4000000 in
set_option maxRecDepth 100000 in
theorem c_X3_leaveTrace (l : Launch) (ad : Nat → Nat) (D : va_G) (sz : Nat) (σ : St) (p1 : Int32) : Met l yX3_leaveTrace wsX3_leaveTrace ({ frames := 0, cells := 0, slots := 0, locals := 0 }) (PreW 41 (eC ad) ad D (tyC ad) σ sz ([.ref (ad 0), .int p1] : List Value)) (QWv 41 (eC ad) ad D (f_X3_leaveTrace σ p1) (CA 41 ad sz)) 0 0 (CA 41 ad sz) := by
  generalize hG : f_X3_leaveTrace σ p1 = T
  refine headW (cc := cX3_leaveTrace) (maxL := 2) (ret := none) ([.ref (ad 0), .int p1] : List Value) (by decide) rfl (Nat.le_of_ble_eq_true rfl) ?_
  intro p e s m below meth c S hr hlocks hK hN hsz w ls hl
  have S : CallFix p m c cX3_leaveTrace 2 s ([.ref (ad 0), .int p1] : List Value).toArray wsX3_leaveTrace RX3 := S
  have hx := S.1
  have hb := S.2.1
  have z0 : (0 : Int32).toInt = 0 := by decide
  have z1 : (1 : Int32).toInt = 1 := by decide
  have hl : lv_has ls 2 [(0, .ref (ad 0)), (1, .int p1)] := hl
  have hinX3 : ∀ w ∈ wsX30, w ∈ wsX3_leaveTrace := (fun _ h => List.mem_cons_of_mem _ (List.mem_append_right _ h))
  rw [f_X3_leaveTrace] at hG
  refine lv_aload_n hx hb dX3_leaveTrace_0 rfl (lv_at hl 0 rfl) ?_
  refine lv_bipush (v := 31) hx hb dX3_leaveTrace_1 (by decide) ?_
  refine lv_aload_n hx hb dX3_leaveTrace_3 rfl (lv_at hl 0 rfl) ?_
  refine r_get (C := RX3) (T := TX3) (N := 14) S hK w (k := 0) (by decide) (eC_0 ad _) rfl hinX3 8 (by decide) (List.mem_of_getElem? (i := 1) rfl) rfl dX3_leaveTrace_4 ?_
  refine lv_imul hx hb dX3_leaveTrace_7 ?_
  refine lv_iload_n hx hb dX3_leaveTrace_8 rfl (lv_at hl 1 rfl) ?_
  refine lv_iadd hx hb dX3_leaveTrace_9 ?_
  refine r_put (C := RX3) (T := TX3) (N := 14) S hK w (k := 0) (by decide) (eC_0 ad _) rfl hinX3 tyX3 tyX3_ok nmX3 8 (by decide) (List.mem_of_getElem? (i := 1) rfl) rfl (x := ((31 * (σ 0 8)) + p1)) (ty := .int) (by decide +kernel) rfl rfl (by show _ < List.length _; exact Nat.le_of_ble_eq_true rfl) (sO ad _ _ 8 (by decide)) dX3_leaveTrace_10 (fun H locs w => ?_)
  exact endWv S hr hlocks w hG dX3_leaveTrace_13
set_option maxHeartbeats 4000000 in
set_option maxRecDepth 100000 in
theorem c_X3_personTells (l : Launch) (ad : Nat → Nat) (D : va_G) (sz : Nat) (σ : St) (p1 : Nat) (hp1 : p1 < 8) : Met l yX3_personTells wsX3_personTells ({ frames := 1, cells := 0, slots := 0, locals := 21 }) (PreW 41 (eC ad) ad D (tyC ad) σ sz ([.ref (ad 0), .ref (ad (17 + p1))] : List Value)) (QWi 41 (eC ad) ad D (f_X3_personTells σ p1) (CA 41 ad sz)) 0 0 (CA 41 ad sz) := by
  generalize hG : f_X3_personTells σ p1 = T
  refine headW (cc := cX3_personTells) (maxL := 2) (ret := (some .int)) ([.ref (ad 0), .ref (ad (17 + p1))] : List Value) (by decide) rfl (Nat.le_of_ble_eq_true rfl) ?_
  intro p e s m below meth c S hr hlocks hK hN hsz w ls hl
  have S : CallFix p m c cX3_personTells 2 s ([.ref (ad 0), .ref (ad (17 + p1))] : List Value).toArray wsX3_personTells RX3 := S
  have hx := S.1
  have hb := S.2.1
  have z0 : (0 : Int32).toInt = 0 := by decide
  have z1 : (1 : Int32).toInt = 1 := by decide
  have hl : lv_has ls 2 [(0, .ref (ad 0)), (1, .ref (ad (17 + p1)))] := hl
  have hinX2 : ∀ w ∈ wsX20, w ∈ wsX3_personTells := (fun _ h => List.mem_cons_of_mem _ (List.mem_append_left _ (List.mem_append_right _ h)))
  have hinX3 : ∀ w ∈ wsX30, w ∈ wsX3_personTells := (fun _ h => List.mem_cons_of_mem _ (List.mem_append_right _ h))
  rw [f_X3_personTells] at hG
  refine lv_aload_n hx hb dX3_personTells_0 rfl (lv_at hl 0 rfl) ?_
  refine lv_iconst (v := 1) hx hb dX3_personTells_1 (by decide) ?_
  refine callWv w (va_runV (As := [.int 1]) (rest := []) S (c_X3_leaveTrace l ad D s.heap.size σ 1) (cwV 1 S.2.2.2.2 gX3_personTells_X3_leaveTrace rfl rfl rfl ⟨rfl, hd_X3_leaveTrace⟩ ⟨Nat.le_of_ble_eq_true rfl, Nat.le_of_ble_eq_true rfl⟩) (preV hK hN w (k := 0) (by decide) (eC_0 ad _) (q := (RX3, TX3, 14)) rfl) rfl rfl hl.1 rfl (lv_room (Nat.le_of_ble_eq_true rfl)) dX3_personTells_2 ⟨Nat.zero_le _, Nat.zero_le _⟩) (fun H locs w => ?_)
  refine lv_aload_n hx hb dX3_personTells_5 rfl (lv_at hl 1 rfl) ?_
  refine r_getN (C := RX2) (T := TX2) (N := 3) S hK hN w (k := (17 + p1)) (Nat.lt_of_lt_of_le (Nat.add_lt_add_left hp1 17) (by decide)) (eC_sg ad hp1 _) rfl hinX2 2 (by decide) 5 rfl rfl dX3_personTells_6 ?_
  refine lv_iconst (v := 0) hx hb dX3_personTells_9 (by decide) ?_
  have g10 : vp_in 0 9 := vpi (by decide) (by decide)
  refine r_iald (cA := ad 100) (N := 9) S hK w (k := (25 + p1)) (Nat.lt_of_lt_of_le (Nat.add_lt_add_left hp1 25) (by decide)) (fun f => eC_st ad hp1 f) rfl g10 dX3_personTells_10 ?_
  exact endWi S hr hlocks w hG dX3_personTells_11
set_option maxHeartbeats 4000000 in
set_option maxRecDepth 100000 in
theorem c_X3_fieldTells (l : Launch) (ad : Nat → Nat) (D : va_G) (sz : Nat) (σ : St) (p1 : Nat) (hp1 : p1 < 8) : Met l yX3_fieldTells wsX3_fieldTells ({ frames := 2, cells := 0, slots := 0, locals := 42 }) (PreW 41 (eC ad) ad D (tyC ad) σ sz ([.ref (ad 0), .ref (ad (17 + p1))] : List Value)) (QWi 41 (eC ad) ad D (f_X3_fieldTells σ p1) (CA 41 ad sz)) 0 0 (CA 41 ad sz) := by
  generalize hG : f_X3_fieldTells σ p1 = T
  refine headW (cc := cX3_fieldTells) (maxL := 2) (ret := (some .int)) ([.ref (ad 0), .ref (ad (17 + p1))] : List Value) (by decide) rfl (Nat.le_of_ble_eq_true rfl) ?_
  intro p e s m below meth c S hr hlocks hK hN hsz w ls hl
  have S : CallFix p m c cX3_fieldTells 2 s ([.ref (ad 0), .ref (ad (17 + p1))] : List Value).toArray wsX3_fieldTells RX3 := S
  have hx := S.1
  have hb := S.2.1
  have z0 : (0 : Int32).toInt = 0 := by decide
  have z1 : (1 : Int32).toInt = 1 := by decide
  have hl : lv_has ls 2 [(0, .ref (ad 0)), (1, .ref (ad (17 + p1)))] := hl
  have hinX3 : ∀ w ∈ wsX30, w ∈ wsX3_fieldTells := (fun _ h => List.mem_cons_of_mem _ (List.mem_append_left _ (List.mem_append_right _ h)))
  have hinX2 : ∀ w ∈ wsX20, w ∈ wsX3_fieldTells := (fun _ h => List.mem_cons_of_mem _ (List.mem_append_right _ h))
  rw [f_X3_fieldTells] at hG
  refine lv_aload_n hx hb dX3_fieldTells_0 rfl (lv_at hl 0 rfl) ?_
  refine lv_iconst (v := 2) hx hb dX3_fieldTells_1 (by decide) ?_
  refine callWv w (va_runV (As := [.int 2]) (rest := []) S (c_X3_leaveTrace l ad D s.heap.size σ 2) (cwV 1 S.2.2.2.2 gX3_fieldTells_X3_leaveTrace rfl rfl rfl ⟨rfl, hd_X3_leaveTrace⟩ ⟨Nat.le_of_ble_eq_true rfl, Nat.le_of_ble_eq_true rfl⟩) (preV hK hN w (k := 0) (by decide) (eC_0 ad _) (q := (RX3, TX3, 14)) rfl) rfl rfl hl.1 rfl (lv_room (Nat.le_of_ble_eq_true rfl)) dX3_fieldTells_2 ⟨Nat.zero_le _, Nat.zero_le _⟩) (fun H locs w => ?_)
  refine lv_aload_n hx hb dX3_fieldTells_5 rfl (lv_at hl 0 rfl) ?_
  refine lv_aload_n hx hb dX3_fieldTells_6 rfl (lv_at hl 1 rfl) ?_
  refine callWi w (va_runV (As := [.ref (ad (17 + p1))]) (rest := []) S (c_X3_personTells l ad D H.size (f_X3_leaveTrace σ 2) p1 hp1) (cwV 1 S.2.2.2.2 gX3_fieldTells_X3_personTells rfl rfl rfl ⟨rfl, hd_X3_personTells⟩ ⟨Nat.le_of_ble_eq_true rfl, Nat.le_of_ble_eq_true rfl⟩) (preV hK hN w (k := 0) (by decide) (eC_0 ad _) (q := (RX3, TX3, 14)) rfl) rfl rfl hl.1 rfl (lv_room (Nat.le_of_ble_eq_true rfl)) dX3_fieldTells_7 ⟨Nat.zero_le _, Nat.zero_le _⟩) (fun H locs w => ?_)
  refine lv_bipush (v := 100) hx hb dX3_fieldTells_10 (by decide) ?_
  refine lv_iadd hx hb dX3_fieldTells_12 ?_
  exact endWi S hr hlocks w hG dX3_fieldTells_13
set_option maxHeartbeats 4000000 in
set_option maxRecDepth 100000 in
theorem c_X3_sealTells (l : Launch) (ad : Nat → Nat) (D : va_G) (sz : Nat) (σ : St) (p1 : Nat) (hp1 : p1 < 8) : Met l yX3_sealTells wsX3_sealTells ({ frames := 3, cells := 0, slots := 0, locals := 63 }) (PreW 41 (eC ad) ad D (tyC ad) σ sz ([.ref (ad 0), .ref (ad (17 + p1))] : List Value)) (QWi 41 (eC ad) ad D (f_X3_sealTells σ p1) (CA 41 ad sz)) 0 0 (CA 41 ad sz) := by
  generalize hG : f_X3_sealTells σ p1 = T
  refine headW (cc := cX3_sealTells) (maxL := 3) (ret := (some .int)) ([.ref (ad 0), .ref (ad (17 + p1))] : List Value) (by decide) rfl (Nat.le_of_ble_eq_true rfl) ?_
  intro p e s m below meth c S hr hlocks hK hN hsz w ls hl
  have S : CallFix p m c cX3_sealTells 3 s ([.ref (ad 0), .ref (ad (17 + p1))] : List Value).toArray wsX3_sealTells RX3 := S
  have hx := S.1
  have hb := S.2.1
  have z0 : (0 : Int32).toInt = 0 := by decide
  have z1 : (1 : Int32).toInt = 1 := by decide
  have hl : lv_has ls 3 [(0, .ref (ad 0)), (1, .ref (ad (17 + p1)))] := hl
  have hinX3 : ∀ w ∈ wsX30, w ∈ wsX3_sealTells := (fun _ h => List.mem_cons_of_mem _ (List.mem_append_left _ (List.mem_append_right _ h)))
  have hinX2 : ∀ w ∈ wsX20, w ∈ wsX3_sealTells := (fun _ h => List.mem_cons_of_mem _ (List.mem_append_right _ h))
  rw [f_X3_sealTells] at hG
  refine lv_aload_n hx hb dX3_sealTells_0 rfl (lv_at hl 0 rfl) ?_
  refine lv_iconst (v := 3) hx hb dX3_sealTells_1 (by decide) ?_
  refine callWv w (va_runV (As := [.int 3]) (rest := []) S (c_X3_leaveTrace l ad D s.heap.size σ 3) (cwV 1 S.2.2.2.2 gX3_sealTells_X3_leaveTrace rfl rfl rfl ⟨rfl, hd_X3_leaveTrace⟩ ⟨Nat.le_of_ble_eq_true rfl, Nat.le_of_ble_eq_true rfl⟩) (preV hK hN w (k := 0) (by decide) (eC_0 ad _) (q := (RX3, TX3, 14)) rfl) rfl rfl hl.1 rfl (lv_room (Nat.le_of_ble_eq_true rfl)) dX3_sealTells_2 ⟨Nat.zero_le _, Nat.zero_le _⟩) (fun H locs w => ?_)
  refine lv_aload_n hx hb dX3_sealTells_5 rfl (lv_at hl 0 rfl) ?_
  refine lv_aload_n hx hb dX3_sealTells_6 rfl (lv_at hl 1 rfl) ?_
  refine callWi w (va_runV (As := [.ref (ad (17 + p1))]) (rest := []) S (c_X3_fieldTells l ad D H.size (f_X3_leaveTrace σ 3) p1 hp1) (cwV 1 S.2.2.2.2 gX3_sealTells_X3_fieldTells rfl rfl rfl ⟨rfl, hd_X3_fieldTells⟩ ⟨Nat.le_of_ble_eq_true rfl, Nat.le_of_ble_eq_true rfl⟩) (preV hK hN w (k := 0) (by decide) (eC_0 ad _) (q := (RX3, TX3, 14)) rfl) rfl rfl hl.1 rfl (lv_room (Nat.le_of_ble_eq_true rfl)) dX3_sealTells_7 ⟨Nat.zero_le _, Nat.zero_le _⟩) (fun H locs w => ?_)
  refine lv_istore_n (lv' := [(2, .int ((f_X3_fieldTells (f_X3_leaveTrace σ 3) p1).1)), (0, .ref (ad 0)), (1, .ref (ad (17 + p1)))]) hx hb dX3_sealTells_10 rfl hl (by decide) rfl (fun ls hl => ?_)
  refine lv_iload_n hx hb dX3_sealTells_11 rfl (lv_at hl 0 rfl) ?_
  refine lv_aload_n hx hb dX3_sealTells_12 rfl (lv_at hl 1 rfl) ?_
  refine lv_aload_n hx hb dX3_sealTells_13 rfl (lv_at hl 2 rfl) ?_
  refine callWi w (va_runV (As := [.ref (ad (17 + p1))]) (rest := [.int ((f_X3_fieldTells (f_X3_leaveTrace σ 3) p1).1)]) S (c_X3_personTells l ad D H.size ((f_X3_fieldTells (f_X3_leaveTrace σ 3) p1).2) p1 hp1) (cwV 1 S.2.2.2.2 gX3_sealTells_X3_personTells rfl rfl rfl ⟨rfl, hd_X3_personTells⟩ ⟨Nat.le_of_ble_eq_true rfl, Nat.le_of_ble_eq_true rfl⟩) (preV hK hN w (k := 0) (by decide) (eC_0 ad _) (q := (RX3, TX3, 14)) rfl) rfl rfl hl.1 rfl (lv_room (Nat.le_of_ble_eq_true rfl)) dX3_sealTells_14 ⟨Nat.zero_le _, Nat.zero_le _⟩) (fun H locs w => ?_)
  refine lv_iadd hx hb dX3_sealTells_17 ?_
  exact endWi S hr hlocks w hG dX3_sealTells_18
set_option maxHeartbeats 4000000 in
set_option maxRecDepth 100000 in
theorem c_X3_tell (l : Launch) (ad : Nat → Nat) (D : va_G) (sz : Nat) (σ : St) (p1 : Int32) (hok : OkC σ) : Met l yX3_tell wsX3_tell ({ frames := 4, cells := 0, slots := 0, locals := 85 }) (PreW 41 (eC ad) ad D (tyC ad) σ sz ([.ref (ad 0), .int p1] : List Value)) (QWi 41 (eC ad) ad D (f_X3_tell σ p1) (CA 41 ad sz)) 0 0 (CA 41 ad sz) := by
  generalize hG : f_X3_tell σ p1 = T
  refine headW (cc := cX3_tell) (maxL := 2) (ret := (some .int)) ([.ref (ad 0), .int p1] : List Value) (by decide) rfl (Nat.le_of_ble_eq_true rfl) ?_
  intro p e s m below meth c S hr hlocks hK hN hsz w ls hl
  have S : CallFix p m c cX3_tell 2 s ([.ref (ad 0), .int p1] : List Value).toArray wsX3_tell RX3 := S
  have hx := S.1
  have hb := S.2.1
  have z0 : (0 : Int32).toInt = 0 := by decide
  have z1 : (1 : Int32).toInt = 1 := by decide
  have hl : lv_has ls 2 [(0, .ref (ad 0)), (1, .int p1)] := hl
  have hinX3 : ∀ w ∈ wsX30, w ∈ wsX3_tell := (fun _ h => List.mem_cons_of_mem _ (List.mem_append_left _ (List.mem_append_right _ h)))
  have hinX2 : ∀ w ∈ wsX20, w ∈ wsX3_tell := (fun _ h => List.mem_cons_of_mem _ (List.mem_append_right _ h))
  have okf0 := hok.1
  have okf1 := hok.2.1
  have okf2 := hok.2.2.1
  have okf3 := hok.2.2.2.1
  have okf4 := hok.2.2.2.2.1
  have okf5 := hok.2.2.2.2.2
  rw [f_X3_tell] at hG
  refine lv_aload_n hx hb dX3_tell_0 rfl (lv_at hl 0 rfl) ?_
  refine lv_iload_n hx hb dX3_tell_1 rfl (lv_at hl 1 rfl) ?_
  refine call0i (va_runV (As := [.int p1]) (rest := []) S (c_X3_isSign l ad D s.heap.size σ p1) (cwV 1 S.2.2.2.2 gX3_tell_X3_isSign rfl rfl rfl ⟨rfl, hd_X3_isSign⟩ ⟨Nat.le_of_ble_eq_true rfl, Nat.le_of_ble_eq_true rfl⟩) (preV hK hN w (k := 0) (by decide) (eC_0 ad _) (q := (RX3, TX3, 14)) rfl) rfl rfl hl.1 rfl (lv_room (Nat.le_of_ble_eq_true rfl)) dX3_tell_2 ⟨Nat.zero_le _, Nat.zero_le _⟩) ?_
  refine lv_if_ne (tgt := 10) hx hb dX3_tell_5 (by decide) (fun c5 => ?_) (fun c5 => ?_)
  · have t5 := bf_isSign_n c5
    rw [if_neg c5] at hG
    refine lv_aload_n hx hb dX3_tell_10 rfl (lv_at hl 0 rfl) ?_
    refine r_get (C := RX3) (T := TX3) (N := 14) S hK w (k := 0) (by decide) (eC_0 ad _) rfl hinX3 1 (by decide) (List.mem_of_getElem? (i := 1) rfl) rfl dX3_tell_11 ?_
    refine lv_iload_n hx hb dX3_tell_14 rfl (lv_at hl 1 rfl) ?_
    have g15 : vp_in p1 8 := vpi (by omega) (by omega)
    refine r_aald S hK w (k := 2) (by decide) (eC_2 ad _) (t0 := 2) rfl g15 dX3_tell_15 ?_
    refine r_getN (C := RX2) (T := TX2) (N := 3) S hK hN w (k := (17 + (ix p1))) (Nat.lt_of_lt_of_le (Nat.add_lt_add_left (vpl g15) 17) (by decide)) (eC_sg ad (vpl g15) _) rfl hinX2 0 (by decide) 3 rfl rfl dX3_tell_16 ?_
    by_cases c19_0 : (σ (17 + (ix p1)) 0) = 1
    · rw [if_pos c19_0] at hG
      refine lv_lookup (tgt := 55) hx hb dX3_tell_19 (by decide) (off := 36) (by rw [c19_0]; decide) (by decide) ?_
      refine lv_aload_n hx hb dX3_tell_55 rfl (lv_at hl 0 rfl) ?_
      refine lv_aload_n hx hb dX3_tell_56 rfl (lv_at hl 0 rfl) ?_
      refine r_get (C := RX3) (T := TX3) (N := 14) S hK w (k := 0) (by decide) (eC_0 ad _) rfl hinX3 1 (by decide) (List.mem_of_getElem? (i := 1) rfl) rfl dX3_tell_57 ?_
      refine lv_iload_n hx hb dX3_tell_60 rfl (lv_at hl 1 rfl) ?_
      have g61 : vp_in p1 8 := vpi (by omega) (by omega)
      refine r_aald S hK w (k := 2) (by decide) (eC_2 ad _) (t0 := 2) rfl g61 dX3_tell_61 ?_
      refine callWi w (va_runV (As := [.ref (ad (17 + (ix p1)))]) (rest := []) S (c_X3_fieldTells l ad D s.heap.size σ (ix p1) (vpl g61)) (cwV 1 S.2.2.2.2 gX3_tell_X3_fieldTells rfl rfl rfl ⟨rfl, hd_X3_fieldTells⟩ ⟨Nat.le_of_ble_eq_true rfl, Nat.le_of_ble_eq_true rfl⟩) (preV hK hN w (k := 0) (by decide) (eC_0 ad _) (q := (RX3, TX3, 14)) rfl) rfl rfl hl.1 rfl (lv_room (Nat.le_of_ble_eq_true rfl)) dX3_tell_62 ⟨Nat.zero_le _, Nat.zero_le _⟩) (fun H locs w => ?_)
      exact endWi S hr hlocks w hG dX3_tell_65
    rw [if_neg c19_0] at hG
    by_cases c19_1 : (σ (17 + (ix p1)) 0) = 2
    · rw [if_pos c19_1] at hG
      refine lv_lookup (tgt := 44) hx hb dX3_tell_19 (by decide) (off := 25) (by rw [c19_1]; decide) (by decide) ?_
      refine lv_aload_n hx hb dX3_tell_44 rfl (lv_at hl 0 rfl) ?_
      refine lv_aload_n hx hb dX3_tell_45 rfl (lv_at hl 0 rfl) ?_
      refine r_get (C := RX3) (T := TX3) (N := 14) S hK w (k := 0) (by decide) (eC_0 ad _) rfl hinX3 1 (by decide) (List.mem_of_getElem? (i := 1) rfl) rfl dX3_tell_46 ?_
      refine lv_iload_n hx hb dX3_tell_49 rfl (lv_at hl 1 rfl) ?_
      have g50 : vp_in p1 8 := vpi (by omega) (by omega)
      refine r_aald S hK w (k := 2) (by decide) (eC_2 ad _) (t0 := 2) rfl g50 dX3_tell_50 ?_
      refine callWi w (va_runV (As := [.ref (ad (17 + (ix p1)))]) (rest := []) S (c_X3_sealTells l ad D s.heap.size σ (ix p1) (vpl g50)) (cwV 1 S.2.2.2.2 gX3_tell_X3_sealTells rfl rfl rfl ⟨rfl, hd_X3_sealTells⟩ ⟨Nat.le_of_ble_eq_true rfl, Nat.le_of_ble_eq_true rfl⟩) (preV hK hN w (k := 0) (by decide) (eC_0 ad _) (q := (RX3, TX3, 14)) rfl) rfl rfl hl.1 rfl (lv_room (Nat.le_of_ble_eq_true rfl)) dX3_tell_51 ⟨Nat.zero_le _, Nat.zero_le _⟩) (fun H locs w => ?_)
      exact endWi S hr hlocks w hG dX3_tell_54
    rw [if_neg c19_1] at hG
    refine lv_lookup (tgt := 66) hx hb dX3_tell_19 (by decide) (off := 47) (by show Op.lookupswitch.offset [(1, 36), (2, 25)] 47 (σ (17 + (ix p1)) 0).toInt = 47; rw [lv_osw (a := 1) c19_0 (by decide), lv_osw (a := 2) c19_1 (by decide)]; rfl) (by decide) ?_
    refine lv_aload_n hx hb dX3_tell_66 rfl (lv_at hl 0 rfl) ?_
    refine lv_aload_n hx hb dX3_tell_67 rfl (lv_at hl 0 rfl) ?_
    refine r_get (C := RX3) (T := TX3) (N := 14) S hK w (k := 0) (by decide) (eC_0 ad _) rfl hinX3 1 (by decide) (List.mem_of_getElem? (i := 1) rfl) rfl dX3_tell_68 ?_
    refine lv_iload_n hx hb dX3_tell_71 rfl (lv_at hl 1 rfl) ?_
    have g72 : vp_in p1 8 := vpi (by omega) (by omega)
    refine r_aald S hK w (k := 2) (by decide) (eC_2 ad _) (t0 := 2) rfl g72 dX3_tell_72 ?_
    refine callWi w (va_runV (As := [.ref (ad (17 + (ix p1)))]) (rest := []) S (c_X3_personTells l ad D s.heap.size σ (ix p1) (vpl g72)) (cwV 1 S.2.2.2.2 gX3_tell_X3_personTells rfl rfl rfl ⟨rfl, hd_X3_personTells⟩ ⟨Nat.le_of_ble_eq_true rfl, Nat.le_of_ble_eq_true rfl⟩) (preV hK hN w (k := 0) (by decide) (eC_0 ad _) (q := (RX3, TX3, 14)) rfl) rfl rfl hl.1 rfl (lv_room (Nat.le_of_ble_eq_true rfl)) dX3_tell_73 ⟨Nat.zero_le _, Nat.zero_le _⟩) (fun H locs w => ?_)
    exact endWi S hr hlocks w hG dX3_tell_76
  · rw [if_pos c5] at hG
    refine lv_iconst (v := (-1)) hx hb dX3_tell_8 (by decide) ?_
    exact endWi S hr hlocks w hG dX3_tell_9
set_option maxHeartbeats 4000000 in
set_option maxRecDepth 100000 in
theorem c_X3_stop (l : Launch) (ad : Nat → Nat) (D : va_G) (sz : Nat) (σ : St) (p1 : Int32) (hok : OkC σ) : Met l yX3_stop wsX3_stop ({ frames := 1, cells := 0, slots := 0, locals := 21 }) (PreW 41 (eC ad) ad D (tyC ad) σ sz ([.ref (ad 0), .int p1] : List Value)) (QWi 41 (eC ad) ad D (f_X3_stop σ p1) (CA 41 ad sz)) 0 0 (CA 41 ad sz) := by
  generalize hG : f_X3_stop σ p1 = T
  refine headW (cc := cX3_stop) (maxL := 2) (ret := (some .int)) ([.ref (ad 0), .int p1] : List Value) (by decide) rfl (Nat.le_of_ble_eq_true rfl) ?_
  intro p e s m below meth c S hr hlocks hK hN hsz w ls hl
  have S : CallFix p m c cX3_stop 2 s ([.ref (ad 0), .int p1] : List Value).toArray wsX3_stop RX3 := S
  have hx := S.1
  have hb := S.2.1
  have z0 : (0 : Int32).toInt = 0 := by decide
  have z1 : (1 : Int32).toInt = 1 := by decide
  have hl : lv_has ls 2 [(0, .ref (ad 0)), (1, .int p1)] := hl
  have hinX3 : ∀ w ∈ wsX30, w ∈ wsX3_stop := (fun _ h => List.mem_cons_of_mem _ (List.mem_append_left _ (List.mem_append_right _ h)))
  have hinX2 : ∀ w ∈ wsX20, w ∈ wsX3_stop := (fun _ h => List.mem_cons_of_mem _ (List.mem_append_right _ h))
  have okf0 := hok.1
  have okf1 := hok.2.1
  have okf2 := hok.2.2.1
  have okf3 := hok.2.2.2.1
  have okf4 := hok.2.2.2.2.1
  have okf5 := hok.2.2.2.2.2
  rw [f_X3_stop] at hG
  refine lv_aload_n hx hb dX3_stop_0 rfl (lv_at hl 0 rfl) ?_
  refine lv_iload_n hx hb dX3_stop_1 rfl (lv_at hl 1 rfl) ?_
  refine call0i (va_runV (As := [.int p1]) (rest := []) S (c_X3_isSign l ad D s.heap.size σ p1) (cwV 1 S.2.2.2.2 gX3_stop_X3_isSign rfl rfl rfl ⟨rfl, hd_X3_isSign⟩ ⟨Nat.le_of_ble_eq_true rfl, Nat.le_of_ble_eq_true rfl⟩) (preV hK hN w (k := 0) (by decide) (eC_0 ad _) (q := (RX3, TX3, 14)) rfl) rfl rfl hl.1 rfl (lv_room (Nat.le_of_ble_eq_true rfl)) dX3_stop_2 ⟨Nat.zero_le _, Nat.zero_le _⟩) ?_
  refine lv_if_ne (tgt := 10) hx hb dX3_stop_5 (by decide) (fun c5 => ?_) (fun c5 => ?_)
  · have t5 := bf_isSign_n c5
    rw [if_neg c5] at hG
    refine lv_aload_n hx hb dX3_stop_10 rfl (lv_at hl 0 rfl) ?_
    refine r_get (C := RX3) (T := TX3) (N := 14) S hK w (k := 0) (by decide) (eC_0 ad _) rfl hinX3 1 (by decide) (List.mem_of_getElem? (i := 1) rfl) rfl dX3_stop_11 ?_
    refine lv_iload_n hx hb dX3_stop_14 rfl (lv_at hl 1 rfl) ?_
    have g15 : vp_in p1 8 := vpi (by omega) (by omega)
    refine r_aald S hK w (k := 2) (by decide) (eC_2 ad _) (t0 := 2) rfl g15 dX3_stop_15 ?_
    refine r_getN (C := RX2) (T := TX2) (N := 3) S hK hN w (k := (17 + (ix p1))) (Nat.lt_of_lt_of_le (Nat.add_lt_add_left (vpl g15) 17) (by decide)) (eC_sg ad (vpl g15) _) rfl hinX2 0 (by decide) 3 rfl rfl dX3_stop_16 ?_
    refine lv_iconst (v := 2) hx hb dX3_stop_19 (by decide) ?_
    refine lv_icmp_ne (tgt := 31) hx hb dX3_stop_20 (by decide) (fun c20 => ?_) (fun c20 => ?_)
    · have t20 : (σ (17 + (ix p1)) 0).toInt ≠ 2 := qt_ne c20
      rw [if_neg c20] at hG
      refine lv_aload_n hx hb dX3_stop_31 rfl (lv_at hl 0 rfl) ?_
      refine lv_iconst (v := 4) hx hb dX3_stop_32 (by decide) ?_
      refine callWv w (va_runV (As := [.int 4]) (rest := []) S (c_X3_leaveTrace l ad D s.heap.size σ 4) (cwV 1 S.2.2.2.2 gX3_stop_X3_leaveTrace rfl rfl rfl ⟨rfl, hd_X3_leaveTrace⟩ ⟨Nat.le_of_ble_eq_true rfl, Nat.le_of_ble_eq_true rfl⟩) (preV hK hN w (k := 0) (by decide) (eC_0 ad _) (q := (RX3, TX3, 14)) rfl) rfl rfl hl.1 rfl (lv_room (Nat.le_of_ble_eq_true rfl)) dX3_stop_33 ⟨Nat.zero_le _, Nat.zero_le _⟩) (fun H locs w => ?_)
      refine lv_iload_n hx hb dX3_stop_36 rfl (lv_at hl 1 rfl) ?_
      exact endWi S hr hlocks w hG dX3_stop_37
    · have t20 : (σ (17 + (ix p1)) 0).toInt = 2 := qt_eq c20
      rw [if_pos c20] at hG
      refine lv_aload_n hx hb dX3_stop_23 rfl (lv_at hl 0 rfl) ?_
      refine lv_iconst (v := 5) hx hb dX3_stop_24 (by decide) ?_
      refine callWv w (va_runV (As := [.int 5]) (rest := []) S (c_X3_leaveTrace l ad D s.heap.size σ 5) (cwV 1 S.2.2.2.2 gX3_stop_X3_leaveTrace rfl rfl rfl ⟨rfl, hd_X3_leaveTrace⟩ ⟨Nat.le_of_ble_eq_true rfl, Nat.le_of_ble_eq_true rfl⟩) (preV hK hN w (k := 0) (by decide) (eC_0 ad _) (q := (RX3, TX3, 14)) rfl) rfl rfl hl.1 rfl (lv_room (Nat.le_of_ble_eq_true rfl)) dX3_stop_25 ⟨Nat.zero_le _, Nat.zero_le _⟩) (fun H locs w => ?_)
      refine lv_bipush (v := 90) hx hb dX3_stop_28 (by decide) ?_
      exact endWi S hr hlocks w hG dX3_stop_30
  · rw [if_pos c5] at hG
    refine lv_iconst (v := (-1)) hx hb dX3_stop_8 (by decide) ?_
    exact endWi S hr hlocks w hG dX3_stop_9
set_option maxHeartbeats 4000000 in
set_option maxRecDepth 100000 in
theorem c_X3_as (l : Launch) (ad : Nat → Nat) (D : va_G) (sz : Nat) (σ : St) (p1 : Int32) (p2 : Int32) (hok : OkC σ) : Met l yX3_as wsX3_as ({ frames := 1, cells := 0, slots := 0, locals := 21 }) (PreW 41 (eC ad) ad D (tyC ad) σ sz ([.ref (ad 0), .int p1, .int p2] : List Value)) (QWi 41 (eC ad) ad D (f_X3_as σ p1 p2) (CA 41 ad sz)) 0 0 (CA 41 ad sz) := by
  generalize hG : f_X3_as σ p1 p2 = T
  refine headW (cc := cX3_as) (maxL := 3) (ret := (some .int)) ([.ref (ad 0), .int p1, .int p2] : List Value) (by decide) rfl (Nat.le_of_ble_eq_true rfl) ?_
  intro p e s m below meth c S hr hlocks hK hN hsz w ls hl
  have S : CallFix p m c cX3_as 3 s ([.ref (ad 0), .int p1, .int p2] : List Value).toArray wsX3_as RX3 := S
  have hx := S.1
  have hb := S.2.1
  have z0 : (0 : Int32).toInt = 0 := by decide
  have z1 : (1 : Int32).toInt = 1 := by decide
  have hl : lv_has ls 3 [(0, .ref (ad 0)), (1, .int p1), (2, .int p2)] := hl
  have hinX3 : ∀ w ∈ wsX30, w ∈ wsX3_as := (fun _ h => List.mem_cons_of_mem _ (List.mem_append_left _ (List.mem_append_right _ h)))
  have hinX2 : ∀ w ∈ wsX20, w ∈ wsX3_as := (fun _ h => List.mem_cons_of_mem _ (List.mem_append_right _ h))
  have okf0 := hok.1
  have okf1 := hok.2.1
  have okf2 := hok.2.2.1
  have okf3 := hok.2.2.2.1
  have okf4 := hok.2.2.2.2.1
  have okf5 := hok.2.2.2.2.2
  rw [f_X3_as] at hG
  refine lv_aload_n hx hb dX3_as_0 rfl (lv_at hl 0 rfl) ?_
  refine lv_iload_n hx hb dX3_as_1 rfl (lv_at hl 1 rfl) ?_
  refine call0i (va_runV (As := [.int p1]) (rest := []) S (c_X3_isSign l ad D s.heap.size σ p1) (cwV 1 S.2.2.2.2 gX3_as_X3_isSign rfl rfl rfl ⟨rfl, hd_X3_isSign⟩ ⟨Nat.le_of_ble_eq_true rfl, Nat.le_of_ble_eq_true rfl⟩) (preV hK hN w (k := 0) (by decide) (eC_0 ad _) (q := (RX3, TX3, 14)) rfl) rfl rfl hl.1 rfl (lv_room (Nat.le_of_ble_eq_true rfl)) dX3_as_2 ⟨Nat.zero_le _, Nat.zero_le _⟩) ?_
  refine lv_if_ne (tgt := 14) hx hb dX3_as_5 (by decide) (fun c5 => ?_) (fun c5 => ?_)
  · have t5 := bf_isSign_n c5
    rw [if_neg c5] at hG
    refine lv_iload_n hx hb dX3_as_14 rfl (lv_at hl 2 rfl) ?_
    refine lv_if_lt (tgt := 23) hx hb dX3_as_15 (by decide) (fun c15 => ?_) (fun c15 => ?_)
    · have t15 : p2.toInt < 0 := qt_lt c15
      rw [if_pos c15] at hG
      refine lv_aload_n hx hb dX3_as_23 rfl (lv_at hl 0 rfl) ?_
      refine lv_bipush (v := (-2)) hx hb dX3_as_24 (by decide) ?_
      refine callWi w (va_runV (As := [.int (-2)]) (rest := []) S (c_X3_refused l ad D s.heap.size σ (-2)) (cwV 1 S.2.2.2.2 gX3_as_X3_refused rfl rfl rfl ⟨rfl, hd_X3_refused⟩ ⟨Nat.le_of_ble_eq_true rfl, Nat.le_of_ble_eq_true rfl⟩) (preV hK hN w (k := 0) (by decide) (eC_0 ad _) (q := (RX3, TX3, 14)) rfl) rfl rfl hl.1 rfl (lv_room (Nat.le_of_ble_eq_true rfl)) dX3_as_26 ⟨Nat.zero_le _, Nat.zero_le _⟩) (fun H locs w => ?_)
      exact endWi S hr hlocks w hG dX3_as_29
    · have t15 : 0 ≤ p2.toInt := qt_nlt c15
      rw [if_neg c15] at hG
      refine lv_iload_n hx hb dX3_as_18 rfl (lv_at hl 2 rfl) ?_
      refine lv_iconst (v := 3) hx hb dX3_as_19 (by decide) ?_
      refine lv_icmp_lt (tgt := 30) hx hb dX3_as_20 (by decide) (fun c20 => ?_) (fun c20 => ?_)
      · have t20 : p2.toInt < 3 := qt_lt c20
        rw [if_pos c20] at hG
        refine lv_aload_n hx hb dX3_as_30 rfl (lv_at hl 0 rfl) ?_
        refine r_get (C := RX3) (T := TX3) (N := 14) S hK w (k := 0) (by decide) (eC_0 ad _) rfl hinX3 1 (by decide) (List.mem_of_getElem? (i := 1) rfl) rfl dX3_as_31 ?_
        refine lv_iload_n hx hb dX3_as_34 rfl (lv_at hl 1 rfl) ?_
        have g35 : vp_in p1 8 := vpi (by omega) (by omega)
        refine r_aald S hK w (k := 2) (by decide) (eC_2 ad _) (t0 := 2) rfl g35 dX3_as_35 ?_
        refine r_getN (C := RX2) (T := TX2) (N := 3) S hK hN w (k := (17 + (ix p1))) (Nat.lt_of_lt_of_le (Nat.add_lt_add_left (vpl g35) 17) (by decide)) (eC_sg ad (vpl g35) _) rfl hinX2 0 (by decide) 3 rfl rfl dX3_as_36 ?_
        refine lv_iload_n hx hb dX3_as_39 rfl (lv_at hl 2 rfl) ?_
        refine lv_icmp_ge (tgt := 49) hx hb dX3_as_40 (by decide) (fun c40 => ?_) (fun c40 => ?_)
        · have t40 : p2.toInt ≤ (σ (17 + (ix p1)) 0).toInt := qt_le c40
          rw [if_pos c40] at hG
          refine lv_aload_n hx hb dX3_as_49 rfl (lv_at hl 0 rfl) ?_
          refine lv_iconst (v := 0) hx hb dX3_as_50 (by decide) ?_
          refine r_put (C := RX3) (T := TX3) (N := 14) S hK w (k := 0) (by decide) (eC_0 ad _) rfl hinX3 tyX3 tyX3_ok nmX3 9 (by decide) (List.mem_of_getElem? (i := 2) rfl) rfl (x := 0) (ty := .int) (by decide +kernel) rfl rfl (by show _ < List.length _; exact Nat.le_of_ble_eq_true rfl) (sO ad _ _ 9 (by decide)) dX3_as_51 (fun H locs w => ?_)
          have hok : OkC (u2 σ 0 9 0) := okC_obj (by decide) hok
          have okf0 := hok.1
          have okf1 := hok.2.1
          have okf2 := hok.2.2.1
          have okf3 := hok.2.2.2.1
          have okf4 := hok.2.2.2.2.1
          have okf5 := hok.2.2.2.2.2
          refine lv_iconst (v := 1) hx hb dX3_as_54 (by decide) ?_
          exact endWi S hr hlocks w hG dX3_as_55
        · have t40 : (σ (17 + (ix p1)) 0).toInt < p2.toInt := qt_nle c40
          rw [if_neg c40] at hG
          refine lv_aload_n hx hb dX3_as_43 rfl (lv_at hl 0 rfl) ?_
          refine lv_iconst (v := 2) hx hb dX3_as_44 (by decide) ?_
          refine callWi w (va_runV (As := [.int 2]) (rest := []) S (c_X3_faulted l ad D s.heap.size σ 2) (cwV 1 S.2.2.2.2 gX3_as_X3_faulted rfl rfl rfl ⟨rfl, hd_X3_faulted⟩ ⟨Nat.le_of_ble_eq_true rfl, Nat.le_of_ble_eq_true rfl⟩) (preV hK hN w (k := 0) (by decide) (eC_0 ad _) (q := (RX3, TX3, 14)) rfl) rfl rfl hl.1 rfl (lv_room (Nat.le_of_ble_eq_true rfl)) dX3_as_45 ⟨Nat.zero_le _, Nat.zero_le _⟩) (fun H locs w => ?_)
          exact endWi S hr hlocks w hG dX3_as_48
      · have t20 : 3 ≤ p2.toInt := qt_nlt c20
        rw [if_neg c20] at hG
        refine lv_aload_n hx hb dX3_as_23 rfl (lv_at hl 0 rfl) ?_
        refine lv_bipush (v := (-2)) hx hb dX3_as_24 (by decide) ?_
        refine callWi w (va_runV (As := [.int (-2)]) (rest := []) S (c_X3_refused l ad D s.heap.size σ (-2)) (cwV 1 S.2.2.2.2 gX3_as_X3_refused rfl rfl rfl ⟨rfl, hd_X3_refused⟩ ⟨Nat.le_of_ble_eq_true rfl, Nat.le_of_ble_eq_true rfl⟩) (preV hK hN w (k := 0) (by decide) (eC_0 ad _) (q := (RX3, TX3, 14)) rfl) rfl rfl hl.1 rfl (lv_room (Nat.le_of_ble_eq_true rfl)) dX3_as_26 ⟨Nat.zero_le _, Nat.zero_le _⟩) (fun H locs w => ?_)
        exact endWi S hr hlocks w hG dX3_as_29
  · rw [if_pos c5] at hG
    refine lv_aload_n hx hb dX3_as_8 rfl (lv_at hl 0 rfl) ?_
    refine lv_iconst (v := (-1)) hx hb dX3_as_9 (by decide) ?_
    refine callWi w (va_runV (As := [.int (-1)]) (rest := []) S (c_X3_refused l ad D s.heap.size σ (-1)) (cwV 1 S.2.2.2.2 gX3_as_X3_refused rfl rfl rfl ⟨rfl, hd_X3_refused⟩ ⟨Nat.le_of_ble_eq_true rfl, Nat.le_of_ble_eq_true rfl⟩) (preV hK hN w (k := 0) (by decide) (eC_0 ad _) (q := (RX3, TX3, 14)) rfl) rfl rfl hl.1 rfl (lv_room (Nat.le_of_ble_eq_true rfl)) dX3_as_10 ⟨Nat.zero_le _, Nat.zero_le _⟩) (fun H locs w => ?_)
    exact endWi S hr hlocks w hG dX3_as_13
set_option maxHeartbeats 4000000 in
set_option maxRecDepth 100000 in
theorem c_X3_trace (l : Launch) (ad : Nat → Nat) (D : va_G) (sz : Nat) (σ : St) : Met l yX3_trace wsX3_trace ({ frames := 0, cells := 0, slots := 0, locals := 0 }) (PreW 41 (eC ad) ad D (tyC ad) σ sz ([.ref (ad 0)] : List Value)) (Q0i (f_X3_trace σ)) 0 0 N0 := by
  generalize hG : f_X3_trace σ = T
  refine headW (cc := cX3_trace) (maxL := 1) (ret := (some .int)) ([.ref (ad 0)] : List Value) (by decide) rfl (Nat.le_of_ble_eq_true rfl) ?_
  intro p e s m below meth c S hr hlocks hK hN hsz w ls hl
  have S : CallFix p m c cX3_trace 1 s ([.ref (ad 0)] : List Value).toArray wsX3_trace RX3 := S
  have hx := S.1
  have hb := S.2.1
  have z0 : (0 : Int32).toInt = 0 := by decide
  have z1 : (1 : Int32).toInt = 1 := by decide
  have hl : lv_has ls 1 [(0, .ref (ad 0))] := hl
  have hinX3 : ∀ w ∈ wsX30, w ∈ wsX3_trace := (fun _ h => List.mem_cons_of_mem _ (List.mem_append_right _ h))
  rw [f_X3_trace] at hG
  refine lv_aload_n hx hb dX3_trace_0 rfl (lv_at hl 0 rfl) ?_
  refine r_get (C := RX3) (T := TX3) (N := 14) S hK w (k := 0) (by decide) (eC_0 ad _) rfl hinX3 8 (by decide) (List.mem_of_getElem? (i := 1) rfl) rfl dX3_trace_1 ?_
  exact end0i S hr hlocks hG dX3_trace_4
set_option maxHeartbeats 4000000 in
set_option maxRecDepth 100000 in
theorem c_X3_fault (l : Launch) (ad : Nat → Nat) (D : va_G) (sz : Nat) (σ : St) : Met l yX3_fault wsX3_fault ({ frames := 0, cells := 0, slots := 0, locals := 0 }) (PreW 41 (eC ad) ad D (tyC ad) σ sz ([.ref (ad 0)] : List Value)) (Q0i (f_X3_fault σ)) 0 0 N0 := by
  generalize hG : f_X3_fault σ = T
  refine headW (cc := cX3_fault) (maxL := 1) (ret := (some .int)) ([.ref (ad 0)] : List Value) (by decide) rfl (Nat.le_of_ble_eq_true rfl) ?_
  intro p e s m below meth c S hr hlocks hK hN hsz w ls hl
  have S : CallFix p m c cX3_fault 1 s ([.ref (ad 0)] : List Value).toArray wsX3_fault RX3 := S
  have hx := S.1
  have hb := S.2.1
  have z0 : (0 : Int32).toInt = 0 := by decide
  have z1 : (1 : Int32).toInt = 1 := by decide
  have hl : lv_has ls 1 [(0, .ref (ad 0))] := hl
  have hinX3 : ∀ w ∈ wsX30, w ∈ wsX3_fault := (fun _ h => List.mem_cons_of_mem _ (List.mem_append_right _ h))
  rw [f_X3_fault] at hG
  refine lv_aload_n hx hb dX3_fault_0 rfl (lv_at hl 0 rfl) ?_
  refine r_get (C := RX3) (T := TX3) (N := 14) S hK w (k := 0) (by decide) (eC_0 ad _) rfl hinX3 9 (by decide) (List.mem_of_getElem? (i := 1) rfl) rfl dX3_fault_1 ?_
  exact end0i S hr hlocks hG dX3_fault_4
set_option maxHeartbeats 4000000 in
set_option maxRecDepth 100000 in
theorem c_X3_many (l : Launch) (ad : Nat → Nat) (D : va_G) (sz : Nat) (σ : St) (p1 : Int32) : Met l yX3_many wsX3_many ({ frames := 0, cells := 0, slots := 0, locals := 0 }) (PreW 41 (eC ad) ad D (tyC ad) σ sz ([.ref (ad 0), .int p1] : List Value)) (Q0i (f_X3_many σ p1)) 0 0 N0 := by
  generalize hG : f_X3_many σ p1 = T
  refine headW (cc := cX3_many) (maxL := 2) (ret := (some .int)) ([.ref (ad 0), .int p1] : List Value) (by decide) rfl (Nat.le_of_ble_eq_true rfl) ?_
  intro p e s m below meth c S hr hlocks hK hN hsz w ls hl
  have S : CallFix p m c cX3_many 2 s ([.ref (ad 0), .int p1] : List Value).toArray wsX3_many RX3 := S
  have hx := S.1
  have hb := S.2.1
  have z0 : (0 : Int32).toInt = 0 := by decide
  have z1 : (1 : Int32).toInt = 1 := by decide
  have hl : lv_has ls 2 [(0, .ref (ad 0)), (1, .int p1)] := hl
  have hinX3 : ∀ w ∈ wsX30, w ∈ wsX3_many := (fun _ h => List.mem_cons_of_mem _ (List.mem_append_right _ h))
  rw [f_X3_many] at hG
  refine lv_iload_n hx hb dX3_many_0 rfl (lv_at hl 1 rfl) ?_
  by_cases c1_0 : p1 = 0
  · rw [if_pos c1_0] at hG
    refine lv_tableIn (tgt := 32) hx hb dX3_many_1 (by rw [c1_0]; decide) (by rw [c1_0]; decide) (off := 31) (by rw [c1_0]; decide) (by decide) ?_
    refine lv_aload_n hx hb dX3_many_32 rfl (lv_at hl 0 rfl) ?_
    refine r_get (C := RX3) (T := TX3) (N := 14) S hK w (k := 0) (by decide) (eC_0 ad _) rfl hinX3 4 (by decide) (List.mem_of_getElem? (i := 1) rfl) rfl dX3_many_33 ?_
    exact end0i S hr hlocks hG dX3_many_36
  rw [if_neg c1_0] at hG
  by_cases c1_1 : p1 = 1
  · rw [if_pos c1_1] at hG
    refine lv_tableIn (tgt := 37) hx hb dX3_many_1 (by rw [c1_1]; decide) (by rw [c1_1]; decide) (off := 36) (by rw [c1_1]; decide) (by decide) ?_
    refine lv_aload_n hx hb dX3_many_37 rfl (lv_at hl 0 rfl) ?_
    refine r_get (C := RX3) (T := TX3) (N := 14) S hK w (k := 0) (by decide) (eC_0 ad _) rfl hinX3 5 (by decide) (List.mem_of_getElem? (i := 2) rfl) rfl dX3_many_38 ?_
    exact end0i S hr hlocks hG dX3_many_41
  rw [if_neg c1_1] at hG
  by_cases c1_2 : p1 = 2
  · rw [if_pos c1_2] at hG
    refine lv_tableIn (tgt := 42) hx hb dX3_many_1 (by rw [c1_2]; decide) (by rw [c1_2]; decide) (off := 41) (by rw [c1_2]; decide) (by decide) ?_
    refine lv_aload_n hx hb dX3_many_42 rfl (lv_at hl 0 rfl) ?_
    refine r_get (C := RX3) (T := TX3) (N := 14) S hK w (k := 0) (by decide) (eC_0 ad _) rfl hinX3 6 (by decide) (List.mem_of_getElem? (i := 3) rfl) rfl dX3_many_43 ?_
    exact end0i S hr hlocks hG dX3_many_46
  rw [if_neg c1_2] at hG
  by_cases c1_3 : p1 = 3
  · rw [if_pos c1_3] at hG
    refine lv_tableIn (tgt := 47) hx hb dX3_many_1 (by rw [c1_3]; decide) (by rw [c1_3]; decide) (off := 46) (by rw [c1_3]; decide) (by decide) ?_
    refine lv_aload_n hx hb dX3_many_47 rfl (lv_at hl 0 rfl) ?_
    refine r_get (C := RX3) (T := TX3) (N := 14) S hK w (k := 0) (by decide) (eC_0 ad _) rfl hinX3 7 (by decide) (List.mem_of_getElem? (i := 4) rfl) rfl dX3_many_48 ?_
    exact end0i S hr hlocks hG dX3_many_51
  rw [if_neg c1_3] at hG
  have y1_0 : p1.toInt ≠ 0 := qt_ne c1_0
  have y1_1 : p1.toInt ≠ 1 := qt_ne c1_1
  have y1_2 : p1.toInt ≠ 2 := qt_ne c1_2
  have y1_3 : p1.toInt ≠ 3 := qt_ne c1_3
  refine lv_tableOut (tgt := 52) hx hb dX3_many_1 (by omega) (by decide) ?_
  refine lv_bipush (v := (-2)) hx hb dX3_many_52 (by decide) ?_
  exact end0i S hr hlocks hG dX3_many_54
