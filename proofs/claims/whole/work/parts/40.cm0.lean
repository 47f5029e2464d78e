set_option maxHeartbeats 4000000 in
set_option maxRecDepth 100000 in
theorem c_X4_in (l : Launch) (p1 : Int64) (p2 : Int64) (p3 : Int64) : Met l yX4_in wsX4_in ({ frames := 0, cells := 0, slots := 0, locals := 0 }) (Pre0 ([.long p1, .long p2, .long p3] : List Value)) (Q0i (f_X4_in p1 p2 p3)) 0 0 N0 := by
  generalize hG : f_X4_in p1 p2 p3 = T
  refine head0 (cc := cX4_in) (maxL := 6) (ret := (some .boolean)) ([.long p1, .long p2, .long p3] : List Value) (by decide) rfl (Nat.le_of_ble_eq_true rfl) ?_
  intro p e s m below meth c S hr hlocks ls hl
  have S : CallFix p m c cX4_in 6 s ([.long p1, .long p2, .long p3] : List Value).toArray wsX4_in RX4 := S
  have hx := S.1
  have hb := S.2.1
  have z0 : (0 : Int32).toInt = 0 := by decide
  have z1 : (1 : Int32).toInt = 1 := by decide
  have hl : lv_has ls 6 [(0, .long p1), (2, .long p2), (4, .long p3)] := hl
  rw [f_X4_in] at hG
  refine lv_lload_n hx hb dX4_in_0 rfl (lv_at hl 0 rfl) ?_
  refine lv_lload_n hx hb dX4_in_1 rfl (lv_at hl 1 rfl) ?_
  refine W.lcmp hx hb dX4_in_2 ?_
  refine lv_if_lt (tgt := 17) hx hb dX4_in_3 (by decide) (fun c3 => ?_) (fun c3 => ?_)
  · rw [if_pos c3] at hG
    refine lv_iconst (v := 0) hx hb dX4_in_17 (by decide) ?_
    exact end0z S hr hlocks (Or.inl rfl) hG dX4_in_18
  · rw [if_neg c3] at hG
    refine lv_lload_n hx hb dX4_in_6 rfl (lv_at hl 0 rfl) ?_
    refine lv_lload hx hb dX4_in_7 (lv_at hl 2 rfl) ?_
    refine W.lcmp hx hb dX4_in_9 ?_
    refine lv_if_gt (tgt := 17) hx hb dX4_in_10 (by decide) (fun c10 => ?_) (fun c10 => ?_)
    · rw [if_pos c10] at hG
      refine lv_iconst (v := 0) hx hb dX4_in_17 (by decide) ?_
      exact end0z S hr hlocks (Or.inl rfl) hG dX4_in_18
    · rw [if_neg c10] at hG
      refine lv_iconst (v := 1) hx hb dX4_in_13 (by decide) ?_
      refine lv_goto (tgt := 18) hx hb dX4_in_14 (by decide) ?_
      exact end0z S hr hlocks (Or.inr rfl) hG dX4_in_18
set_option maxHeartbeats 4000000 in
set_option maxRecDepth 100000 in
theorem c_X4_lost (l : Launch)  : Met l yX4_lost wsX4_lost ({ frames := 0, cells := 0, slots := 0, locals := 0 }) (Pre0 ([] : List Value)) (Q0l (f_X4_lost)) 0 0 N0 := by
  generalize hG : f_X4_lost = T
  refine head0 (cc := cX4_lost) (maxL := 0) (ret := (some .long)) ([] : List Value) (by decide) rfl (Nat.le_of_ble_eq_true rfl) ?_
  intro p e s m below meth c S hr hlocks ls hl
  have S : CallFix p m c cX4_lost 0 s ([] : List Value).toArray wsX4_lost RX4 := S
  have hx := S.1
  have hb := S.2.1
  have z0 : (0 : Int32).toInt = 0 := by decide
  have z1 : (1 : Int32).toInt = 1 := by decide
  have hl : lv_has ls 0 [] := hl
  rw [f_X4_lost] at hG
  refine lv_ldc2 hx hb S.2.2.2.1 (S.2.2.2.2 _ (List.mem_of_getElem? (i := 1) rfl)) dX4_lost_0 ?_
  exact end0l S hr hlocks hG dX4_lost_3
set_option maxHeartbeats 4000000 in
set_option maxRecDepth 100000 in
theorem c_X4_greater (l : Launch) (p1 : Int32) (p2 : Int32) : Met l yX4_greater wsX4_greater ({ frames := 0, cells := 0, slots := 0, locals := 0 }) (Pre0 ([.int p1, .int p2] : List Value)) (Q0i (f_X4_greater p1 p2)) 0 0 N0 := by
  generalize hG : f_X4_greater p1 p2 = T
  refine head0 (cc := cX4_greater) (maxL := 2) (ret := (some .int)) ([.int p1, .int p2] : List Value) (by decide) rfl (Nat.le_of_ble_eq_true rfl) ?_
  intro p e s m below meth c S hr hlocks ls hl
  have S : CallFix p m c cX4_greater 2 s ([.int p1, .int p2] : List Value).toArray wsX4_greater RX4 := S
  have hx := S.1
  have hb := S.2.1
  have z0 : (0 : Int32).toInt = 0 := by decide
  have z1 : (1 : Int32).toInt = 1 := by decide
  have hl : lv_has ls 2 [(0, .int p1), (1, .int p2)] := hl
  rw [f_X4_greater] at hG
  refine lv_iload_n hx hb dX4_greater_0 rfl (lv_at hl 0 rfl) ?_
  refine lv_iload_n hx hb dX4_greater_1 rfl (lv_at hl 1 rfl) ?_
  refine lv_icmp_le (tgt := 9) hx hb dX4_greater_2 (by decide) (fun c2 => ?_) (fun c2 => ?_)
  · have t2 : p1.toInt ≤ p2.toInt := qt_le c2
    rw [if_pos c2] at hG
    refine lv_iload_n hx hb dX4_greater_9 rfl (lv_at hl 1 rfl) ?_
    exact end0i S hr hlocks hG dX4_greater_10
  · have t2 : p2.toInt < p1.toInt := qt_nle c2
    rw [if_neg c2] at hG
    refine lv_iload_n hx hb dX4_greater_5 rfl (lv_at hl 0 rfl) ?_
    refine lv_goto (tgt := 10) hx hb dX4_greater_6 (by decide) ?_
    exact end0i S hr hlocks hG dX4_greater_10
set_option maxHeartbeats 4000000 in
set_option maxRecDepth 100000 in
theorem c_X4_off (l : Launch) (p1 : Int32) (p2 : Int32) : Met l yX4_off wsX4_off ({ frames := 0, cells := 0, slots := 0, locals := 0 }) (Pre0 ([.int p1, .int p2] : List Value)) (Q0i (f_X4_off p1 p2)) 0 0 N0 := by
  generalize hG : f_X4_off p1 p2 = T
  refine head0 (cc := cX4_off) (maxL := 2) (ret := (some .int)) ([.int p1, .int p2] : List Value) (by decide) rfl (Nat.le_of_ble_eq_true rfl) ?_
  intro p e s m below meth c S hr hlocks ls hl
  have S : CallFix p m c cX4_off 2 s ([.int p1, .int p2] : List Value).toArray wsX4_off RX4 := S
  have hx := S.1
  have hb := S.2.1
  have z0 : (0 : Int32).toInt = 0 := by decide
  have z1 : (1 : Int32).toInt = 1 := by decide
  have hl : lv_has ls 2 [(0, .int p1), (1, .int p2)] := hl
  rw [f_X4_off] at hG
  refine lv_iload_n hx hb dX4_off_0 rfl (lv_at hl 0 rfl) ?_
  refine lv_iload_n hx hb dX4_off_1 rfl (lv_at hl 1 rfl) ?_
  refine lv_icmp_ge (tgt := 11) hx hb dX4_off_2 (by decide) (fun c2 => ?_) (fun c2 => ?_)
  · have t2 : p2.toInt ≤ p1.toInt := qt_le c2
    rw [if_pos c2] at hG
    refine lv_iload_n hx hb dX4_off_11 rfl (lv_at hl 0 rfl) ?_
    refine lv_iload_n hx hb dX4_off_12 rfl (lv_at hl 1 rfl) ?_
    refine lv_isub hx hb dX4_off_13 ?_
    exact end0i S hr hlocks hG dX4_off_14
  · have t2 : p1.toInt < p2.toInt := qt_nle c2
    rw [if_neg c2] at hG
    refine lv_iload_n hx hb dX4_off_5 rfl (lv_at hl 1 rfl) ?_
    refine lv_iload_n hx hb dX4_off_6 rfl (lv_at hl 0 rfl) ?_
    refine lv_isub hx hb dX4_off_7 ?_
    refine lv_goto (tgt := 14) hx hb dX4_off_8 (by decide) ?_
    exact end0i S hr hlocks hG dX4_off_14
set_option maxHeartbeats 4000000 in
set_option maxRecDepth 100000 in
theorem c_X4_told (l : Launch) (p1 : Int64) (p2 : Int64) (p3 : Int32) (hb1 : 0 ≤ p1.toInt ∧ p1.toInt ≤ 100) (hb2 : 0 < p2.toInt ∧ p2.toInt ≤ 100) : Met l yX4_told wsX4_told ({ frames := 0, cells := 0, slots := 0, locals := 0 }) (Pre0 ([.long p1, .long p2, .int p3] : List Value)) (Q0l (f_X4_told p1 p2 p3)) 0 0 N0 := by
  generalize hG : f_X4_told p1 p2 p3 = T
  refine head0 (cc := cX4_told) (maxL := 11) (ret := (some .long)) ([.long p1, .long p2, .int p3] : List Value) (by decide) rfl (Nat.le_of_ble_eq_true rfl) ?_
  intro p e s m below meth c S hr hlocks ls hl
  have S : CallFix p m c cX4_told 11 s ([.long p1, .long p2, .int p3] : List Value).toArray wsX4_told RX4 := S
  have hx := S.1
  have hb := S.2.1
  have z0 : (0 : Int32).toInt = 0 := by decide
  have z1 : (1 : Int32).toInt = 1 := by decide
  have hl : lv_has ls 11 [(0, .long p1), (2, .long p2), (4, .int p3)] := hl
  rw [f_X4_told] at hG
  refine lv_lload_n hx hb dX4_told_0 rfl (lv_at hl 0 rfl) ?_
  refine lv_lstore (lv' := [(5, .long p1), (0, .long p1), (2, .long p2), (4, .int p3)]) hx hb dX4_told_1 hl (by decide) rfl (fun ls hl => ?_)
  refine lv_lload_n hx hb dX4_told_3 rfl (lv_at hl 2 rfl) ?_
  refine lv_lstore (lv' := [(7, .long p2), (5, .long p1), (0, .long p1), (2, .long p2), (4, .int p3)]) hx hb dX4_told_4 hl (by decide) rfl (fun ls hl => ?_)
  have L6 : ∀ (n : Nat) (res6 : Int64), ∀ (v5_6 : Int64), ∀ (v7_6 : Int64), ((0 ≤ v5_6.toInt ∧ v5_6.toInt ≤ 100) ∧ (0 ≤ v7_6.toInt ∧ v7_6.toInt ≤ 100) ∧ (0 < v5_6.toInt ∨ 0 < v7_6.toInt)) → v7_6.toInt.toNat < n → (lp_X4_told_6 p1 p2 p3 n v5_6 v7_6) = res6 → (∀ (v5_6e : Int64), (0 < v5_6e.toInt ∧ v5_6e.toInt ≤ 100) → res6 = v5_6e → ∀ ls : Array Slot, lv_has ls 11 [(0, .long p1), (2, .long p2), (4, .int p3), (5, .long v5_6e)] → W p l e (headSpec wsX4_told ({ frames := 0, cells := 0, slots := 0, locals := 0 })).room s m ([.long p1, .long p2, .int p3] : List Value).toArray below meth c s.heap [] 0 0 (MQ below (Q0l T) ([.long p1, .long p2, .int p3] : List Value).toArray s 0 0 N0) (F0 m 31 ls [])) → ∀ ls : Array Slot, lv_has ls 11 [(0, .long p1), (2, .long p2), (4, .int p3), (5, .long v5_6), (7, .long v7_6)] → W p l e (headSpec wsX4_told ({ frames := 0, cells := 0, slots := 0, locals := 0 })).room s m ([.long p1, .long p2, .int p3] : List Value).toArray below meth c s.heap [] 0 0 (MQ below (Q0l T) ([.long p1, .long p2, .int p3] : List Value).toArray s 0 0 N0) (F0 m 6 ls []) := by
    intro n
    induction n with
    | zero => intro _ _ _ _ hm; exact absurd hm (Nat.not_lt_zero _)
    | succ n ih6 =>
      intro res6 v5_6 v7_6 hI6 hm6 hG hex6 ls hl
      obtain ⟨i6_0, i6_1, i6_2⟩ := id hI6
      rw [lp_X4_told_6] at hG
      have zl0 : (0 : Int64).toInt = 0 := by decide
      refine lv_lload hx hb dX4_told_6 (lv_at hl 4 rfl) ?_
      refine lv_lconst (v := 0) hx hb dX4_told_8 (by decide) ?_
      refine W.lcmp hx hb dX4_told_9 ?_
      refine lv_if_eq (tgt := 31) hx hb dX4_told_10 (by decide) (fun c10 => ?_) (fun c10 => ?_)
      · rw [if_pos c10] at hG
        have q7 := lgc_eq c10
        exact hex6 v5_6 (by omega) hG.symm ls (lv_sub hl [0, 1, 2, 3] rfl)
      · rw [if_neg c10] at hG
        have q7 := lgc_ne c10
        refine lv_lload hx hb dX4_told_13 (lv_at hl 3 rfl) ?_
        refine lv_lload hx hb dX4_told_15 (lv_at hl 4 rfl) ?_
        refine lv_lrem hx hb dX4_told_17 (fun q => q7 (congrArg Int64.toInt q)) ?_
        refine lv_lstore (lv' := [(9, .long (v5_6 - (v5_6 / v7_6) * v7_6)), (0, .long p1), (2, .long p2), (4, .int p3), (5, .long v5_6), (7, .long v7_6)]) hx hb dX4_told_18 hl (by decide) rfl (fun ls hl => ?_)
        refine lv_lload hx hb dX4_told_20 (lv_at hl 5 rfl) ?_
        refine lv_lstore (lv' := [(5, .long v7_6), (9, .long (v5_6 - (v5_6 / v7_6) * v7_6)), (0, .long p1), (2, .long p2), (4, .int p3), (7, .long v7_6)]) hx hb dX4_told_22 hl (by decide) rfl (fun ls hl => ?_)
        refine lv_lload hx hb dX4_told_24 (lv_at hl 1 rfl) ?_
        refine lv_lstore (lv' := [(7, .long (v5_6 - (v5_6 / v7_6) * v7_6)), (5, .long v7_6), (9, .long (v5_6 - (v5_6 / v7_6) * v7_6)), (0, .long p1), (2, .long p2), (4, .int p3)]) hx hb dX4_told_26 hl (by decide) rfl (fun ls hl => ?_)
        refine lv_goto (tgt := 6) hx hb dX4_told_28 (by decide) ?_
        have r7 := lrem_in (a := v5_6) (b := v7_6) (by omega) (by omega)
        exact ih6 _ v7_6 (v5_6 - (v5_6 / v7_6) * v7_6) ⟨(by omega), (by omega), (by omega)⟩ (by omega) hG hex6 ls (lv_sub hl [3, 4, 5, 1, 0] rfl)
  refine L6 200 _ p1 p2 ⟨(by omega), (by omega), (by omega)⟩ (by omega) rfl (fun v5_6e x6_0 hr6 ls hl => ?_) ls (lv_sub hl [2, 3, 4, 1, 0] rfl)
  rw [hr6] at hG
  refine lv_iload hx hb dX4_told_31 (lv_at hl 2 rfl) ?_
  refine lv_if_ne (tgt := 40) hx hb dX4_told_33 (by decide) (fun c33 => ?_) (fun c33 => ?_)
  · have t33 : p3.toInt ≠ 0 := qt_ne c33
    rw [if_neg c33] at hG
    refine lv_lload_n hx hb dX4_told_40 rfl (lv_at hl 1 rfl) ?_
    refine lv_lload hx hb dX4_told_41 (lv_at hl 3 rfl) ?_
    refine lv_ldiv hx hb dX4_told_43 (nzl_of x6_0.1) ?_
    exact end0l S hr hlocks hG dX4_told_44
  · have t33 : p3.toInt = 0 := qt_eq c33
    rw [if_pos c33] at hG
    refine lv_lload_n hx hb dX4_told_36 rfl (lv_at hl 0 rfl) ?_
    refine lv_goto (tgt := 41) hx hb dX4_told_37 (by decide) ?_
    refine lv_lload hx hb dX4_told_41 (lv_at hl 3 rfl) ?_
    refine lv_ldiv hx hb dX4_told_43 (nzl_of x6_0.1) ?_
    exact end0l S hr hlocks hG dX4_told_44
set_option maxHeartbeats 4000000 in
set_option maxRecDepth 100000 in
theorem c_X4_refused (l : Launch) (ad : Nat → Nat) (D : va_G) (sz : Nat) (σ : St) (p1 : Int32) : Met l yX4_refused wsX4_refused ({ frames := 0, cells := 0, slots := 0, locals := 0 }) (PreW 18 (eM ad) ad D (tyM ad) σ sz ([.ref (ad 0), .int p1] : List Value)) (QWi 18 (eM ad) ad D (f_X4_refused σ p1) (CA 18 ad sz)) 0 0 (CA 18 ad sz) := by
  generalize hG : f_X4_refused σ p1 = T
  refine headW (cc := cX4_refused) (maxL := 2) (ret := (some .int)) ([.ref (ad 0), .int p1] : List Value) (by decide) rfl (Nat.le_of_ble_eq_true rfl) ?_
  intro p e s m below meth c S hr hlocks hK hN hsz w ls hl
  have S : CallFix p m c cX4_refused 2 s ([.ref (ad 0), .int p1] : List Value).toArray wsX4_refused RX4 := S
  have hx := S.1
  have hb := S.2.1
  have z0 : (0 : Int32).toInt = 0 := by decide
  have z1 : (1 : Int32).toInt = 1 := by decide
  have hl : lv_has ls 2 [(0, .ref (ad 0)), (1, .int p1)] := hl
  have hinX4 : ∀ w ∈ wsX40, w ∈ wsX4_refused := (fun _ h => List.mem_cons_of_mem _ (List.mem_append_right _ h))
  rw [f_X4_refused] at hG
  refine lv_aload_n hx hb dX4_refused_0 rfl (lv_at hl 0 rfl) ?_
  refine lv_iconst (v := 0) hx hb dX4_refused_1 (by decide) ?_
  refine r_put (C := RX4) (T := TX4) (N := 25) S hK w (k := 0) (by decide) (eM_0 ad _) rfl hinX4 tyX4 tyX4_ok nmX4 0 (by decide) (List.mem_of_getElem? (i := 1) rfl) rfl (x := 0) (ty := .int) (by decide +kernel) rfl rfl (by show _ < List.length _; exact Nat.le_of_ble_eq_true rfl) (sM ad _ _ 0 (by decide)) dX4_refused_2 (fun H locs w => ?_)
  refine lv_iload_n hx hb dX4_refused_5 rfl (lv_at hl 1 rfl) ?_
  exact endWi S hr hlocks w hG dX4_refused_6
set_option maxHeartbeats 4000000 in
set_option maxRecDepth 100000 in
theorem c_X4_failed (l : Launch) (ad : Nat → Nat) (D : va_G) (sz : Nat) (σ : St) (p1 : Int32) : Met l yX4_failed wsX4_failed ({ frames := 0, cells := 0, slots := 0, locals := 0 }) (PreW 18 (eM ad) ad D (tyM ad) σ sz ([.ref (ad 0), .int p1] : List Value)) (QWi 18 (eM ad) ad D (f_X4_failed σ p1) (CA 18 ad sz)) 0 0 (CA 18 ad sz) := by
  generalize hG : f_X4_failed σ p1 = T
  refine headW (cc := cX4_failed) (maxL := 2) (ret := (some .int)) ([.ref (ad 0), .int p1] : List Value) (by decide) rfl (Nat.le_of_ble_eq_true rfl) ?_
  intro p e s m below meth c S hr hlocks hK hN hsz w ls hl
  have S : CallFix p m c cX4_failed 2 s ([.ref (ad 0), .int p1] : List Value).toArray wsX4_failed RX4 := S
  have hx := S.1
  have hb := S.2.1
  have z0 : (0 : Int32).toInt = 0 := by decide
  have z1 : (1 : Int32).toInt = 1 := by decide
  have hl : lv_has ls 2 [(0, .ref (ad 0)), (1, .int p1)] := hl
  have hinX4 : ∀ w ∈ wsX40, w ∈ wsX4_failed := (fun _ h => List.mem_cons_of_mem _ (List.mem_append_right _ h))
  rw [f_X4_failed] at hG
  refine lv_aload_n hx hb dX4_failed_0 rfl (lv_at hl 0 rfl) ?_
  refine lv_iload_n hx hb dX4_failed_1 rfl (lv_at hl 1 rfl) ?_
  refine r_put (C := RX4) (T := TX4) (N := 25) S hK w (k := 0) (by decide) (eM_0 ad _) rfl hinX4 tyX4 tyX4_ok nmX4 0 (by decide) (List.mem_of_getElem? (i := 1) rfl) rfl (x := p1) (ty := .int) (by decide +kernel) rfl rfl (by show _ < List.length _; exact Nat.le_of_ble_eq_true rfl) (sM ad _ _ 0 (by decide)) dX4_failed_2 (fun H locs w => ?_)
  refine lv_bipush (v := (-10)) hx hb dX4_failed_5 (by decide) ?_
  refine lv_iload_n hx hb dX4_failed_7 rfl (lv_at hl 1 rfl) ?_
  refine lv_isub hx hb dX4_failed_8 ?_
  exact endWi S hr hlocks w hG dX4_failed_9
set_option maxHeartbeats 4000000 in
set_option maxRecDepth 100000 in
theorem c_X4_failedLong (l : Launch) (ad : Nat → Nat) (D : va_G) (sz : Nat) (σ : St) (p1 : Int32) : Met l yX4_failedLong wsX4_failedLong ({ frames := 1, cells := 0, slots := 0, locals := 19 }) (PreW 18 (eM ad) ad D (tyM ad) σ sz ([.ref (ad 0), .int p1] : List Value)) (QWl 18 (eM ad) ad D (f_X4_failedLong σ p1) (CA 18 ad sz)) 0 0 (CA 18 ad sz) := by
  generalize hG : f_X4_failedLong σ p1 = T
  refine headW (cc := cX4_failedLong) (maxL := 2) (ret := (some .long)) ([.ref (ad 0), .int p1] : List Value) (by decide) rfl (Nat.le_of_ble_eq_true rfl) ?_
  intro p e s m below meth c S hr hlocks hK hN hsz w ls hl
  have S : CallFix p m c cX4_failedLong 2 s ([.ref (ad 0), .int p1] : List Value).toArray wsX4_failedLong RX4 := S
  have hx := S.1
  have hb := S.2.1
  have z0 : (0 : Int32).toInt = 0 := by decide
  have z1 : (1 : Int32).toInt = 1 := by decide
  have hl : lv_has ls 2 [(0, .ref (ad 0)), (1, .int p1)] := hl
  have hinX4 : ∀ w ∈ wsX40, w ∈ wsX4_failedLong := (fun _ h => List.mem_cons_of_mem _ (List.mem_append_right _ h))
  rw [f_X4_failedLong] at hG
  refine lv_aload_n hx hb dX4_failedLong_0 rfl (lv_at hl 0 rfl) ?_
  refine lv_iload_n hx hb dX4_failedLong_1 rfl (lv_at hl 1 rfl) ?_
  refine r_put (C := RX4) (T := TX4) (N := 25) S hK w (k := 0) (by decide) (eM_0 ad _) rfl hinX4 tyX4 tyX4_ok nmX4 0 (by decide) (List.mem_of_getElem? (i := 1) rfl) rfl (x := p1) (ty := .int) (by decide +kernel) rfl rfl (by show _ < List.length _; exact Nat.le_of_ble_eq_true rfl) (sM ad _ _ 0 (by decide)) dX4_failedLong_2 (fun H locs w => ?_)
  refine call0l (va_runS (As := []) (rest := []) S (c_X4_lost l) (va_cwS 0 S.2.2.2.2 gX4_failedLong_X4_lost rfl rfl rfl hd_X4_lost ⟨Nat.le_of_ble_eq_true rfl, Nat.le_of_ble_eq_true rfl⟩) pre0S rfl rfl hl.1 rfl (lv_room (Nat.le_of_ble_eq_true rfl)) dX4_failedLong_5 ⟨Nat.zero_le _, Nat.zero_le _⟩) ?_
  exact endWl S hr hlocks w hG dX4_failedLong_8
set_option maxHeartbeats 4000000 in
set_option maxRecDepth 100000 in
theorem c_X4_noSheet (l : Launch) (p1 : Int32) : Met l yX4_noSheet wsX4_noSheet ({ frames := 1, cells := 0, slots := 0, locals := 25 }) (Pre0 ([.int p1] : List Value)) (Q0i (f_X4_noSheet p1)) 0 0 N0 := by
  generalize hG : f_X4_noSheet p1 = T
  refine head0 (cc := cX4_noSheet) (maxL := 1) (ret := (some .boolean)) ([.int p1] : List Value) (by decide) rfl (Nat.le_of_ble_eq_true rfl) ?_
  intro p e s m below meth c S hr hlocks ls hl
  have S : CallFix p m c cX4_noSheet 1 s ([.int p1] : List Value).toArray wsX4_noSheet RX4 := S
  have hx := S.1
  have hb := S.2.1
  have z0 : (0 : Int32).toInt = 0 := by decide
  have z1 : (1 : Int32).toInt = 1 := by decide
  have hl : lv_has ls 1 [(0, .int p1)] := hl
  rw [f_X4_noSheet] at hG
  refine lv_iload_n hx hb dX4_noSheet_0 rfl (lv_at hl 0 rfl) ?_
  refine lv_i2l hx hb dX4_noSheet_1 rfl ?_
  refine lv_lconst (v := 0) hx hb dX4_noSheet_2 (by decide) ?_
  refine lv_ldc2 hx hb S.2.2.2.1 (S.2.2.2.2 _ (List.mem_of_getElem? (i := 1) rfl)) dX4_noSheet_3 ?_
  refine call0i (va_runS (As := [.long p1.toInt64, .long 0, .long 3]) (rest := []) S (c_X4_in l p1.toInt64 0 3) (va_cwS 3 S.2.2.2.2 gX4_noSheet_X4_in rfl rfl rfl hd_X4_in ⟨Nat.le_of_ble_eq_true rfl, Nat.le_of_ble_eq_true rfl⟩) pre0S rfl rfl hl.1 rfl (lv_room (Nat.le_of_ble_eq_true rfl)) dX4_noSheet_6 ⟨Nat.zero_le _, Nat.zero_le _⟩) ?_
  refine lv_if_ne (tgt := 16) hx hb dX4_noSheet_9 (by decide) (fun c9 => ?_) (fun c9 => ?_)
  · have t9 := bf_in_n c9
    rw [if_neg c9] at hG
    refine lv_iconst (v := 0) hx hb dX4_noSheet_16 (by decide) ?_
    exact end0z S hr hlocks (Or.inl rfl) hG dX4_noSheet_17
  · rw [if_pos c9] at hG
    refine lv_iconst (v := 1) hx hb dX4_noSheet_12 (by decide) ?_
    refine lv_goto (tgt := 17) hx hb dX4_noSheet_13 (by decide) ?_
    exact end0z S hr hlocks (Or.inr rfl) hG dX4_noSheet_17
set_option maxHeartbeats 4000000 in
set_option maxRecDepth 100000 in
theorem c_X4_isBeyond (l : Launch) (p1 : Int32) (p2 : Int64) (p3 : Int32) : Met l yX4_isBeyond wsX4_isBeyond ({ frames := 0, cells := 0, slots := 0, locals := 0 }) (Pre0 ([.int p1, .long p2, .int p3] : List Value)) (Q0i (f_X4_isBeyond p1 p2 p3)) 0 0 N0 := by
  generalize hG : f_X4_isBeyond p1 p2 p3 = T
  refine head0 (cc := cX4_isBeyond) (maxL := 4) (ret := (some .boolean)) ([.int p1, .long p2, .int p3] : List Value) (by decide) rfl (Nat.le_of_ble_eq_true rfl) ?_
  intro p e s m below meth c S hr hlocks ls hl
  have S : CallFix p m c cX4_isBeyond 4 s ([.int p1, .long p2, .int p3] : List Value).toArray wsX4_isBeyond RX4 := S
  have hx := S.1
  have hb := S.2.1
  have z0 : (0 : Int32).toInt = 0 := by decide
  have z1 : (1 : Int32).toInt = 1 := by decide
  have hl : lv_has ls 4 [(0, .int p1), (1, .long p2), (3, .int p3)] := hl
  rw [f_X4_isBeyond] at hG
  refine lv_iload_n hx hb dX4_isBeyond_0 rfl (lv_at hl 0 rfl) ?_
  refine lv_if_lt (tgt := 20) hx hb dX4_isBeyond_1 (by decide) (fun c1 => ?_) (fun c1 => ?_)
  · have t1 : p1.toInt < 0 := qt_lt c1
    rw [if_pos c1] at hG
    refine lv_iconst (v := 1) hx hb dX4_isBeyond_20 (by decide) ?_
    refine lv_goto (tgt := 25) hx hb dX4_isBeyond_21 (by decide) ?_
    exact end0z S hr hlocks (Or.inr rfl) hG dX4_isBeyond_25
  · have t1 : 0 ≤ p1.toInt := qt_nlt c1
    rw [if_neg c1] at hG
    refine lv_lload_n hx hb dX4_isBeyond_4 rfl (lv_at hl 1 rfl) ?_
    refine lv_lconst (v := 0) hx hb dX4_isBeyond_5 (by decide) ?_
    refine W.lcmp hx hb dX4_isBeyond_6 ?_
    refine lv_if_lt (tgt := 20) hx hb dX4_isBeyond_7 (by decide) (fun c7 => ?_) (fun c7 => ?_)
    · rw [if_pos c7] at hG
      refine lv_iconst (v := 1) hx hb dX4_isBeyond_20 (by decide) ?_
      refine lv_goto (tgt := 25) hx hb dX4_isBeyond_21 (by decide) ?_
      exact end0z S hr hlocks (Or.inr rfl) hG dX4_isBeyond_25
    · rw [if_neg c7] at hG
      refine lv_iload_n hx hb dX4_isBeyond_10 rfl (lv_at hl 0 rfl) ?_
      refine lv_i2l hx hb dX4_isBeyond_11 rfl ?_
      refine lv_lload_n hx hb dX4_isBeyond_12 rfl (lv_at hl 1 rfl) ?_
      refine lv_ladd hx hb dX4_isBeyond_13 ?_
      refine lv_iload_n hx hb dX4_isBeyond_14 rfl (lv_at hl 2 rfl) ?_
      refine lv_i2l hx hb dX4_isBeyond_15 rfl ?_
      refine W.lcmp hx hb dX4_isBeyond_16 ?_
      refine lv_if_le (tgt := 24) hx hb dX4_isBeyond_17 (by decide) (fun c17 => ?_) (fun c17 => ?_)
      · rw [if_pos c17] at hG
        refine lv_iconst (v := 0) hx hb dX4_isBeyond_24 (by decide) ?_
        exact end0z S hr hlocks (Or.inl rfl) hG dX4_isBeyond_25
      · rw [if_neg c17] at hG
        refine lv_iconst (v := 1) hx hb dX4_isBeyond_20 (by decide) ?_
        refine lv_goto (tgt := 25) hx hb dX4_isBeyond_21 (by decide) ?_
        exact end0z S hr hlocks (Or.inr rfl) hG dX4_isBeyond_25
set_option maxHeartbeats 4000000 in
set_option maxRecDepth 100000 in
theorem c_X4_barred (l : Launch) (ad : Nat → Nat) (D : va_G) (sz : Nat) (σ : St) (p1 : Int32) (p2 : Int32) (p3 : Int32) (p4 : Int64) : Met l yX4_barred wsX4_barred ({ frames := 2, cells := 0, slots := 0, locals := 45 }) (PreW 18 (eM ad) ad D (tyM ad) σ sz ([.ref (ad 0), .int p1, .int p2, .int p3, .long p4] : List Value)) (QWi 18 (eM ad) ad D (f_X4_barred σ p1 p2 p3 p4) (CA 18 ad sz)) 0 0 (CA 18 ad sz) := by
  generalize hG : f_X4_barred σ p1 p2 p3 p4 = T
  refine headW (cc := cX4_barred) (maxL := 6) (ret := (some .int)) ([.ref (ad 0), .int p1, .int p2, .int p3, .long p4] : List Value) (by decide) rfl (Nat.le_of_ble_eq_true rfl) ?_
  intro p e s m below meth c S hr hlocks hK hN hsz w ls hl
  have S : CallFix p m c cX4_barred 6 s ([.ref (ad 0), .int p1, .int p2, .int p3, .long p4] : List Value).toArray wsX4_barred RX4 := S
  have hx := S.1
  have hb := S.2.1
  have z0 : (0 : Int32).toInt = 0 := by decide
  have z1 : (1 : Int32).toInt = 1 := by decide
  have hl : lv_has ls 6 [(0, .ref (ad 0)), (1, .int p1), (2, .int p2), (3, .int p3), (4, .long p4)] := hl
  have hinX4 : ∀ w ∈ wsX40, w ∈ wsX4_barred := (fun _ h => List.mem_cons_of_mem _ (List.mem_append_right _ h))
  rw [f_X4_barred] at hG
  refine lv_iload_n hx hb dX4_barred_0 rfl (lv_at hl 1 rfl) ?_
  refine call0i (va_runS (As := [.int p1]) (rest := []) S (c_X4_noSheet l p1) (va_cwS 1 S.2.2.2.2 gX4_barred_X4_noSheet rfl rfl rfl hd_X4_noSheet ⟨Nat.le_of_ble_eq_true rfl, Nat.le_of_ble_eq_true rfl⟩) pre0S rfl rfl hl.1 rfl (lv_room (Nat.le_of_ble_eq_true rfl)) dX4_barred_1 ⟨Nat.zero_le _, Nat.zero_le _⟩) ?_
  refine lv_if_eq (tgt := 13) hx hb dX4_barred_4 (by decide) (fun c4 => ?_) (fun c4 => ?_)
  · have t4 := bf_noSheet_z c4
    rw [if_pos c4] at hG
    refine lv_iload_n hx hb dX4_barred_13 rfl (lv_at hl 2 rfl) ?_
    refine lv_i2l hx hb dX4_barred_14 rfl ?_
    refine lv_lconst (v := 0) hx hb dX4_barred_15 (by decide) ?_
    refine lv_ldc2 hx hb S.2.2.2.1 (S.2.2.2.2 _ (List.mem_of_getElem? (i := 1) rfl)) dX4_barred_16 ?_
    refine call0i (va_runS (As := [.long p2.toInt64, .long 0, .long 2]) (rest := []) S (c_X4_in l p2.toInt64 0 2) (va_cwS 3 S.2.2.2.2 gX4_barred_X4_in rfl rfl rfl hd_X4_in ⟨Nat.le_of_ble_eq_true rfl, Nat.le_of_ble_eq_true rfl⟩) pre0S rfl rfl hl.1 rfl (lv_room (Nat.le_of_ble_eq_true rfl)) dX4_barred_19 ⟨Nat.zero_le _, Nat.zero_le _⟩) ?_
    refine lv_if_ne (tgt := 32) hx hb dX4_barred_22 (by decide) (fun c22 => ?_) (fun c22 => ?_)
    · have t22 := bf_in_n c22
      rw [if_neg c22] at hG
      refine lv_aload_n hx hb dX4_barred_32 rfl (lv_at hl 0 rfl) ?_
      refine r_get (C := RX4) (T := TX4) (N := 25) S hK w (k := 0) (by decide) (eM_0 ad _) rfl hinX4 20 (by decide) (List.mem_of_getElem? (i := 2) rfl) rfl dX4_barred_33 ?_
      refine lv_iload_n hx hb dX4_barred_36 rfl (lv_at hl 1 rfl) ?_
      have g37 : vp_in p1 4 := vpi (by omega) (by omega)
      refine r_iald (cA := ad 100) (N := 4) S hK w (k := 14) (by decide) (fun f => rfl) rfl g37 dX4_barred_37 ?_
      refine lv_if_lt (tgt := 57) hx hb dX4_barred_38 (by decide) (fun c38 => ?_) (fun c38 => ?_)
      · have t38 : (σ 14 (ix p1)).toInt < 0 := qt_lt c38
        rw [if_pos c38] at hG
        refine lv_aload_n hx hb dX4_barred_57 rfl (lv_at hl 0 rfl) ?_
        refine r_get (C := RX4) (T := TX4) (N := 25) S hK w (k := 0) (by decide) (eM_0 ad _) rfl hinX4 20 (by decide) (List.mem_of_getElem? (i := 2) rfl) rfl dX4_barred_58 ?_
        refine lv_iload_n hx hb dX4_barred_61 rfl (lv_at hl 1 rfl) ?_
        have g62 : vp_in p1 4 := vpi (by omega) (by omega)
        refine r_iald (cA := ad 100) (N := 4) S hK w (k := 14) (by decide) (fun f => rfl) rfl g62 dX4_barred_62 ?_
        refine lv_if_ge (tgt := 72) hx hb dX4_barred_63 (by decide) (fun c63 => ?_) (fun c63 => ?_)
        · have t63 : 0 ≤ (σ 14 (ix p1)).toInt := qt_le c63
          rw [if_pos c63] at hG
          refine lv_lload hx hb dX4_barred_72 (lv_at hl 4 rfl) ?_
          refine lv_lconst (v := 0) hx hb dX4_barred_74 (by decide) ?_
          refine W.lcmp hx hb dX4_barred_75 ?_
          refine lv_if_ge (tgt := 85) hx hb dX4_barred_76 (by decide) (fun c76 => ?_) (fun c76 => ?_)
          · rw [if_pos c76] at hG
            refine lv_iload_n hx hb dX4_barred_85 rfl (lv_at hl 3 rfl) ?_
            refine lv_lload hx hb dX4_barred_86 (lv_at hl 4 rfl) ?_
            refine lv_aload_n hx hb dX4_barred_88 rfl (lv_at hl 0 rfl) ?_
            refine r_get (C := RX4) (T := TX4) (N := 25) S hK w (k := 0) (by decide) (eM_0 ad _) rfl hinX4 20 (by decide) (List.mem_of_getElem? (i := 2) rfl) rfl dX4_barred_89 ?_
            refine lv_iload_n hx hb dX4_barred_92 rfl (lv_at hl 1 rfl) ?_
            have g93 : vp_in p1 4 := vpi (by omega) (by omega)
            refine r_iald (cA := ad 100) (N := 4) S hK w (k := 14) (by decide) (fun f => rfl) rfl g93 dX4_barred_93 ?_
            refine call0i (va_runS (As := [.int p3, .long p4, .int (σ 14 (ix p1))]) (rest := []) S (c_X4_isBeyond l p3 p4 (σ 14 (ix p1))) (va_cwS 3 S.2.2.2.2 gX4_barred_X4_isBeyond rfl rfl rfl hd_X4_isBeyond ⟨Nat.le_of_ble_eq_true rfl, Nat.le_of_ble_eq_true rfl⟩) pre0S rfl rfl hl.1 rfl (lv_room (Nat.le_of_ble_eq_true rfl)) dX4_barred_94 ⟨Nat.zero_le _, Nat.zero_le _⟩) ?_
            refine lv_if_eq (tgt := 108) hx hb dX4_barred_97 (by decide) (fun c97 => ?_) (fun c97 => ?_)
            · have t97 := bf_isBeyond_z c97
              rw [if_pos c97] at hG
              refine lv_iconst (v := 0) hx hb dX4_barred_108 (by decide) ?_
              exact endWi S hr hlocks w hG dX4_barred_109
            · rw [if_neg c97] at hG
              refine lv_aload_n hx hb dX4_barred_100 rfl (lv_at hl 0 rfl) ?_
              refine lv_iconst (v := 3) hx hb dX4_barred_101 (by decide) ?_
              refine callWi w (va_runV (As := [.int 3]) (rest := []) S (c_X4_failed l ad D s.heap.size σ 3) (cwV 1 S.2.2.2.2 gX4_barred_X4_failed rfl rfl rfl ⟨rfl, hd_X4_failed⟩ ⟨Nat.le_of_ble_eq_true rfl, Nat.le_of_ble_eq_true rfl⟩) (preV hK hN w (k := 0) (by decide) (eM_0 ad _) (q := (RX4, TX4, 25)) rfl) rfl rfl hl.1 rfl (lv_room (Nat.le_of_ble_eq_true rfl)) dX4_barred_102 ⟨Nat.zero_le _, Nat.zero_le _⟩) (fun H locs w => ?_)
              refine lv_goto (tgt := 109) hx hb dX4_barred_105 (by decide) ?_
              exact endWi S hr hlocks w hG dX4_barred_109
          · rw [if_neg c76] at hG
            refine lv_aload_n hx hb dX4_barred_79 rfl (lv_at hl 0 rfl) ?_
            refine lv_iconst (v := 4) hx hb dX4_barred_80 (by decide) ?_
            refine callWi w (va_runV (As := [.int 4]) (rest := []) S (c_X4_failed l ad D s.heap.size σ 4) (cwV 1 S.2.2.2.2 gX4_barred_X4_failed rfl rfl rfl ⟨rfl, hd_X4_failed⟩ ⟨Nat.le_of_ble_eq_true rfl, Nat.le_of_ble_eq_true rfl⟩) (preV hK hN w (k := 0) (by decide) (eM_0 ad _) (q := (RX4, TX4, 25)) rfl) rfl rfl hl.1 rfl (lv_room (Nat.le_of_ble_eq_true rfl)) dX4_barred_81 ⟨Nat.zero_le _, Nat.zero_le _⟩) (fun H locs w => ?_)
            exact endWi S hr hlocks w hG dX4_barred_84
        · have t63 : (σ 14 (ix p1)).toInt < 0 := qt_nle c63
          rw [if_neg c63] at hG
          refine lv_aload_n hx hb dX4_barred_66 rfl (lv_at hl 0 rfl) ?_
          refine lv_iconst (v := 1) hx hb dX4_barred_67 (by decide) ?_
          refine callWi w (va_runV (As := [.int 1]) (rest := []) S (c_X4_failed l ad D s.heap.size σ 1) (cwV 1 S.2.2.2.2 gX4_barred_X4_failed rfl rfl rfl ⟨rfl, hd_X4_failed⟩ ⟨Nat.le_of_ble_eq_true rfl, Nat.le_of_ble_eq_true rfl⟩) (preV hK hN w (k := 0) (by decide) (eM_0 ad _) (q := (RX4, TX4, 25)) rfl) rfl rfl hl.1 rfl (lv_room (Nat.le_of_ble_eq_true rfl)) dX4_barred_68 ⟨Nat.zero_le _, Nat.zero_le _⟩) (fun H locs w => ?_)
          exact endWi S hr hlocks w hG dX4_barred_71
      · have t38 : 0 ≤ (σ 14 (ix p1)).toInt := qt_nlt c38
        rw [if_neg c38] at hG
        refine lv_aload_n hx hb dX4_barred_41 rfl (lv_at hl 0 rfl) ?_
        refine r_get (C := RX4) (T := TX4) (N := 25) S hK w (k := 0) (by decide) (eM_0 ad _) rfl hinX4 21 (by decide) (List.mem_of_getElem? (i := 3) rfl) rfl dX4_barred_42 ?_
        refine lv_iload_n hx hb dX4_barred_45 rfl (lv_at hl 1 rfl) ?_
        have g46 : vp_in p1 4 := vpi (by omega) (by omega)
        refine r_iald (cA := ad 100) (N := 4) S hK w (k := 15) (by decide) (fun f => rfl) rfl g46 dX4_barred_46 ?_
        refine lv_iload_n hx hb dX4_barred_47 rfl (lv_at hl 2 rfl) ?_
        refine lv_icmp_eq (tgt := 57) hx hb dX4_barred_48 (by decide) (fun c48 => ?_) (fun c48 => ?_)
        · have t48 : (σ 15 (ix p1)).toInt = p2.toInt := qt_eq c48
          rw [if_pos c48] at hG
          refine lv_aload_n hx hb dX4_barred_57 rfl (lv_at hl 0 rfl) ?_
          refine r_get (C := RX4) (T := TX4) (N := 25) S hK w (k := 0) (by decide) (eM_0 ad _) rfl hinX4 20 (by decide) (List.mem_of_getElem? (i := 2) rfl) rfl dX4_barred_58 ?_
          refine lv_iload_n hx hb dX4_barred_61 rfl (lv_at hl 1 rfl) ?_
          have g62 : vp_in p1 4 := vpi (by omega) (by omega)
          refine r_iald (cA := ad 100) (N := 4) S hK w (k := 14) (by decide) (fun f => rfl) rfl g62 dX4_barred_62 ?_
          refine lv_if_ge (tgt := 72) hx hb dX4_barred_63 (by decide) (fun c63 => ?_) (fun c63 => ?_)
          · have t63 : 0 ≤ (σ 14 (ix p1)).toInt := qt_le c63
            rw [if_pos c63] at hG
            refine lv_lload hx hb dX4_barred_72 (lv_at hl 4 rfl) ?_
            refine lv_lconst (v := 0) hx hb dX4_barred_74 (by decide) ?_
            refine W.lcmp hx hb dX4_barred_75 ?_
            refine lv_if_ge (tgt := 85) hx hb dX4_barred_76 (by decide) (fun c76 => ?_) (fun c76 => ?_)
            · rw [if_pos c76] at hG
              refine lv_iload_n hx hb dX4_barred_85 rfl (lv_at hl 3 rfl) ?_
              refine lv_lload hx hb dX4_barred_86 (lv_at hl 4 rfl) ?_
              refine lv_aload_n hx hb dX4_barred_88 rfl (lv_at hl 0 rfl) ?_
              refine r_get (C := RX4) (T := TX4) (N := 25) S hK w (k := 0) (by decide) (eM_0 ad _) rfl hinX4 20 (by decide) (List.mem_of_getElem? (i := 2) rfl) rfl dX4_barred_89 ?_
              refine lv_iload_n hx hb dX4_barred_92 rfl (lv_at hl 1 rfl) ?_
              have g93 : vp_in p1 4 := vpi (by omega) (by omega)
              refine r_iald (cA := ad 100) (N := 4) S hK w (k := 14) (by decide) (fun f => rfl) rfl g93 dX4_barred_93 ?_
              refine call0i (va_runS (As := [.int p3, .long p4, .int (σ 14 (ix p1))]) (rest := []) S (c_X4_isBeyond l p3 p4 (σ 14 (ix p1))) (va_cwS 3 S.2.2.2.2 gX4_barred_X4_isBeyond rfl rfl rfl hd_X4_isBeyond ⟨Nat.le_of_ble_eq_true rfl, Nat.le_of_ble_eq_true rfl⟩) pre0S rfl rfl hl.1 rfl (lv_room (Nat.le_of_ble_eq_true rfl)) dX4_barred_94 ⟨Nat.zero_le _, Nat.zero_le _⟩) ?_
              refine lv_if_eq (tgt := 108) hx hb dX4_barred_97 (by decide) (fun c97 => ?_) (fun c97 => ?_)
              · have t97 := bf_isBeyond_z c97
                rw [if_pos c97] at hG
                refine lv_iconst (v := 0) hx hb dX4_barred_108 (by decide) ?_
                exact endWi S hr hlocks w hG dX4_barred_109
              · rw [if_neg c97] at hG
                refine lv_aload_n hx hb dX4_barred_100 rfl (lv_at hl 0 rfl) ?_
                refine lv_iconst (v := 3) hx hb dX4_barred_101 (by decide) ?_
                refine callWi w (va_runV (As := [.int 3]) (rest := []) S (c_X4_failed l ad D s.heap.size σ 3) (cwV 1 S.2.2.2.2 gX4_barred_X4_failed rfl rfl rfl ⟨rfl, hd_X4_failed⟩ ⟨Nat.le_of_ble_eq_true rfl, Nat.le_of_ble_eq_true rfl⟩) (preV hK hN w (k := 0) (by decide) (eM_0 ad _) (q := (RX4, TX4, 25)) rfl) rfl rfl hl.1 rfl (lv_room (Nat.le_of_ble_eq_true rfl)) dX4_barred_102 ⟨Nat.zero_le _, Nat.zero_le _⟩) (fun H locs w => ?_)
                refine lv_goto (tgt := 109) hx hb dX4_barred_105 (by decide) ?_
                exact endWi S hr hlocks w hG dX4_barred_109
            · rw [if_neg c76] at hG
              refine lv_aload_n hx hb dX4_barred_79 rfl (lv_at hl 0 rfl) ?_
              refine lv_iconst (v := 4) hx hb dX4_barred_80 (by decide) ?_
              refine callWi w (va_runV (As := [.int 4]) (rest := []) S (c_X4_failed l ad D s.heap.size σ 4) (cwV 1 S.2.2.2.2 gX4_barred_X4_failed rfl rfl rfl ⟨rfl, hd_X4_failed⟩ ⟨Nat.le_of_ble_eq_true rfl, Nat.le_of_ble_eq_true rfl⟩) (preV hK hN w (k := 0) (by decide) (eM_0 ad _) (q := (RX4, TX4, 25)) rfl) rfl rfl hl.1 rfl (lv_room (Nat.le_of_ble_eq_true rfl)) dX4_barred_81 ⟨Nat.zero_le _, Nat.zero_le _⟩) (fun H locs w => ?_)
              exact endWi S hr hlocks w hG dX4_barred_84
          · have t63 : (σ 14 (ix p1)).toInt < 0 := qt_nle c63
            rw [if_neg c63] at hG
            refine lv_aload_n hx hb dX4_barred_66 rfl (lv_at hl 0 rfl) ?_
            refine lv_iconst (v := 1) hx hb dX4_barred_67 (by decide) ?_
            refine callWi w (va_runV (As := [.int 1]) (rest := []) S (c_X4_failed l ad D s.heap.size σ 1) (cwV 1 S.2.2.2.2 gX4_barred_X4_failed rfl rfl rfl ⟨rfl, hd_X4_failed⟩ ⟨Nat.le_of_ble_eq_true rfl, Nat.le_of_ble_eq_true rfl⟩) (preV hK hN w (k := 0) (by decide) (eM_0 ad _) (q := (RX4, TX4, 25)) rfl) rfl rfl hl.1 rfl (lv_room (Nat.le_of_ble_eq_true rfl)) dX4_barred_68 ⟨Nat.zero_le _, Nat.zero_le _⟩) (fun H locs w => ?_)
            exact endWi S hr hlocks w hG dX4_barred_71
        · have t48 : (σ 15 (ix p1)).toInt ≠ p2.toInt := qt_ne c48
          rw [if_neg c48] at hG
          refine lv_aload_n hx hb dX4_barred_51 rfl (lv_at hl 0 rfl) ?_
          refine lv_iconst (v := 2) hx hb dX4_barred_52 (by decide) ?_
          refine callWi w (va_runV (As := [.int 2]) (rest := []) S (c_X4_failed l ad D s.heap.size σ 2) (cwV 1 S.2.2.2.2 gX4_barred_X4_failed rfl rfl rfl ⟨rfl, hd_X4_failed⟩ ⟨Nat.le_of_ble_eq_true rfl, Nat.le_of_ble_eq_true rfl⟩) (preV hK hN w (k := 0) (by decide) (eM_0 ad _) (q := (RX4, TX4, 25)) rfl) rfl rfl hl.1 rfl (lv_room (Nat.le_of_ble_eq_true rfl)) dX4_barred_53 ⟨Nat.zero_le _, Nat.zero_le _⟩) (fun H locs w => ?_)
          exact endWi S hr hlocks w hG dX4_barred_56
    · rw [if_pos c22] at hG
      refine lv_aload_n hx hb dX4_barred_25 rfl (lv_at hl 0 rfl) ?_
      refine lv_bipush (v := (-2)) hx hb dX4_barred_26 (by decide) ?_
      refine callWi w (va_runV (As := [.int (-2)]) (rest := []) S (c_X4_refused l ad D s.heap.size σ (-2)) (cwV 1 S.2.2.2.2 gX4_barred_X4_refused rfl rfl rfl ⟨rfl, hd_X4_refused⟩ ⟨Nat.le_of_ble_eq_true rfl, Nat.le_of_ble_eq_true rfl⟩) (preV hK hN w (k := 0) (by decide) (eM_0 ad _) (q := (RX4, TX4, 25)) rfl) rfl rfl hl.1 rfl (lv_room (Nat.le_of_ble_eq_true rfl)) dX4_barred_28 ⟨Nat.zero_le _, Nat.zero_le _⟩) (fun H locs w => ?_)
      exact endWi S hr hlocks w hG dX4_barred_31
  · rw [if_neg c4] at hG
    refine lv_aload_n hx hb dX4_barred_7 rfl (lv_at hl 0 rfl) ?_
    refine lv_iconst (v := (-1)) hx hb dX4_barred_8 (by decide) ?_
    refine callWi w (va_runV (As := [.int (-1)]) (rest := []) S (c_X4_refused l ad D s.heap.size σ (-1)) (cwV 1 S.2.2.2.2 gX4_barred_X4_refused rfl rfl rfl ⟨rfl, hd_X4_refused⟩ ⟨Nat.le_of_ble_eq_true rfl, Nat.le_of_ble_eq_true rfl⟩) (preV hK hN w (k := 0) (by decide) (eM_0 ad _) (q := (RX4, TX4, 25)) rfl) rfl rfl hl.1 rfl (lv_room (Nat.le_of_ble_eq_true rfl)) dX4_barred_9 ⟨Nat.zero_le _, Nat.zero_le _⟩) (fun H locs w => ?_)
    exact endWi S hr hlocks w hG dX4_barred_12
set_option maxHeartbeats 4000000 in
set_option maxRecDepth 100000 in
theorem c_X4_noSign (l : Launch) (ad : Nat → Nat) (D : va_G) (sz : Nat) (σ : St) (p1 : Int32) : Met l yX4_noSign wsX4_noSign ({ frames := 1, cells := 0, slots := 0, locals := 25 }) (PreW 18 (eM ad) ad D (tyM ad) σ sz ([.ref (ad 0), .int p1] : List Value)) (Q0i (f_X4_noSign σ p1)) 0 0 N0 := by
  generalize hG : f_X4_noSign σ p1 = T
  refine headW (cc := cX4_noSign) (maxL := 2) (ret := (some .boolean)) ([.ref (ad 0), .int p1] : List Value) (by decide) rfl (Nat.le_of_ble_eq_true rfl) ?_
  intro p e s m below meth c S hr hlocks hK hN hsz w ls hl
  have S : CallFix p m c cX4_noSign 2 s ([.ref (ad 0), .int p1] : List Value).toArray wsX4_noSign RX4 := S
  have hx := S.1
  have hb := S.2.1
  have z0 : (0 : Int32).toInt = 0 := by decide
  have z1 : (1 : Int32).toInt = 1 := by decide
  have hl : lv_has ls 2 [(0, .ref (ad 0)), (1, .int p1)] := hl
  have hinX4 : ∀ w ∈ wsX40, w ∈ wsX4_noSign := (fun _ h => List.mem_cons_of_mem _ (List.mem_append_right _ h))
  rw [f_X4_noSign] at hG
  refine lv_iload_n hx hb dX4_noSign_0 rfl (lv_at hl 1 rfl) ?_
  refine lv_i2l hx hb dX4_noSign_1 rfl ?_
  refine lv_lconst (v := 0) hx hb dX4_noSign_2 (by decide) ?_
  refine lv_aload_n hx hb dX4_noSign_3 rfl (lv_at hl 0 rfl) ?_
  refine r_get (C := RX4) (T := TX4) (N := 25) S hK w (k := 0) (by decide) (eM_0 ad _) rfl hinX4 1 (by decide) (List.mem_of_getElem? (i := 1) rfl) rfl dX4_noSign_4 ?_
  refine lv_i2l hx hb dX4_noSign_7 rfl ?_
  refine lv_lconst (v := 1) hx hb dX4_noSign_8 (by decide) ?_
  refine lv_lsub hx hb dX4_noSign_9 ?_
  refine call0i (va_runS (As := [.long p1.toInt64, .long 0, .long (((σ 0 1).toInt64) - 1)]) (rest := []) S (c_X4_in l p1.toInt64 0 (((σ 0 1).toInt64) - 1)) (va_cwS 3 S.2.2.2.2 gX4_noSign_X4_in rfl rfl rfl hd_X4_in ⟨Nat.le_of_ble_eq_true rfl, Nat.le_of_ble_eq_true rfl⟩) pre0S rfl rfl hl.1 rfl (lv_room (Nat.le_of_ble_eq_true rfl)) dX4_noSign_10 ⟨Nat.zero_le _, Nat.zero_le _⟩) ?_
  refine lv_if_ne (tgt := 20) hx hb dX4_noSign_13 (by decide) (fun c13 => ?_) (fun c13 => ?_)
  · have t13 := bf_in_n c13
    rw [if_neg c13] at hG
    refine lv_iconst (v := 0) hx hb dX4_noSign_20 (by decide) ?_
    exact end0z S hr hlocks (Or.inl rfl) hG dX4_noSign_21
  · rw [if_pos c13] at hG
    refine lv_iconst (v := 1) hx hb dX4_noSign_16 (by decide) ?_
    refine lv_goto (tgt := 21) hx hb dX4_noSign_17 (by decide) ?_
    exact end0z S hr hlocks (Or.inr rfl) hG dX4_noSign_21
set_option maxHeartbeats 4000000 in
set_option maxRecDepth 100000 in
theorem c_X4_noSmell (l : Launch) (p1 : Int32) : Met l yX4_noSmell wsX4_noSmell ({ frames := 1, cells := 0, slots := 0, locals := 25 }) (Pre0 ([.int p1] : List Value)) (Q0i (f_X4_noSmell p1)) 0 0 N0 := by
  generalize hG : f_X4_noSmell p1 = T
  refine head0 (cc := cX4_noSmell) (maxL := 1) (ret := (some .boolean)) ([.int p1] : List Value) (by decide) rfl (Nat.le_of_ble_eq_true rfl) ?_
  intro p e s m below meth c S hr hlocks ls hl
  have S : CallFix p m c cX4_noSmell 1 s ([.int p1] : List Value).toArray wsX4_noSmell RX4 := S
  have hx := S.1
  have hb := S.2.1
  have z0 : (0 : Int32).toInt = 0 := by decide
  have z1 : (1 : Int32).toInt = 1 := by decide
  have hl : lv_has ls 1 [(0, .int p1)] := hl
  rw [f_X4_noSmell] at hG
  refine lv_iload_n hx hb dX4_noSmell_0 rfl (lv_at hl 0 rfl) ?_
  refine lv_i2l hx hb dX4_noSmell_1 rfl ?_
  refine lv_lconst (v := 0) hx hb dX4_noSmell_2 (by decide) ?_
  refine lv_ldc2 hx hb S.2.2.2.1 (S.2.2.2.2 _ (List.mem_of_getElem? (i := 1) rfl)) dX4_noSmell_3 ?_
  refine call0i (va_runS (As := [.long p1.toInt64, .long 0, .long 8]) (rest := []) S (c_X4_in l p1.toInt64 0 8) (va_cwS 3 S.2.2.2.2 gX4_noSmell_X4_in rfl rfl rfl hd_X4_in ⟨Nat.le_of_ble_eq_true rfl, Nat.le_of_ble_eq_true rfl⟩) pre0S rfl rfl hl.1 rfl (lv_room (Nat.le_of_ble_eq_true rfl)) dX4_noSmell_6 ⟨Nat.zero_le _, Nat.zero_le _⟩) ?_
  refine lv_if_ne (tgt := 16) hx hb dX4_noSmell_9 (by decide) (fun c9 => ?_) (fun c9 => ?_)
  · have t9 := bf_in_n c9
    rw [if_neg c9] at hG
    refine lv_iconst (v := 0) hx hb dX4_noSmell_16 (by decide) ?_
    exact end0z S hr hlocks (Or.inl rfl) hG dX4_noSmell_17
  · rw [if_pos c9] at hG
    refine lv_iconst (v := 1) hx hb dX4_noSmell_12 (by decide) ?_
    refine lv_goto (tgt := 17) hx hb dX4_noSmell_13 (by decide) ?_
    exact end0z S hr hlocks (Or.inr rfl) hG dX4_noSmell_17
set_option maxHeartbeats 4000000 in
set_option maxRecDepth 100000 in
theorem c_X4_codeAt (l : Launch) (ad : Nat → Nat) (D : va_G) (sz : Nat) (σ : St) (p1 : Int32) (p2 : Int32) (hb1 : 0 ≤ p1.toInt) (hb2 : 0 ≤ p2.toInt ∧ p2.toInt ≤ 90) (hb3 : p1.toInt + p2.toInt ≤ 360) (hs7 : 0 ≤ (σ 0 7).toInt) : Met l yX4_codeAt wsX4_codeAt ({ frames := 0, cells := 0, slots := 0, locals := 0 }) (PreW 18 (eM ad) ad D (tyM ad) σ sz ([.ref (ad 0), .int p1, .int p2] : List Value)) (Q0i (f_X4_codeAt σ p1 p2)) 0 0 N0 := by
  generalize hG : f_X4_codeAt σ p1 p2 = T
  refine headW (cc := cX4_codeAt) (maxL := 3) (ret := (some .int)) ([.ref (ad 0), .int p1, .int p2] : List Value) (by decide) rfl (Nat.le_of_ble_eq_true rfl) ?_
  intro p e s m below meth c S hr hlocks hK hN hsz w ls hl
  have S : CallFix p m c cX4_codeAt 3 s ([.ref (ad 0), .int p1, .int p2] : List Value).toArray wsX4_codeAt RX4 := S
  have hx := S.1
  have hb := S.2.1
  have z0 : (0 : Int32).toInt = 0 := by decide
  have z1 : (1 : Int32).toInt = 1 := by decide
  have hl : lv_has ls 3 [(0, .ref (ad 0)), (1, .int p1), (2, .int p2)] := hl
  have hinX4 : ∀ w ∈ wsX40, w ∈ wsX4_codeAt := (fun _ h => List.mem_cons_of_mem _ (List.mem_append_right _ h))
  rw [f_X4_codeAt] at hG
  refine lv_aload_n hx hb dX4_codeAt_0 rfl (lv_at hl 0 rfl) ?_
  refine r_get (C := RX4) (T := TX4) (N := 25) S hK w (k := 0) (by decide) (eM_0 ad _) rfl hinX4 7 (by decide) (List.mem_of_getElem? (i := 1) rfl) rfl dX4_codeAt_1 ?_
  refine lv_iload_n hx hb dX4_codeAt_4 rfl (lv_at hl 2 rfl) ?_
  refine lv_icmp_ge (tgt := 22) hx hb dX4_codeAt_5 (by decide) (fun c5 => ?_) (fun c5 => ?_)
  · have t5 : p2.toInt ≤ (σ 0 7).toInt := qt_le c5
    rw [if_pos c5] at hG
    refine lv_bipush (v := (-9)) hx hb dX4_codeAt_22 (by decide) ?_
    exact end0i S hr hlocks hG dX4_codeAt_24
  · have t5 : (σ 0 7).toInt < p2.toInt := qt_nle c5
    rw [if_neg c5] at hG
    refine lv_aload_n hx hb dX4_codeAt_8 rfl (lv_at hl 0 rfl) ?_
    refine r_get (C := RX4) (T := TX4) (N := 25) S hK w (k := 0) (by decide) (eM_0 ad _) rfl hinX4 22 (by decide) (List.mem_of_getElem? (i := 2) rfl) rfl dX4_codeAt_9 ?_
    refine lv_iload_n hx hb dX4_codeAt_12 rfl (lv_at hl 1 rfl) ?_
    refine lv_aload_n hx hb dX4_codeAt_13 rfl (lv_at hl 0 rfl) ?_
    refine r_get (C := RX4) (T := TX4) (N := 25) S hK w (k := 0) (by decide) (eM_0 ad _) rfl hinX4 7 (by decide) (List.mem_of_getElem? (i := 1) rfl) rfl dX4_codeAt_14 ?_
    refine lv_iadd hx hb dX4_codeAt_17 ?_
    have e17 := a_toInt (a := p1) (b := σ 0 7) (by omega) (by omega)
    have g18 : vp_in (p1 + (σ 0 7)) 360 := vpi (by omega) (by omega)
    refine r_iald (cA := ad 100) (N := 360) S hK w (k := 16) (by decide) (fun f => rfl) rfl g18 dX4_codeAt_18 ?_
    refine lv_goto (tgt := 24) hx hb dX4_codeAt_19 (by decide) ?_
    exact end0i S hr hlocks hG dX4_codeAt_24
set_option maxHeartbeats 4000000 in
set_option maxRecDepth 100000 in
theorem c_X4_readsSign (l : Launch) (ad : Nat → Nat) (D : va_G) (sz : Nat) (σ : St) (p1 : Int32) (p2 : Int32) (hb1 : 0 ≤ p1.toInt) (hb2 : 0 ≤ p2.toInt ∧ p2.toInt ≤ 90) (hb3 : p1.toInt + p2.toInt ≤ 360) (hs7 : 0 ≤ (σ 0 7).toInt ∧ (σ 0 7).toInt ≤ 90) (hs8 : 0 ≤ (σ 0 8).toInt ∧ (σ 0 8).toInt ≤ 8) : Met l yX4_readsSign wsX4_readsSign ({ frames := 1, cells := 0, slots := 0, locals := 25 }) (PreW 18 (eM ad) ad D (tyM ad) σ sz ([.ref (ad 0), .int p1, .int p2] : List Value)) (QWi 18 (eM ad) ad D (f_X4_readsSign σ p1 p2) (CA 18 ad sz)) 0 0 (CA 18 ad sz) := by
  generalize hG : f_X4_readsSign σ p1 p2 = T
  refine headW (cc := cX4_readsSign) (maxL := 6) (ret := (some .boolean)) ([.ref (ad 0), .int p1, .int p2] : List Value) (by decide) rfl (Nat.le_of_ble_eq_true rfl) ?_
  intro p e s m below meth c S hr hlocks hK hN hsz w ls hl
  have S : CallFix p m c cX4_readsSign 6 s ([.ref (ad 0), .int p1, .int p2] : List Value).toArray wsX4_readsSign RX4 := S
  have hx := S.1
  have hb := S.2.1
  have z0 : (0 : Int32).toInt = 0 := by decide
  have z1 : (1 : Int32).toInt = 1 := by decide
  have hl : lv_has ls 6 [(0, .ref (ad 0)), (1, .int p1), (2, .int p2)] := hl
  have hinX4 : ∀ w ∈ wsX40, w ∈ wsX4_readsSign := (fun _ h => List.mem_cons_of_mem _ (List.mem_append_right _ h))
  rw [f_X4_readsSign] at hG
  have e7 := inc_toInt (a := σ 0 7) (by omega) (by omega)
  have e7b := inc_toInt (a := σ 0 7 + 1) (by omega) (by omega)
  refine lv_aload_n hx hb dX4_readsSign_0 rfl (lv_at hl 0 rfl) ?_
  refine r_get (C := RX4) (T := TX4) (N := 25) S hK w (k := 0) (by decide) (eM_0 ad _) rfl hinX4 8 (by decide) (List.mem_of_getElem? (i := 1) rfl) rfl dX4_readsSign_1 ?_
  refine lv_if_le (tgt := 39) hx hb dX4_readsSign_4 (by decide) (fun c4 => ?_) (fun c4 => ?_)
  · have t4 : (σ 0 8).toInt ≤ 0 := qt_le c4
    rw [if_pos c4] at hG
    refine lv_aload_n hx hb dX4_readsSign_39 rfl (lv_at hl 0 rfl) ?_
    refine lv_iload_n hx hb dX4_readsSign_40 rfl (lv_at hl 1 rfl) ?_
    refine lv_iload_n hx hb dX4_readsSign_41 rfl (lv_at hl 2 rfl) ?_
    refine call0i (va_runV (As := [.int p1, .int p2]) (rest := []) S (c_X4_codeAt l ad D s.heap.size σ p1 p2 (by omega) (by omega) (by omega) (by first | omega | (show 0 ≤ (σ 0 7 + 1).toInt; omega))) (cwV 2 S.2.2.2.2 gX4_readsSign_X4_codeAt rfl rfl rfl ⟨rfl, hd_X4_codeAt⟩ ⟨Nat.le_of_ble_eq_true rfl, Nat.le_of_ble_eq_true rfl⟩) (preV hK hN w (k := 0) (by decide) (eM_0 ad _) (q := (RX4, TX4, 25)) rfl) rfl rfl hl.1 rfl (lv_room (Nat.le_of_ble_eq_true rfl)) dX4_readsSign_42 ⟨Nat.zero_le _, Nat.zero_le _⟩) ?_
    refine lv_istore_n (lv' := [(3, .int (f_X4_codeAt σ p1 p2)), (0, .ref (ad 0)), (1, .int p1), (2, .int p2)]) hx hb dX4_readsSign_45 rfl hl (by decide) rfl (fun ls hl => ?_)
    refine lv_iload_n hx hb dX4_readsSign_46 rfl (lv_at hl 0 rfl) ?_
    refine lv_bipush (v := 112) hx hb dX4_readsSign_47 (by decide) ?_
    refine lv_icmp_eq (tgt := 66) hx hb dX4_readsSign_49 (by decide) (fun c49 => ?_) (fun c49 => ?_)
    · have t49 : (f_X4_codeAt σ p1 p2).toInt = 112 := qt_eq c49
      rw [if_pos c49] at hG
      refine lv_aload_n hx hb dX4_readsSign_66 rfl (lv_at hl 1 rfl) ?_
      refine lv_dup hx hb dX4_readsSign_67 rfl ?_
      refine r_get (C := RX4) (T := TX4) (N := 25) S hK w (k := 0) (by decide) (eM_0 ad _) rfl hinX4 7 (by decide) (List.mem_of_getElem? (i := 2) rfl) rfl dX4_readsSign_68 ?_
      refine lv_iconst (v := 1) hx hb dX4_readsSign_71 (by decide) ?_
      refine lv_iadd hx hb dX4_readsSign_72 ?_
      refine r_put (C := RX4) (T := TX4) (N := 25) S hK w (k := 0) (by decide) (eM_0 ad _) rfl hinX4 tyX4 tyX4_ok nmX4 7 (by decide) (List.mem_of_getElem? (i := 2) rfl) rfl (x := ((σ 0 7) + 1)) (ty := .int) (by decide +kernel) rfl rfl (by show _ < List.length _; exact Nat.le_of_ble_eq_true rfl) (sM ad _ _ 7 (by decide)) dX4_readsSign_73 (fun H locs w => ?_)
      refine lv_iconst (v := 0) hx hb dX4_readsSign_76 (by decide) ?_
      refine lv_istore (lv' := [(4, .int 0), (3, .int (f_X4_codeAt σ p1 p2)), (0, .ref (ad 0)), (1, .int p1), (2, .int p2)]) hx hb dX4_readsSign_77 hl (by decide) rfl (fun ls hl => ?_)
      have L79 : ∀ (n : Nat) (res79 : (Int32 × St) ⊕ (St)), ∀ (v4_79 : Int32), ∀ (S_79 : St), ((0 ≤ v4_79.toInt ∧ v4_79.toInt ≤ 9) ∧ (0 ≤ (S_79 0 7).toInt ∧ (S_79 0 7).toInt ≤ 100 + v4_79.toInt) ∧ (S_79 0 8 = σ 0 8)) → (9 - v4_79.toInt).toNat < n → (lp_X4_readsSign_79 p1 p2 (f_X4_codeAt σ p1 p2) n v4_79 S_79) = res79 → (∀ r : Int32 × St, res79 = Sum.inl r → r = T) → (∀ (S_79e : St), (S_79e 0 8 = σ 0 8) → res79 = Sum.inr S_79e → ∀ (H : Heap) (locs : List Loc), CW 18 (eM ad) ad D (CA 18 ad sz) s.heap S_79e H locs → ∀ ls : Array Slot, lv_has ls 6 [(0, .ref (ad 0)), (3, .int (f_X4_codeAt σ p1 p2))] → W p l e (headSpec wsX4_readsSign ({ frames := 1, cells := 0, slots := 0, locals := 25 })).room s m ([.ref (ad 0), .int p1, .int p2] : List Value).toArray below meth c H locs 0 0 (MQ below (QWi 18 (eM ad) ad D T (CA 18 ad sz)) ([.ref (ad 0), .int p1, .int p2] : List Value).toArray s 0 0 (CA 18 ad sz)) (F0 m 145 ls [])) → ∀ (H : Heap) (locs : List Loc), CW 18 (eM ad) ad D (CA 18 ad sz) s.heap S_79 H locs → ∀ ls : Array Slot, lv_has ls 6 [(0, .ref (ad 0)), (1, .int p1), (2, .int p2), (3, .int (f_X4_codeAt σ p1 p2)), (4, .int v4_79)] → W p l e (headSpec wsX4_readsSign ({ frames := 1, cells := 0, slots := 0, locals := 25 })).room s m ([.ref (ad 0), .int p1, .int p2] : List Value).toArray below meth c H locs 0 0 (MQ below (QWi 18 (eM ad) ad D T (CA 18 ad sz)) ([.ref (ad 0), .int p1, .int p2] : List Value).toArray s 0 0 (CA 18 ad sz)) (F0 m 79 ls []) := by
        intro n
        induction n with
        | zero => intro _ _ _ _ hm; exact absurd hm (Nat.not_lt_zero _)
        | succ n ih79 =>
          intro res79 v4_79 S_79 hI79 hm79 hG hret79 hex79 H locs w ls hl
          obtain ⟨i79_0, i79_1, i79_2⟩ := id hI79
          rw [lp_X4_readsSign_79] at hG
          have e7s := inc_toInt (a := S_79 0 7) (by omega) (by omega)
          refine lv_iload hx hb dX4_readsSign_79 (lv_at hl 4 rfl) ?_
          refine lv_bipush (v := 9) hx hb dX4_readsSign_81 (by decide) ?_
          refine lv_icmp_ge (tgt := 145) hx hb dX4_readsSign_83 (by decide) (fun c83 => ?_) (fun c83 => ?_)
          · have t83 : 9 ≤ v4_79.toInt := qt_le c83
            rw [if_pos c83] at hG
            exact hex79 S_79 i79_2 hG.symm _ _ w ls (lv_sub hl [0, 3] rfl)
          · have t83 : v4_79.toInt < 9 := qt_nle c83
            rw [if_neg c83] at hG
            refine lv_aload_n hx hb dX4_readsSign_86 rfl (lv_at hl 0 rfl) ?_
            refine lv_iload_n hx hb dX4_readsSign_87 rfl (lv_at hl 1 rfl) ?_
            refine lv_iload_n hx hb dX4_readsSign_88 rfl (lv_at hl 2 rfl) ?_
            refine call0i (va_runV (As := [.int p1, .int p2]) (rest := []) S (c_X4_codeAt l ad D H.size S_79 p1 p2 (by omega) (by omega) (by omega) i79_1.1) (cwV 2 S.2.2.2.2 gX4_readsSign_X4_codeAt rfl rfl rfl ⟨rfl, hd_X4_codeAt⟩ ⟨Nat.le_of_ble_eq_true rfl, Nat.le_of_ble_eq_true rfl⟩) (preV hK hN w (k := 0) (by decide) (eM_0 ad _) (q := (RX4, TX4, 25)) rfl) rfl rfl hl.1 rfl (lv_room (Nat.le_of_ble_eq_true rfl)) dX4_readsSign_89 ⟨Nat.zero_le _, Nat.zero_le _⟩) ?_
            refine lv_bipush (v := 48) hx hb dX4_readsSign_92 (by decide) ?_
            refine lv_isub hx hb dX4_readsSign_94 ?_
            refine lv_istore (lv' := [(5, .int ((f_X4_codeAt S_79 p1 p2) - 48)), (0, .ref (ad 0)), (1, .int p1), (2, .int p2), (3, .int (f_X4_codeAt σ p1 p2)), (4, .int v4_79)]) hx hb dX4_readsSign_95 hl (by decide) rfl (fun ls hl => ?_)
            refine lv_iload hx hb dX4_readsSign_97 (lv_at hl 0 rfl) ?_
            refine lv_i2l hx hb dX4_readsSign_99 rfl ?_
            refine lv_lconst (v := 0) hx hb dX4_readsSign_100 (by decide) ?_
            refine lv_ldc2 hx hb S.2.2.2.1 (S.2.2.2.2 _ (List.mem_of_getElem? (i := 3) rfl)) dX4_readsSign_101 ?_
            refine call0i (va_runS (As := [.long (((f_X4_codeAt S_79 p1 p2) - 48).toInt64), .long 0, .long 9]) (rest := []) S (c_X4_in l (((f_X4_codeAt S_79 p1 p2) - 48).toInt64) 0 9) (va_cwS 3 S.2.2.2.2 gX4_readsSign_X4_in rfl rfl rfl hd_X4_in ⟨Nat.le_of_ble_eq_true rfl, Nat.le_of_ble_eq_true rfl⟩) pre0S rfl rfl hl.1 rfl (lv_room (Nat.le_of_ble_eq_true rfl)) dX4_readsSign_104 ⟨Nat.zero_le _, Nat.zero_le _⟩) ?_
            refine lv_if_ne (tgt := 112) hx hb dX4_readsSign_107 (by decide) (fun c107 => ?_) (fun c107 => ?_)
            · have t107 := bf_in_n c107
              rw [if_neg c107] at hG
              refine lv_aload_n hx hb dX4_readsSign_112 rfl (lv_at hl 1 rfl) ?_
              refine r_get (C := RX4) (T := TX4) (N := 25) S hK w (k := 0) (by decide) (eM_0 ad _) rfl hinX4 10 (by decide) (List.mem_of_getElem? (i := 4) rfl) rfl dX4_readsSign_113 ?_
              refine lv_bipush (v := 9) hx hb dX4_readsSign_116 (by decide) ?_
              refine lv_aload_n hx hb dX4_readsSign_118 rfl (lv_at hl 1 rfl) ?_
              refine r_get (C := RX4) (T := TX4) (N := 25) S hK w (k := 0) (by decide) (eM_0 ad _) rfl hinX4 8 (by decide) (List.mem_of_getElem? (i := 1) rfl) rfl dX4_readsSign_119 ?_
              refine lv_imul hx hb dX4_readsSign_122 ?_
              refine lv_iload hx hb dX4_readsSign_123 (lv_at hl 5 rfl) ?_
              refine lv_iadd hx hb dX4_readsSign_125 ?_
              refine lv_iload hx hb dX4_readsSign_126 (lv_at hl 0 rfl) ?_
              have q8 : (S_79 0 8).toInt = (σ 0 8).toInt := by rw [i79_2]
              have e122 := km_toInt (a := S_79 0 8) (k := 9) (z := 9) (by decide) (by omega) (by omega)
              have e125 := a_toInt (a := 9 * S_79 0 8) (b := v4_79) (by omega) (by omega)
              have g128 : vp_in ((9 * (S_79 0 8)) + v4_79) 72 := vpi (by omega) (by omega)
              refine r_iast (cA := ad 100) (N := 72) S hK w (k := 5) (by decide) (fun f => rfl) rfl g128 dX4_readsSign_128 (fun H locs w => ?_)
              refine lv_aload_n hx hb dX4_readsSign_129 rfl (lv_at hl 1 rfl) ?_
              refine lv_dup hx hb dX4_readsSign_130 rfl ?_
              refine r_get (C := RX4) (T := TX4) (N := 25) S hK w (k := 0) (by decide) (eM_0 ad _) rfl hinX4 7 (by decide) (List.mem_of_getElem? (i := 2) rfl) rfl dX4_readsSign_131 ?_
              refine lv_iconst (v := 1) hx hb dX4_readsSign_134 (by decide) ?_
              refine lv_iadd hx hb dX4_readsSign_135 ?_
              refine r_put (C := RX4) (T := TX4) (N := 25) S hK w (k := 0) (by decide) (eM_0 ad _) rfl hinX4 tyX4 tyX4_ok nmX4 7 (by decide) (List.mem_of_getElem? (i := 2) rfl) rfl (x := (((u2 S_79 5 (ix ((9 * (S_79 0 8)) + v4_79)) ((f_X4_codeAt S_79 p1 p2) - 48)) 0 7) + 1)) (ty := .int) (by decide +kernel) rfl rfl (by show _ < List.length _; exact Nat.le_of_ble_eq_true rfl) (sM ad _ _ 7 (by decide)) dX4_readsSign_136 (fun H locs w => ?_)
              refine lv_iinc (v := (v4_79 + 1)) (lv' := [(4, .int (v4_79 + 1)), (5, .int ((f_X4_codeAt S_79 p1 p2) - 48)), (0, .ref (ad 0)), (1, .int p1), (2, .int p2), (3, .int (f_X4_codeAt σ p1 p2))]) hx hb dX4_readsSign_139 hl (k := 5) rfl rfl (by decide) rfl (fun ls hl => ?_)
              refine lv_goto (tgt := 79) hx hb dX4_readsSign_142 (by decide) ?_
              have b4_79 : (v4_79 + 1).toInt = v4_79.toInt + 1 := inc_toInt (by omega) (by omega)
              exact ih79 _ (v4_79 + 1) (u2 (u2 S_79 5 (ix ((9 * (S_79 0 8)) + v4_79)) ((f_X4_codeAt S_79 p1 p2) - 48)) 0 7 (((u2 S_79 5 (ix ((9 * (S_79 0 8)) + v4_79)) ((f_X4_codeAt S_79 p1 p2) - 48)) 0 7) + 1)) ⟨(by omega), (by show 0 ≤ (S_79 0 7 + 1).toInt ∧ (S_79 0 7 + 1).toInt ≤ 100 + (v4_79 + 1).toInt; omega), (by show S_79 0 8 = σ 0 8; exact i79_2)⟩ (by omega) hG hret79 hex79 _ _ w ls (lv_sub hl [2, 3, 4, 5, 0] rfl)
            · rw [if_pos c107] at hG
              refine lv_iconst (v := 0) hx hb dX4_readsSign_110 (by decide) ?_
              exact endWz S hr hlocks w (Or.inl rfl) (hret79 _ hG.symm) dX4_readsSign_111
      refine L79 200 _ 0 (u2 σ 0 7 ((σ 0 7) + 1)) ⟨(by omega), (by first | (show 0 ≤ (σ 0 7 + 1).toInt ∧ (σ 0 7 + 1).toInt ≤ 100 + (0 : Int32).toInt; omega) | (show 0 ≤ (σ 0 7 + 1 + 1).toInt ∧ (σ 0 7 + 1 + 1).toInt ≤ 100 + (0 : Int32).toInt; omega)), rfl⟩ (by omega) rfl (fun r hr79 => by rw [hr79] at hG; exact hG) (fun S_79e x79_0 hr79 H locs w ls hl => ?_) _ _ w ls (lv_sub hl [2, 3, 4, 1, 0] rfl)
      rw [hr79] at hG
      dsimp only at hG
      refine lv_aload_n hx hb dX4_readsSign_145 rfl (lv_at hl 0 rfl) ?_
      refine r_get (C := RX4) (T := TX4) (N := 25) S hK w (k := 0) (by decide) (eM_0 ad _) rfl hinX4 9 (by decide) (List.mem_of_getElem? (i := 5) rfl) rfl dX4_readsSign_146 ?_
      refine lv_aload_n hx hb dX4_readsSign_149 rfl (lv_at hl 0 rfl) ?_
      refine r_get (C := RX4) (T := TX4) (N := 25) S hK w (k := 0) (by decide) (eM_0 ad _) rfl hinX4 8 (by decide) (List.mem_of_getElem? (i := 1) rfl) rfl dX4_readsSign_150 ?_
      refine lv_iload_n hx hb dX4_readsSign_153 rfl (lv_at hl 1 rfl) ?_
      refine lv_bipush (v := 112) hx hb dX4_readsSign_154 (by decide) ?_
      have J156_174 : ∀ (k2_156_174 : Int32), (1, (u2 (u2 S_79e 4 (ix (S_79e 0 8)) k2_156_174) 0 8 (((u2 S_79e 4 (ix (S_79e 0 8)) k2_156_174) 0 8) + 1))) = T → ∀ (H : Heap) (locs : List Loc), CW 18 (eM ad) ad D (CA 18 ad sz) s.heap S_79e H locs → ∀ ls : Array Slot, lv_has ls 6 [(0, .ref (ad 0))] → W p l e (headSpec wsX4_readsSign ({ frames := 1, cells := 0, slots := 0, locals := 25 })).room s m ([.ref (ad 0), .int p1, .int p2] : List Value).toArray below meth c H locs 0 0 (MQ below (QWi 18 (eM ad) ad D T (CA 18 ad sz)) ([.ref (ad 0), .int p1, .int p2] : List Value).toArray s 0 0 (CA 18 ad sz)) (F0 m 174 ls [.int k2_156_174, .int (S_79e 0 8), .ref (ad 4)]) := by
        intro k2_156_174 hG H locs w ls hl
        have g174 : vp_in (S_79e 0 8) 8 := (vpi (by rw [x79_0]; omega) (by rw [x79_0]; omega))
        refine r_iast (cA := ad 100) (N := 8) S hK w (k := 4) (by decide) (fun f => rfl) rfl g174 dX4_readsSign_174 (fun H locs w => ?_)
        refine lv_aload_n hx hb dX4_readsSign_175 rfl (lv_at hl 0 rfl) ?_
        refine lv_dup hx hb dX4_readsSign_176 rfl ?_
        refine r_get (C := RX4) (T := TX4) (N := 25) S hK w (k := 0) (by decide) (eM_0 ad _) rfl hinX4 8 (by decide) (List.mem_of_getElem? (i := 1) rfl) rfl dX4_readsSign_177 ?_
        refine lv_iconst (v := 1) hx hb dX4_readsSign_180 (by decide) ?_
        refine lv_iadd hx hb dX4_readsSign_181 ?_
        refine r_put (C := RX4) (T := TX4) (N := 25) S hK w (k := 0) (by decide) (eM_0 ad _) rfl hinX4 tyX4 tyX4_ok nmX4 8 (by decide) (List.mem_of_getElem? (i := 1) rfl) rfl (x := (((u2 S_79e 4 (ix (S_79e 0 8)) k2_156_174) 0 8) + 1)) (ty := .int) (by decide +kernel) rfl rfl (by show _ < List.length _; exact Nat.le_of_ble_eq_true rfl) (sM ad _ _ 8 (by decide)) dX4_readsSign_182 (fun H locs w => ?_)
        refine lv_iconst (v := 1) hx hb dX4_readsSign_185 (by decide) ?_
        exact endWz S hr hlocks w (Or.inr rfl) hG dX4_readsSign_186
      refine lv_icmp_ne (tgt := 163) hx hb dX4_readsSign_156 (by decide) (fun c156 => ?_) (fun c156 => ?_)
      · have t156 : (f_X4_codeAt σ p1 p2).toInt ≠ 112 := qt_ne c156
        simp only [if_neg c156] at hG
        refine lv_iload_n hx hb dX4_readsSign_163 rfl (lv_at hl 1 rfl) ?_
        refine lv_bipush (v := 102) hx hb dX4_readsSign_164 (by decide) ?_
        refine lv_icmp_ne (tgt := 173) hx hb dX4_readsSign_166 (by decide) (fun c166 => ?_) (fun c166 => ?_)
        · have t166 : (f_X4_codeAt σ p1 p2).toInt ≠ 102 := qt_ne c166
          simp only [if_neg c166] at hG
          refine lv_iconst (v := 2) hx hb dX4_readsSign_173 (by decide) ?_
          exact J156_174 2 hG _ _ w ls (lv_sub hl [0] rfl)
        · have t166 : (f_X4_codeAt σ p1 p2).toInt = 102 := qt_eq c166
          simp only [if_pos c166] at hG
          refine lv_iconst (v := 1) hx hb dX4_readsSign_169 (by decide) ?_
          refine lv_goto (tgt := 174) hx hb dX4_readsSign_170 (by decide) ?_
          exact J156_174 1 hG _ _ w ls (lv_sub hl [0] rfl)
      · have t156 : (f_X4_codeAt σ p1 p2).toInt = 112 := qt_eq c156
        simp only [if_pos c156] at hG
        refine lv_iconst (v := 0) hx hb dX4_readsSign_159 (by decide) ?_
        refine lv_goto (tgt := 174) hx hb dX4_readsSign_160 (by decide) ?_
        exact J156_174 0 hG _ _ w ls (lv_sub hl [0] rfl)
    · have t49 : (f_X4_codeAt σ p1 p2).toInt ≠ 112 := qt_ne c49
      rw [if_neg c49] at hG
      refine lv_iload_n hx hb dX4_readsSign_52 rfl (lv_at hl 0 rfl) ?_
      refine lv_bipush (v := 102) hx hb dX4_readsSign_53 (by decide) ?_
      refine lv_icmp_eq (tgt := 66) hx hb dX4_readsSign_55 (by decide) (fun c55 => ?_) (fun c55 => ?_)
      · have t55 : (f_X4_codeAt σ p1 p2).toInt = 102 := qt_eq c55
        rw [if_pos c55] at hG
        refine lv_aload_n hx hb dX4_readsSign_66 rfl (lv_at hl 1 rfl) ?_
        refine lv_dup hx hb dX4_readsSign_67 rfl ?_
        refine r_get (C := RX4) (T := TX4) (N := 25) S hK w (k := 0) (by decide) (eM_0 ad _) rfl hinX4 7 (by decide) (List.mem_of_getElem? (i := 2) rfl) rfl dX4_readsSign_68 ?_
        refine lv_iconst (v := 1) hx hb dX4_readsSign_71 (by decide) ?_
        refine lv_iadd hx hb dX4_readsSign_72 ?_
        refine r_put (C := RX4) (T := TX4) (N := 25) S hK w (k := 0) (by decide) (eM_0 ad _) rfl hinX4 tyX4 tyX4_ok nmX4 7 (by decide) (List.mem_of_getElem? (i := 2) rfl) rfl (x := ((σ 0 7) + 1)) (ty := .int) (by decide +kernel) rfl rfl (by show _ < List.length _; exact Nat.le_of_ble_eq_true rfl) (sM ad _ _ 7 (by decide)) dX4_readsSign_73 (fun H locs w => ?_)
        refine lv_iconst (v := 0) hx hb dX4_readsSign_76 (by decide) ?_
        refine lv_istore (lv' := [(4, .int 0), (3, .int (f_X4_codeAt σ p1 p2)), (0, .ref (ad 0)), (1, .int p1), (2, .int p2)]) hx hb dX4_readsSign_77 hl (by decide) rfl (fun ls hl => ?_)
        have L79 : ∀ (n : Nat) (res79 : (Int32 × St) ⊕ (St)), ∀ (v4_79 : Int32), ∀ (S_79 : St), ((0 ≤ v4_79.toInt ∧ v4_79.toInt ≤ 9) ∧ (0 ≤ (S_79 0 7).toInt ∧ (S_79 0 7).toInt ≤ 100 + v4_79.toInt) ∧ (S_79 0 8 = σ 0 8)) → (9 - v4_79.toInt).toNat < n → (lp_X4_readsSign_79 p1 p2 (f_X4_codeAt σ p1 p2) n v4_79 S_79) = res79 → (∀ r : Int32 × St, res79 = Sum.inl r → r = T) → (∀ (S_79e : St), (S_79e 0 8 = σ 0 8) → res79 = Sum.inr S_79e → ∀ (H : Heap) (locs : List Loc), CW 18 (eM ad) ad D (CA 18 ad sz) s.heap S_79e H locs → ∀ ls : Array Slot, lv_has ls 6 [(0, .ref (ad 0)), (3, .int (f_X4_codeAt σ p1 p2))] → W p l e (headSpec wsX4_readsSign ({ frames := 1, cells := 0, slots := 0, locals := 25 })).room s m ([.ref (ad 0), .int p1, .int p2] : List Value).toArray below meth c H locs 0 0 (MQ below (QWi 18 (eM ad) ad D T (CA 18 ad sz)) ([.ref (ad 0), .int p1, .int p2] : List Value).toArray s 0 0 (CA 18 ad sz)) (F0 m 145 ls [])) → ∀ (H : Heap) (locs : List Loc), CW 18 (eM ad) ad D (CA 18 ad sz) s.heap S_79 H locs → ∀ ls : Array Slot, lv_has ls 6 [(0, .ref (ad 0)), (1, .int p1), (2, .int p2), (3, .int (f_X4_codeAt σ p1 p2)), (4, .int v4_79)] → W p l e (headSpec wsX4_readsSign ({ frames := 1, cells := 0, slots := 0, locals := 25 })).room s m ([.ref (ad 0), .int p1, .int p2] : List Value).toArray below meth c H locs 0 0 (MQ below (QWi 18 (eM ad) ad D T (CA 18 ad sz)) ([.ref (ad 0), .int p1, .int p2] : List Value).toArray s 0 0 (CA 18 ad sz)) (F0 m 79 ls []) := by
          intro n
          induction n with
          | zero => intro _ _ _ _ hm; exact absurd hm (Nat.not_lt_zero _)
          | succ n ih79 =>
            intro res79 v4_79 S_79 hI79 hm79 hG hret79 hex79 H locs w ls hl
            obtain ⟨i79_0, i79_1, i79_2⟩ := id hI79
            rw [lp_X4_readsSign_79] at hG
            have e7s := inc_toInt (a := S_79 0 7) (by omega) (by omega)
            refine lv_iload hx hb dX4_readsSign_79 (lv_at hl 4 rfl) ?_
            refine lv_bipush (v := 9) hx hb dX4_readsSign_81 (by decide) ?_
            refine lv_icmp_ge (tgt := 145) hx hb dX4_readsSign_83 (by decide) (fun c83 => ?_) (fun c83 => ?_)
            · have t83 : 9 ≤ v4_79.toInt := qt_le c83
              rw [if_pos c83] at hG
              exact hex79 S_79 i79_2 hG.symm _ _ w ls (lv_sub hl [0, 3] rfl)
            · have t83 : v4_79.toInt < 9 := qt_nle c83
              rw [if_neg c83] at hG
              refine lv_aload_n hx hb dX4_readsSign_86 rfl (lv_at hl 0 rfl) ?_
              refine lv_iload_n hx hb dX4_readsSign_87 rfl (lv_at hl 1 rfl) ?_
              refine lv_iload_n hx hb dX4_readsSign_88 rfl (lv_at hl 2 rfl) ?_
              refine call0i (va_runV (As := [.int p1, .int p2]) (rest := []) S (c_X4_codeAt l ad D H.size S_79 p1 p2 (by omega) (by omega) (by omega) i79_1.1) (cwV 2 S.2.2.2.2 gX4_readsSign_X4_codeAt rfl rfl rfl ⟨rfl, hd_X4_codeAt⟩ ⟨Nat.le_of_ble_eq_true rfl, Nat.le_of_ble_eq_true rfl⟩) (preV hK hN w (k := 0) (by decide) (eM_0 ad _) (q := (RX4, TX4, 25)) rfl) rfl rfl hl.1 rfl (lv_room (Nat.le_of_ble_eq_true rfl)) dX4_readsSign_89 ⟨Nat.zero_le _, Nat.zero_le _⟩) ?_
              refine lv_bipush (v := 48) hx hb dX4_readsSign_92 (by decide) ?_
              refine lv_isub hx hb dX4_readsSign_94 ?_
              refine lv_istore (lv' := [(5, .int ((f_X4_codeAt S_79 p1 p2) - 48)), (0, .ref (ad 0)), (1, .int p1), (2, .int p2), (3, .int (f_X4_codeAt σ p1 p2)), (4, .int v4_79)]) hx hb dX4_readsSign_95 hl (by decide) rfl (fun ls hl => ?_)
              refine lv_iload hx hb dX4_readsSign_97 (lv_at hl 0 rfl) ?_
              refine lv_i2l hx hb dX4_readsSign_99 rfl ?_
              refine lv_lconst (v := 0) hx hb dX4_readsSign_100 (by decide) ?_
              refine lv_ldc2 hx hb S.2.2.2.1 (S.2.2.2.2 _ (List.mem_of_getElem? (i := 3) rfl)) dX4_readsSign_101 ?_
              refine call0i (va_runS (As := [.long (((f_X4_codeAt S_79 p1 p2) - 48).toInt64), .long 0, .long 9]) (rest := []) S (c_X4_in l (((f_X4_codeAt S_79 p1 p2) - 48).toInt64) 0 9) (va_cwS 3 S.2.2.2.2 gX4_readsSign_X4_in rfl rfl rfl hd_X4_in ⟨Nat.le_of_ble_eq_true rfl, Nat.le_of_ble_eq_true rfl⟩) pre0S rfl rfl hl.1 rfl (lv_room (Nat.le_of_ble_eq_true rfl)) dX4_readsSign_104 ⟨Nat.zero_le _, Nat.zero_le _⟩) ?_
              refine lv_if_ne (tgt := 112) hx hb dX4_readsSign_107 (by decide) (fun c107 => ?_) (fun c107 => ?_)
              · have t107 := bf_in_n c107
                rw [if_neg c107] at hG
                refine lv_aload_n hx hb dX4_readsSign_112 rfl (lv_at hl 1 rfl) ?_
                refine r_get (C := RX4) (T := TX4) (N := 25) S hK w (k := 0) (by decide) (eM_0 ad _) rfl hinX4 10 (by decide) (List.mem_of_getElem? (i := 4) rfl) rfl dX4_readsSign_113 ?_
                refine lv_bipush (v := 9) hx hb dX4_readsSign_116 (by decide) ?_
                refine lv_aload_n hx hb dX4_readsSign_118 rfl (lv_at hl 1 rfl) ?_
                refine r_get (C := RX4) (T := TX4) (N := 25) S hK w (k := 0) (by decide) (eM_0 ad _) rfl hinX4 8 (by decide) (List.mem_of_getElem? (i := 1) rfl) rfl dX4_readsSign_119 ?_
                refine lv_imul hx hb dX4_readsSign_122 ?_
                refine lv_iload hx hb dX4_readsSign_123 (lv_at hl 5 rfl) ?_
                refine lv_iadd hx hb dX4_readsSign_125 ?_
                refine lv_iload hx hb dX4_readsSign_126 (lv_at hl 0 rfl) ?_
                have q8 : (S_79 0 8).toInt = (σ 0 8).toInt := by rw [i79_2]
                have e122 := km_toInt (a := S_79 0 8) (k := 9) (z := 9) (by decide) (by omega) (by omega)
                have e125 := a_toInt (a := 9 * S_79 0 8) (b := v4_79) (by omega) (by omega)
                have g128 : vp_in ((9 * (S_79 0 8)) + v4_79) 72 := vpi (by omega) (by omega)
                refine r_iast (cA := ad 100) (N := 72) S hK w (k := 5) (by decide) (fun f => rfl) rfl g128 dX4_readsSign_128 (fun H locs w => ?_)
                refine lv_aload_n hx hb dX4_readsSign_129 rfl (lv_at hl 1 rfl) ?_
                refine lv_dup hx hb dX4_readsSign_130 rfl ?_
                refine r_get (C := RX4) (T := TX4) (N := 25) S hK w (k := 0) (by decide) (eM_0 ad _) rfl hinX4 7 (by decide) (List.mem_of_getElem? (i := 2) rfl) rfl dX4_readsSign_131 ?_
                refine lv_iconst (v := 1) hx hb dX4_readsSign_134 (by decide) ?_
                refine lv_iadd hx hb dX4_readsSign_135 ?_
                refine r_put (C := RX4) (T := TX4) (N := 25) S hK w (k := 0) (by decide) (eM_0 ad _) rfl hinX4 tyX4 tyX4_ok nmX4 7 (by decide) (List.mem_of_getElem? (i := 2) rfl) rfl (x := (((u2 S_79 5 (ix ((9 * (S_79 0 8)) + v4_79)) ((f_X4_codeAt S_79 p1 p2) - 48)) 0 7) + 1)) (ty := .int) (by decide +kernel) rfl rfl (by show _ < List.length _; exact Nat.le_of_ble_eq_true rfl) (sM ad _ _ 7 (by decide)) dX4_readsSign_136 (fun H locs w => ?_)
                refine lv_iinc (v := (v4_79 + 1)) (lv' := [(4, .int (v4_79 + 1)), (5, .int ((f_X4_codeAt S_79 p1 p2) - 48)), (0, .ref (ad 0)), (1, .int p1), (2, .int p2), (3, .int (f_X4_codeAt σ p1 p2))]) hx hb dX4_readsSign_139 hl (k := 5) rfl rfl (by decide) rfl (fun ls hl => ?_)
                refine lv_goto (tgt := 79) hx hb dX4_readsSign_142 (by decide) ?_
                have b4_79 : (v4_79 + 1).toInt = v4_79.toInt + 1 := inc_toInt (by omega) (by omega)
                exact ih79 _ (v4_79 + 1) (u2 (u2 S_79 5 (ix ((9 * (S_79 0 8)) + v4_79)) ((f_X4_codeAt S_79 p1 p2) - 48)) 0 7 (((u2 S_79 5 (ix ((9 * (S_79 0 8)) + v4_79)) ((f_X4_codeAt S_79 p1 p2) - 48)) 0 7) + 1)) ⟨(by omega), (by show 0 ≤ (S_79 0 7 + 1).toInt ∧ (S_79 0 7 + 1).toInt ≤ 100 + (v4_79 + 1).toInt; omega), (by show S_79 0 8 = σ 0 8; exact i79_2)⟩ (by omega) hG hret79 hex79 _ _ w ls (lv_sub hl [2, 3, 4, 5, 0] rfl)
              · rw [if_pos c107] at hG
                refine lv_iconst (v := 0) hx hb dX4_readsSign_110 (by decide) ?_
                exact endWz S hr hlocks w (Or.inl rfl) (hret79 _ hG.symm) dX4_readsSign_111
        refine L79 200 _ 0 (u2 σ 0 7 ((σ 0 7) + 1)) ⟨(by omega), (by first | (show 0 ≤ (σ 0 7 + 1).toInt ∧ (σ 0 7 + 1).toInt ≤ 100 + (0 : Int32).toInt; omega) | (show 0 ≤ (σ 0 7 + 1 + 1).toInt ∧ (σ 0 7 + 1 + 1).toInt ≤ 100 + (0 : Int32).toInt; omega)), rfl⟩ (by omega) rfl (fun r hr79 => by rw [hr79] at hG; exact hG) (fun S_79e x79_0 hr79 H locs w ls hl => ?_) _ _ w ls (lv_sub hl [2, 3, 4, 1, 0] rfl)
        rw [hr79] at hG
        dsimp only at hG
        refine lv_aload_n hx hb dX4_readsSign_145 rfl (lv_at hl 0 rfl) ?_
        refine r_get (C := RX4) (T := TX4) (N := 25) S hK w (k := 0) (by decide) (eM_0 ad _) rfl hinX4 9 (by decide) (List.mem_of_getElem? (i := 5) rfl) rfl dX4_readsSign_146 ?_
        refine lv_aload_n hx hb dX4_readsSign_149 rfl (lv_at hl 0 rfl) ?_
        refine r_get (C := RX4) (T := TX4) (N := 25) S hK w (k := 0) (by decide) (eM_0 ad _) rfl hinX4 8 (by decide) (List.mem_of_getElem? (i := 1) rfl) rfl dX4_readsSign_150 ?_
        refine lv_iload_n hx hb dX4_readsSign_153 rfl (lv_at hl 1 rfl) ?_
        refine lv_bipush (v := 112) hx hb dX4_readsSign_154 (by decide) ?_
        have J156_174 : ∀ (k2_156_174 : Int32), (1, (u2 (u2 S_79e 4 (ix (S_79e 0 8)) k2_156_174) 0 8 (((u2 S_79e 4 (ix (S_79e 0 8)) k2_156_174) 0 8) + 1))) = T → ∀ (H : Heap) (locs : List Loc), CW 18 (eM ad) ad D (CA 18 ad sz) s.heap S_79e H locs → ∀ ls : Array Slot, lv_has ls 6 [(0, .ref (ad 0))] → W p l e (headSpec wsX4_readsSign ({ frames := 1, cells := 0, slots := 0, locals := 25 })).room s m ([.ref (ad 0), .int p1, .int p2] : List Value).toArray below meth c H locs 0 0 (MQ below (QWi 18 (eM ad) ad D T (CA 18 ad sz)) ([.ref (ad 0), .int p1, .int p2] : List Value).toArray s 0 0 (CA 18 ad sz)) (F0 m 174 ls [.int k2_156_174, .int (S_79e 0 8), .ref (ad 4)]) := by
          intro k2_156_174 hG H locs w ls hl
          have g174 : vp_in (S_79e 0 8) 8 := (vpi (by rw [x79_0]; omega) (by rw [x79_0]; omega))
          refine r_iast (cA := ad 100) (N := 8) S hK w (k := 4) (by decide) (fun f => rfl) rfl g174 dX4_readsSign_174 (fun H locs w => ?_)
          refine lv_aload_n hx hb dX4_readsSign_175 rfl (lv_at hl 0 rfl) ?_
          refine lv_dup hx hb dX4_readsSign_176 rfl ?_
          refine r_get (C := RX4) (T := TX4) (N := 25) S hK w (k := 0) (by decide) (eM_0 ad _) rfl hinX4 8 (by decide) (List.mem_of_getElem? (i := 1) rfl) rfl dX4_readsSign_177 ?_
          refine lv_iconst (v := 1) hx hb dX4_readsSign_180 (by decide) ?_
          refine lv_iadd hx hb dX4_readsSign_181 ?_
          refine r_put (C := RX4) (T := TX4) (N := 25) S hK w (k := 0) (by decide) (eM_0 ad _) rfl hinX4 tyX4 tyX4_ok nmX4 8 (by decide) (List.mem_of_getElem? (i := 1) rfl) rfl (x := (((u2 S_79e 4 (ix (S_79e 0 8)) k2_156_174) 0 8) + 1)) (ty := .int) (by decide +kernel) rfl rfl (by show _ < List.length _; exact Nat.le_of_ble_eq_true rfl) (sM ad _ _ 8 (by decide)) dX4_readsSign_182 (fun H locs w => ?_)
          refine lv_iconst (v := 1) hx hb dX4_readsSign_185 (by decide) ?_
          exact endWz S hr hlocks w (Or.inr rfl) hG dX4_readsSign_186
        refine lv_icmp_ne (tgt := 163) hx hb dX4_readsSign_156 (by decide) (fun c156 => ?_) (fun c156 => ?_)
        · have t156 : (f_X4_codeAt σ p1 p2).toInt ≠ 112 := qt_ne c156
          simp only [if_neg c156] at hG
          refine lv_iload_n hx hb dX4_readsSign_163 rfl (lv_at hl 1 rfl) ?_
          refine lv_bipush (v := 102) hx hb dX4_readsSign_164 (by decide) ?_
          refine lv_icmp_ne (tgt := 173) hx hb dX4_readsSign_166 (by decide) (fun c166 => ?_) (fun c166 => ?_)
          · have t166 : (f_X4_codeAt σ p1 p2).toInt ≠ 102 := qt_ne c166
            simp only [if_neg c166] at hG
            refine lv_iconst (v := 2) hx hb dX4_readsSign_173 (by decide) ?_
            exact J156_174 2 hG _ _ w ls (lv_sub hl [0] rfl)
          · have t166 : (f_X4_codeAt σ p1 p2).toInt = 102 := qt_eq c166
            simp only [if_pos c166] at hG
            refine lv_iconst (v := 1) hx hb dX4_readsSign_169 (by decide) ?_
            refine lv_goto (tgt := 174) hx hb dX4_readsSign_170 (by decide) ?_
            exact J156_174 1 hG _ _ w ls (lv_sub hl [0] rfl)
        · have t156 : (f_X4_codeAt σ p1 p2).toInt = 112 := qt_eq c156
          simp only [if_pos c156] at hG
          refine lv_iconst (v := 0) hx hb dX4_readsSign_159 (by decide) ?_
          refine lv_goto (tgt := 174) hx hb dX4_readsSign_160 (by decide) ?_
          exact J156_174 0 hG _ _ w ls (lv_sub hl [0] rfl)
      · have t55 : (f_X4_codeAt σ p1 p2).toInt ≠ 102 := qt_ne c55
        rw [if_neg c55] at hG
        refine lv_iload_n hx hb dX4_readsSign_58 rfl (lv_at hl 0 rfl) ?_
        refine lv_bipush (v := 115) hx hb dX4_readsSign_59 (by decide) ?_
        refine lv_icmp_eq (tgt := 66) hx hb dX4_readsSign_61 (by decide) (fun c61 => ?_) (fun c61 => ?_)
        · have t61 : (f_X4_codeAt σ p1 p2).toInt = 115 := qt_eq c61
          rw [if_pos c61] at hG
          refine lv_aload_n hx hb dX4_readsSign_66 rfl (lv_at hl 1 rfl) ?_
          refine lv_dup hx hb dX4_readsSign_67 rfl ?_
          refine r_get (C := RX4) (T := TX4) (N := 25) S hK w (k := 0) (by decide) (eM_0 ad _) rfl hinX4 7 (by decide) (List.mem_of_getElem? (i := 2) rfl) rfl dX4_readsSign_68 ?_
          refine lv_iconst (v := 1) hx hb dX4_readsSign_71 (by decide) ?_
          refine lv_iadd hx hb dX4_readsSign_72 ?_
          refine r_put (C := RX4) (T := TX4) (N := 25) S hK w (k := 0) (by decide) (eM_0 ad _) rfl hinX4 tyX4 tyX4_ok nmX4 7 (by decide) (List.mem_of_getElem? (i := 2) rfl) rfl (x := ((σ 0 7) + 1)) (ty := .int) (by decide +kernel) rfl rfl (by show _ < List.length _; exact Nat.le_of_ble_eq_true rfl) (sM ad _ _ 7 (by decide)) dX4_readsSign_73 (fun H locs w => ?_)
          refine lv_iconst (v := 0) hx hb dX4_readsSign_76 (by decide) ?_
          refine lv_istore (lv' := [(4, .int 0), (3, .int (f_X4_codeAt σ p1 p2)), (0, .ref (ad 0)), (1, .int p1), (2, .int p2)]) hx hb dX4_readsSign_77 hl (by decide) rfl (fun ls hl => ?_)
          have L79 : ∀ (n : Nat) (res79 : (Int32 × St) ⊕ (St)), ∀ (v4_79 : Int32), ∀ (S_79 : St), ((0 ≤ v4_79.toInt ∧ v4_79.toInt ≤ 9) ∧ (0 ≤ (S_79 0 7).toInt ∧ (S_79 0 7).toInt ≤ 100 + v4_79.toInt) ∧ (S_79 0 8 = σ 0 8)) → (9 - v4_79.toInt).toNat < n → (lp_X4_readsSign_79 p1 p2 (f_X4_codeAt σ p1 p2) n v4_79 S_79) = res79 → (∀ r : Int32 × St, res79 = Sum.inl r → r = T) → (∀ (S_79e : St), (S_79e 0 8 = σ 0 8) → res79 = Sum.inr S_79e → ∀ (H : Heap) (locs : List Loc), CW 18 (eM ad) ad D (CA 18 ad sz) s.heap S_79e H locs → ∀ ls : Array Slot, lv_has ls 6 [(0, .ref (ad 0)), (3, .int (f_X4_codeAt σ p1 p2))] → W p l e (headSpec wsX4_readsSign ({ frames := 1, cells := 0, slots := 0, locals := 25 })).room s m ([.ref (ad 0), .int p1, .int p2] : List Value).toArray below meth c H locs 0 0 (MQ below (QWi 18 (eM ad) ad D T (CA 18 ad sz)) ([.ref (ad 0), .int p1, .int p2] : List Value).toArray s 0 0 (CA 18 ad sz)) (F0 m 145 ls [])) → ∀ (H : Heap) (locs : List Loc), CW 18 (eM ad) ad D (CA 18 ad sz) s.heap S_79 H locs → ∀ ls : Array Slot, lv_has ls 6 [(0, .ref (ad 0)), (1, .int p1), (2, .int p2), (3, .int (f_X4_codeAt σ p1 p2)), (4, .int v4_79)] → W p l e (headSpec wsX4_readsSign ({ frames := 1, cells := 0, slots := 0, locals := 25 })).room s m ([.ref (ad 0), .int p1, .int p2] : List Value).toArray below meth c H locs 0 0 (MQ below (QWi 18 (eM ad) ad D T (CA 18 ad sz)) ([.ref (ad 0), .int p1, .int p2] : List Value).toArray s 0 0 (CA 18 ad sz)) (F0 m 79 ls []) := by
            intro n
            induction n with
            | zero => intro _ _ _ _ hm; exact absurd hm (Nat.not_lt_zero _)
            | succ n ih79 =>
              intro res79 v4_79 S_79 hI79 hm79 hG hret79 hex79 H locs w ls hl
              obtain ⟨i79_0, i79_1, i79_2⟩ := id hI79
              rw [lp_X4_readsSign_79] at hG
              have e7s := inc_toInt (a := S_79 0 7) (by omega) (by omega)
              refine lv_iload hx hb dX4_readsSign_79 (lv_at hl 4 rfl) ?_
              refine lv_bipush (v := 9) hx hb dX4_readsSign_81 (by decide) ?_
              refine lv_icmp_ge (tgt := 145) hx hb dX4_readsSign_83 (by decide) (fun c83 => ?_) (fun c83 => ?_)
              · have t83 : 9 ≤ v4_79.toInt := qt_le c83
                rw [if_pos c83] at hG
                exact hex79 S_79 i79_2 hG.symm _ _ w ls (lv_sub hl [0, 3] rfl)
              · have t83 : v4_79.toInt < 9 := qt_nle c83
                rw [if_neg c83] at hG
                refine lv_aload_n hx hb dX4_readsSign_86 rfl (lv_at hl 0 rfl) ?_
                refine lv_iload_n hx hb dX4_readsSign_87 rfl (lv_at hl 1 rfl) ?_
                refine lv_iload_n hx hb dX4_readsSign_88 rfl (lv_at hl 2 rfl) ?_
                refine call0i (va_runV (As := [.int p1, .int p2]) (rest := []) S (c_X4_codeAt l ad D H.size S_79 p1 p2 (by omega) (by omega) (by omega) i79_1.1) (cwV 2 S.2.2.2.2 gX4_readsSign_X4_codeAt rfl rfl rfl ⟨rfl, hd_X4_codeAt⟩ ⟨Nat.le_of_ble_eq_true rfl, Nat.le_of_ble_eq_true rfl⟩) (preV hK hN w (k := 0) (by decide) (eM_0 ad _) (q := (RX4, TX4, 25)) rfl) rfl rfl hl.1 rfl (lv_room (Nat.le_of_ble_eq_true rfl)) dX4_readsSign_89 ⟨Nat.zero_le _, Nat.zero_le _⟩) ?_
                refine lv_bipush (v := 48) hx hb dX4_readsSign_92 (by decide) ?_
                refine lv_isub hx hb dX4_readsSign_94 ?_
                refine lv_istore (lv' := [(5, .int ((f_X4_codeAt S_79 p1 p2) - 48)), (0, .ref (ad 0)), (1, .int p1), (2, .int p2), (3, .int (f_X4_codeAt σ p1 p2)), (4, .int v4_79)]) hx hb dX4_readsSign_95 hl (by decide) rfl (fun ls hl => ?_)
                refine lv_iload hx hb dX4_readsSign_97 (lv_at hl 0 rfl) ?_
                refine lv_i2l hx hb dX4_readsSign_99 rfl ?_
                refine lv_lconst (v := 0) hx hb dX4_readsSign_100 (by decide) ?_
                refine lv_ldc2 hx hb S.2.2.2.1 (S.2.2.2.2 _ (List.mem_of_getElem? (i := 3) rfl)) dX4_readsSign_101 ?_
                refine call0i (va_runS (As := [.long (((f_X4_codeAt S_79 p1 p2) - 48).toInt64), .long 0, .long 9]) (rest := []) S (c_X4_in l (((f_X4_codeAt S_79 p1 p2) - 48).toInt64) 0 9) (va_cwS 3 S.2.2.2.2 gX4_readsSign_X4_in rfl rfl rfl hd_X4_in ⟨Nat.le_of_ble_eq_true rfl, Nat.le_of_ble_eq_true rfl⟩) pre0S rfl rfl hl.1 rfl (lv_room (Nat.le_of_ble_eq_true rfl)) dX4_readsSign_104 ⟨Nat.zero_le _, Nat.zero_le _⟩) ?_
                refine lv_if_ne (tgt := 112) hx hb dX4_readsSign_107 (by decide) (fun c107 => ?_) (fun c107 => ?_)
                · have t107 := bf_in_n c107
                  rw [if_neg c107] at hG
                  refine lv_aload_n hx hb dX4_readsSign_112 rfl (lv_at hl 1 rfl) ?_
                  refine r_get (C := RX4) (T := TX4) (N := 25) S hK w (k := 0) (by decide) (eM_0 ad _) rfl hinX4 10 (by decide) (List.mem_of_getElem? (i := 4) rfl) rfl dX4_readsSign_113 ?_
                  refine lv_bipush (v := 9) hx hb dX4_readsSign_116 (by decide) ?_
                  refine lv_aload_n hx hb dX4_readsSign_118 rfl (lv_at hl 1 rfl) ?_
                  refine r_get (C := RX4) (T := TX4) (N := 25) S hK w (k := 0) (by decide) (eM_0 ad _) rfl hinX4 8 (by decide) (List.mem_of_getElem? (i := 1) rfl) rfl dX4_readsSign_119 ?_
                  refine lv_imul hx hb dX4_readsSign_122 ?_
                  refine lv_iload hx hb dX4_readsSign_123 (lv_at hl 5 rfl) ?_
                  refine lv_iadd hx hb dX4_readsSign_125 ?_
                  refine lv_iload hx hb dX4_readsSign_126 (lv_at hl 0 rfl) ?_
                  have q8 : (S_79 0 8).toInt = (σ 0 8).toInt := by rw [i79_2]
                  have e122 := km_toInt (a := S_79 0 8) (k := 9) (z := 9) (by decide) (by omega) (by omega)
                  have e125 := a_toInt (a := 9 * S_79 0 8) (b := v4_79) (by omega) (by omega)
                  have g128 : vp_in ((9 * (S_79 0 8)) + v4_79) 72 := vpi (by omega) (by omega)
                  refine r_iast (cA := ad 100) (N := 72) S hK w (k := 5) (by decide) (fun f => rfl) rfl g128 dX4_readsSign_128 (fun H locs w => ?_)
                  refine lv_aload_n hx hb dX4_readsSign_129 rfl (lv_at hl 1 rfl) ?_
                  refine lv_dup hx hb dX4_readsSign_130 rfl ?_
                  refine r_get (C := RX4) (T := TX4) (N := 25) S hK w (k := 0) (by decide) (eM_0 ad _) rfl hinX4 7 (by decide) (List.mem_of_getElem? (i := 2) rfl) rfl dX4_readsSign_131 ?_
                  refine lv_iconst (v := 1) hx hb dX4_readsSign_134 (by decide) ?_
                  refine lv_iadd hx hb dX4_readsSign_135 ?_
                  refine r_put (C := RX4) (T := TX4) (N := 25) S hK w (k := 0) (by decide) (eM_0 ad _) rfl hinX4 tyX4 tyX4_ok nmX4 7 (by decide) (List.mem_of_getElem? (i := 2) rfl) rfl (x := (((u2 S_79 5 (ix ((9 * (S_79 0 8)) + v4_79)) ((f_X4_codeAt S_79 p1 p2) - 48)) 0 7) + 1)) (ty := .int) (by decide +kernel) rfl rfl (by show _ < List.length _; exact Nat.le_of_ble_eq_true rfl) (sM ad _ _ 7 (by decide)) dX4_readsSign_136 (fun H locs w => ?_)
                  refine lv_iinc (v := (v4_79 + 1)) (lv' := [(4, .int (v4_79 + 1)), (5, .int ((f_X4_codeAt S_79 p1 p2) - 48)), (0, .ref (ad 0)), (1, .int p1), (2, .int p2), (3, .int (f_X4_codeAt σ p1 p2))]) hx hb dX4_readsSign_139 hl (k := 5) rfl rfl (by decide) rfl (fun ls hl => ?_)
                  refine lv_goto (tgt := 79) hx hb dX4_readsSign_142 (by decide) ?_
                  have b4_79 : (v4_79 + 1).toInt = v4_79.toInt + 1 := inc_toInt (by omega) (by omega)
                  exact ih79 _ (v4_79 + 1) (u2 (u2 S_79 5 (ix ((9 * (S_79 0 8)) + v4_79)) ((f_X4_codeAt S_79 p1 p2) - 48)) 0 7 (((u2 S_79 5 (ix ((9 * (S_79 0 8)) + v4_79)) ((f_X4_codeAt S_79 p1 p2) - 48)) 0 7) + 1)) ⟨(by omega), (by show 0 ≤ (S_79 0 7 + 1).toInt ∧ (S_79 0 7 + 1).toInt ≤ 100 + (v4_79 + 1).toInt; omega), (by show S_79 0 8 = σ 0 8; exact i79_2)⟩ (by omega) hG hret79 hex79 _ _ w ls (lv_sub hl [2, 3, 4, 5, 0] rfl)
                · rw [if_pos c107] at hG
                  refine lv_iconst (v := 0) hx hb dX4_readsSign_110 (by decide) ?_
                  exact endWz S hr hlocks w (Or.inl rfl) (hret79 _ hG.symm) dX4_readsSign_111
          refine L79 200 _ 0 (u2 σ 0 7 ((σ 0 7) + 1)) ⟨(by omega), (by first | (show 0 ≤ (σ 0 7 + 1).toInt ∧ (σ 0 7 + 1).toInt ≤ 100 + (0 : Int32).toInt; omega) | (show 0 ≤ (σ 0 7 + 1 + 1).toInt ∧ (σ 0 7 + 1 + 1).toInt ≤ 100 + (0 : Int32).toInt; omega)), rfl⟩ (by omega) rfl (fun r hr79 => by rw [hr79] at hG; exact hG) (fun S_79e x79_0 hr79 H locs w ls hl => ?_) _ _ w ls (lv_sub hl [2, 3, 4, 1, 0] rfl)
          rw [hr79] at hG
          dsimp only at hG
          refine lv_aload_n hx hb dX4_readsSign_145 rfl (lv_at hl 0 rfl) ?_
          refine r_get (C := RX4) (T := TX4) (N := 25) S hK w (k := 0) (by decide) (eM_0 ad _) rfl hinX4 9 (by decide) (List.mem_of_getElem? (i := 5) rfl) rfl dX4_readsSign_146 ?_
          refine lv_aload_n hx hb dX4_readsSign_149 rfl (lv_at hl 0 rfl) ?_
          refine r_get (C := RX4) (T := TX4) (N := 25) S hK w (k := 0) (by decide) (eM_0 ad _) rfl hinX4 8 (by decide) (List.mem_of_getElem? (i := 1) rfl) rfl dX4_readsSign_150 ?_
          refine lv_iload_n hx hb dX4_readsSign_153 rfl (lv_at hl 1 rfl) ?_
          refine lv_bipush (v := 112) hx hb dX4_readsSign_154 (by decide) ?_
          have J156_174 : ∀ (k2_156_174 : Int32), (1, (u2 (u2 S_79e 4 (ix (S_79e 0 8)) k2_156_174) 0 8 (((u2 S_79e 4 (ix (S_79e 0 8)) k2_156_174) 0 8) + 1))) = T → ∀ (H : Heap) (locs : List Loc), CW 18 (eM ad) ad D (CA 18 ad sz) s.heap S_79e H locs → ∀ ls : Array Slot, lv_has ls 6 [(0, .ref (ad 0))] → W p l e (headSpec wsX4_readsSign ({ frames := 1, cells := 0, slots := 0, locals := 25 })).room s m ([.ref (ad 0), .int p1, .int p2] : List Value).toArray below meth c H locs 0 0 (MQ below (QWi 18 (eM ad) ad D T (CA 18 ad sz)) ([.ref (ad 0), .int p1, .int p2] : List Value).toArray s 0 0 (CA 18 ad sz)) (F0 m 174 ls [.int k2_156_174, .int (S_79e 0 8), .ref (ad 4)]) := by
            intro k2_156_174 hG H locs w ls hl
            have g174 : vp_in (S_79e 0 8) 8 := (vpi (by rw [x79_0]; omega) (by rw [x79_0]; omega))
            refine r_iast (cA := ad 100) (N := 8) S hK w (k := 4) (by decide) (fun f => rfl) rfl g174 dX4_readsSign_174 (fun H locs w => ?_)
            refine lv_aload_n hx hb dX4_readsSign_175 rfl (lv_at hl 0 rfl) ?_
            refine lv_dup hx hb dX4_readsSign_176 rfl ?_
            refine r_get (C := RX4) (T := TX4) (N := 25) S hK w (k := 0) (by decide) (eM_0 ad _) rfl hinX4 8 (by decide) (List.mem_of_getElem? (i := 1) rfl) rfl dX4_readsSign_177 ?_
            refine lv_iconst (v := 1) hx hb dX4_readsSign_180 (by decide) ?_
            refine lv_iadd hx hb dX4_readsSign_181 ?_
            refine r_put (C := RX4) (T := TX4) (N := 25) S hK w (k := 0) (by decide) (eM_0 ad _) rfl hinX4 tyX4 tyX4_ok nmX4 8 (by decide) (List.mem_of_getElem? (i := 1) rfl) rfl (x := (((u2 S_79e 4 (ix (S_79e 0 8)) k2_156_174) 0 8) + 1)) (ty := .int) (by decide +kernel) rfl rfl (by show _ < List.length _; exact Nat.le_of_ble_eq_true rfl) (sM ad _ _ 8 (by decide)) dX4_readsSign_182 (fun H locs w => ?_)
            refine lv_iconst (v := 1) hx hb dX4_readsSign_185 (by decide) ?_
            exact endWz S hr hlocks w (Or.inr rfl) hG dX4_readsSign_186
          refine lv_icmp_ne (tgt := 163) hx hb dX4_readsSign_156 (by decide) (fun c156 => ?_) (fun c156 => ?_)
          · have t156 : (f_X4_codeAt σ p1 p2).toInt ≠ 112 := qt_ne c156
            simp only [if_neg c156] at hG
            refine lv_iload_n hx hb dX4_readsSign_163 rfl (lv_at hl 1 rfl) ?_
            refine lv_bipush (v := 102) hx hb dX4_readsSign_164 (by decide) ?_
            refine lv_icmp_ne (tgt := 173) hx hb dX4_readsSign_166 (by decide) (fun c166 => ?_) (fun c166 => ?_)
            · have t166 : (f_X4_codeAt σ p1 p2).toInt ≠ 102 := qt_ne c166
              simp only [if_neg c166] at hG
              refine lv_iconst (v := 2) hx hb dX4_readsSign_173 (by decide) ?_
              exact J156_174 2 hG _ _ w ls (lv_sub hl [0] rfl)
            · have t166 : (f_X4_codeAt σ p1 p2).toInt = 102 := qt_eq c166
              simp only [if_pos c166] at hG
              refine lv_iconst (v := 1) hx hb dX4_readsSign_169 (by decide) ?_
              refine lv_goto (tgt := 174) hx hb dX4_readsSign_170 (by decide) ?_
              exact J156_174 1 hG _ _ w ls (lv_sub hl [0] rfl)
          · have t156 : (f_X4_codeAt σ p1 p2).toInt = 112 := qt_eq c156
            simp only [if_pos c156] at hG
            refine lv_iconst (v := 0) hx hb dX4_readsSign_159 (by decide) ?_
            refine lv_goto (tgt := 174) hx hb dX4_readsSign_160 (by decide) ?_
            exact J156_174 0 hG _ _ w ls (lv_sub hl [0] rfl)
        · have t61 : (f_X4_codeAt σ p1 p2).toInt ≠ 115 := qt_ne c61
          rw [if_neg c61] at hG
          refine lv_iconst (v := 0) hx hb dX4_readsSign_64 (by decide) ?_
          exact endWz S hr hlocks w (Or.inl rfl) hG dX4_readsSign_65
  · have t4 : 0 < (σ 0 8).toInt := qt_nle c4
    rw [if_neg c4] at hG
    refine lv_aload_n hx hb dX4_readsSign_7 rfl (lv_at hl 0 rfl) ?_
    refine r_get (C := RX4) (T := TX4) (N := 25) S hK w (k := 0) (by decide) (eM_0 ad _) rfl hinX4 8 (by decide) (List.mem_of_getElem? (i := 1) rfl) rfl dX4_readsSign_8 ?_
    refine lv_bipush (v := 8) hx hb dX4_readsSign_11 (by decide) ?_
    refine lv_icmp_eq (tgt := 27) hx hb dX4_readsSign_13 (by decide) (fun c13 => ?_) (fun c13 => ?_)
    · have t13 : (σ 0 8).toInt = 8 := qt_eq c13
      rw [if_pos c13] at hG
      refine lv_iconst (v := 0) hx hb dX4_readsSign_27 (by decide) ?_
      exact endWz S hr hlocks w (Or.inl rfl) hG dX4_readsSign_28
    · have t13 : (σ 0 8).toInt ≠ 8 := qt_ne c13
      rw [if_neg c13] at hG
      refine lv_aload_n hx hb dX4_readsSign_16 rfl (lv_at hl 0 rfl) ?_
      refine lv_iload_n hx hb dX4_readsSign_17 rfl (lv_at hl 1 rfl) ?_
      refine lv_iload_n hx hb dX4_readsSign_18 rfl (lv_at hl 2 rfl) ?_
      refine call0i (va_runV (As := [.int p1, .int p2]) (rest := []) S (c_X4_codeAt l ad D s.heap.size σ p1 p2 (by omega) (by omega) (by omega) hs7.1) (cwV 2 S.2.2.2.2 gX4_readsSign_X4_codeAt rfl rfl rfl ⟨rfl, hd_X4_codeAt⟩ ⟨Nat.le_of_ble_eq_true rfl, Nat.le_of_ble_eq_true rfl⟩) (preV hK hN w (k := 0) (by decide) (eM_0 ad _) (q := (RX4, TX4, 25)) rfl) rfl rfl hl.1 rfl (lv_room (Nat.le_of_ble_eq_true rfl)) dX4_readsSign_19 ⟨Nat.zero_le _, Nat.zero_le _⟩) ?_
      refine lv_bipush (v := 59) hx hb dX4_readsSign_22 (by decide) ?_
      refine lv_icmp_eq (tgt := 29) hx hb dX4_readsSign_24 (by decide) (fun c24 => ?_) (fun c24 => ?_)
      · have t24 : (f_X4_codeAt σ p1 p2).toInt = 59 := qt_eq c24
        rw [if_pos c24] at hG
        refine lv_aload_n hx hb dX4_readsSign_29 rfl (lv_at hl 0 rfl) ?_
        refine lv_dup hx hb dX4_readsSign_30 rfl ?_
        refine r_get (C := RX4) (T := TX4) (N := 25) S hK w (k := 0) (by decide) (eM_0 ad _) rfl hinX4 7 (by decide) (List.mem_of_getElem? (i := 2) rfl) rfl dX4_readsSign_31 ?_
        refine lv_iconst (v := 1) hx hb dX4_readsSign_34 (by decide) ?_
        refine lv_iadd hx hb dX4_readsSign_35 ?_
        refine r_put (C := RX4) (T := TX4) (N := 25) S hK w (k := 0) (by decide) (eM_0 ad _) rfl hinX4 tyX4 tyX4_ok nmX4 7 (by decide) (List.mem_of_getElem? (i := 2) rfl) rfl (x := ((σ 0 7) + 1)) (ty := .int) (by decide +kernel) rfl rfl (by show _ < List.length _; exact Nat.le_of_ble_eq_true rfl) (sM ad _ _ 7 (by decide)) dX4_readsSign_36 (fun H locs w => ?_)
        refine lv_aload_n hx hb dX4_readsSign_39 rfl (lv_at hl 0 rfl) ?_
        refine lv_iload_n hx hb dX4_readsSign_40 rfl (lv_at hl 1 rfl) ?_
        refine lv_iload_n hx hb dX4_readsSign_41 rfl (lv_at hl 2 rfl) ?_
        refine call0i (va_runV (As := [.int p1, .int p2]) (rest := []) S (c_X4_codeAt l ad D H.size (u2 σ 0 7 ((σ 0 7) + 1)) p1 p2 (by omega) (by omega) (by omega) (by first | omega | (show 0 ≤ (σ 0 7 + 1).toInt; omega))) (cwV 2 S.2.2.2.2 gX4_readsSign_X4_codeAt rfl rfl rfl ⟨rfl, hd_X4_codeAt⟩ ⟨Nat.le_of_ble_eq_true rfl, Nat.le_of_ble_eq_true rfl⟩) (preV hK hN w (k := 0) (by decide) (eM_0 ad _) (q := (RX4, TX4, 25)) rfl) rfl rfl hl.1 rfl (lv_room (Nat.le_of_ble_eq_true rfl)) dX4_readsSign_42 ⟨Nat.zero_le _, Nat.zero_le _⟩) ?_
        refine lv_istore_n (lv' := [(3, .int (f_X4_codeAt (u2 σ 0 7 ((σ 0 7) + 1)) p1 p2)), (0, .ref (ad 0)), (1, .int p1), (2, .int p2)]) hx hb dX4_readsSign_45 rfl hl (by decide) rfl (fun ls hl => ?_)
        refine lv_iload_n hx hb dX4_readsSign_46 rfl (lv_at hl 0 rfl) ?_
        refine lv_bipush (v := 112) hx hb dX4_readsSign_47 (by decide) ?_
        refine lv_icmp_eq (tgt := 66) hx hb dX4_readsSign_49 (by decide) (fun c49 => ?_) (fun c49 => ?_)
        · have t49 : (f_X4_codeAt (u2 σ 0 7 ((σ 0 7) + 1)) p1 p2).toInt = 112 := qt_eq c49
          rw [if_pos c49] at hG
          refine lv_aload_n hx hb dX4_readsSign_66 rfl (lv_at hl 1 rfl) ?_
          refine lv_dup hx hb dX4_readsSign_67 rfl ?_
          refine r_get (C := RX4) (T := TX4) (N := 25) S hK w (k := 0) (by decide) (eM_0 ad _) rfl hinX4 7 (by decide) (List.mem_of_getElem? (i := 2) rfl) rfl dX4_readsSign_68 ?_
          refine lv_iconst (v := 1) hx hb dX4_readsSign_71 (by decide) ?_
          refine lv_iadd hx hb dX4_readsSign_72 ?_
          refine r_put (C := RX4) (T := TX4) (N := 25) S hK w (k := 0) (by decide) (eM_0 ad _) rfl hinX4 tyX4 tyX4_ok nmX4 7 (by decide) (List.mem_of_getElem? (i := 2) rfl) rfl (x := (((u2 σ 0 7 ((σ 0 7) + 1)) 0 7) + 1)) (ty := .int) (by decide +kernel) rfl rfl (by show _ < List.length _; exact Nat.le_of_ble_eq_true rfl) (sM ad _ _ 7 (by decide)) dX4_readsSign_73 (fun H locs w => ?_)
          refine lv_iconst (v := 0) hx hb dX4_readsSign_76 (by decide) ?_
          refine lv_istore (lv' := [(4, .int 0), (3, .int (f_X4_codeAt (u2 σ 0 7 ((σ 0 7) + 1)) p1 p2)), (0, .ref (ad 0)), (1, .int p1), (2, .int p2)]) hx hb dX4_readsSign_77 hl (by decide) rfl (fun ls hl => ?_)
          have L79 : ∀ (n : Nat) (res79 : (Int32 × St) ⊕ (St)), ∀ (v4_79 : Int32), ∀ (S_79 : St), ((0 ≤ v4_79.toInt ∧ v4_79.toInt ≤ 9) ∧ (0 ≤ (S_79 0 7).toInt ∧ (S_79 0 7).toInt ≤ 100 + v4_79.toInt) ∧ (S_79 0 8 = σ 0 8)) → (9 - v4_79.toInt).toNat < n → (lp_X4_readsSign_79 p1 p2 (f_X4_codeAt (u2 σ 0 7 ((σ 0 7) + 1)) p1 p2) n v4_79 S_79) = res79 → (∀ r : Int32 × St, res79 = Sum.inl r → r = T) → (∀ (S_79e : St), (S_79e 0 8 = σ 0 8) → res79 = Sum.inr S_79e → ∀ (H : Heap) (locs : List Loc), CW 18 (eM ad) ad D (CA 18 ad sz) s.heap S_79e H locs → ∀ ls : Array Slot, lv_has ls 6 [(0, .ref (ad 0)), (3, .int (f_X4_codeAt (u2 σ 0 7 ((σ 0 7) + 1)) p1 p2))] → W p l e (headSpec wsX4_readsSign ({ frames := 1, cells := 0, slots := 0, locals := 25 })).room s m ([.ref (ad 0), .int p1, .int p2] : List Value).toArray below meth c H locs 0 0 (MQ below (QWi 18 (eM ad) ad D T (CA 18 ad sz)) ([.ref (ad 0), .int p1, .int p2] : List Value).toArray s 0 0 (CA 18 ad sz)) (F0 m 145 ls [])) → ∀ (H : Heap) (locs : List Loc), CW 18 (eM ad) ad D (CA 18 ad sz) s.heap S_79 H locs → ∀ ls : Array Slot, lv_has ls 6 [(0, .ref (ad 0)), (1, .int p1), (2, .int p2), (3, .int (f_X4_codeAt (u2 σ 0 7 ((σ 0 7) + 1)) p1 p2)), (4, .int v4_79)] → W p l e (headSpec wsX4_readsSign ({ frames := 1, cells := 0, slots := 0, locals := 25 })).room s m ([.ref (ad 0), .int p1, .int p2] : List Value).toArray below meth c H locs 0 0 (MQ below (QWi 18 (eM ad) ad D T (CA 18 ad sz)) ([.ref (ad 0), .int p1, .int p2] : List Value).toArray s 0 0 (CA 18 ad sz)) (F0 m 79 ls []) := by
            intro n
            induction n with
            | zero => intro _ _ _ _ hm; exact absurd hm (Nat.not_lt_zero _)
            | succ n ih79 =>
              intro res79 v4_79 S_79 hI79 hm79 hG hret79 hex79 H locs w ls hl
              obtain ⟨i79_0, i79_1, i79_2⟩ := id hI79
              rw [lp_X4_readsSign_79] at hG
              have e7s := inc_toInt (a := S_79 0 7) (by omega) (by omega)
              refine lv_iload hx hb dX4_readsSign_79 (lv_at hl 4 rfl) ?_
              refine lv_bipush (v := 9) hx hb dX4_readsSign_81 (by decide) ?_
              refine lv_icmp_ge (tgt := 145) hx hb dX4_readsSign_83 (by decide) (fun c83 => ?_) (fun c83 => ?_)
              · have t83 : 9 ≤ v4_79.toInt := qt_le c83
                rw [if_pos c83] at hG
                exact hex79 S_79 i79_2 hG.symm _ _ w ls (lv_sub hl [0, 3] rfl)
              · have t83 : v4_79.toInt < 9 := qt_nle c83
                rw [if_neg c83] at hG
                refine lv_aload_n hx hb dX4_readsSign_86 rfl (lv_at hl 0 rfl) ?_
                refine lv_iload_n hx hb dX4_readsSign_87 rfl (lv_at hl 1 rfl) ?_
                refine lv_iload_n hx hb dX4_readsSign_88 rfl (lv_at hl 2 rfl) ?_
                refine call0i (va_runV (As := [.int p1, .int p2]) (rest := []) S (c_X4_codeAt l ad D H.size S_79 p1 p2 (by omega) (by omega) (by omega) i79_1.1) (cwV 2 S.2.2.2.2 gX4_readsSign_X4_codeAt rfl rfl rfl ⟨rfl, hd_X4_codeAt⟩ ⟨Nat.le_of_ble_eq_true rfl, Nat.le_of_ble_eq_true rfl⟩) (preV hK hN w (k := 0) (by decide) (eM_0 ad _) (q := (RX4, TX4, 25)) rfl) rfl rfl hl.1 rfl (lv_room (Nat.le_of_ble_eq_true rfl)) dX4_readsSign_89 ⟨Nat.zero_le _, Nat.zero_le _⟩) ?_
                refine lv_bipush (v := 48) hx hb dX4_readsSign_92 (by decide) ?_
                refine lv_isub hx hb dX4_readsSign_94 ?_
                refine lv_istore (lv' := [(5, .int ((f_X4_codeAt S_79 p1 p2) - 48)), (0, .ref (ad 0)), (1, .int p1), (2, .int p2), (3, .int (f_X4_codeAt (u2 σ 0 7 ((σ 0 7) + 1)) p1 p2)), (4, .int v4_79)]) hx hb dX4_readsSign_95 hl (by decide) rfl (fun ls hl => ?_)
                refine lv_iload hx hb dX4_readsSign_97 (lv_at hl 0 rfl) ?_
                refine lv_i2l hx hb dX4_readsSign_99 rfl ?_
                refine lv_lconst (v := 0) hx hb dX4_readsSign_100 (by decide) ?_
                refine lv_ldc2 hx hb S.2.2.2.1 (S.2.2.2.2 _ (List.mem_of_getElem? (i := 3) rfl)) dX4_readsSign_101 ?_
                refine call0i (va_runS (As := [.long (((f_X4_codeAt S_79 p1 p2) - 48).toInt64), .long 0, .long 9]) (rest := []) S (c_X4_in l (((f_X4_codeAt S_79 p1 p2) - 48).toInt64) 0 9) (va_cwS 3 S.2.2.2.2 gX4_readsSign_X4_in rfl rfl rfl hd_X4_in ⟨Nat.le_of_ble_eq_true rfl, Nat.le_of_ble_eq_true rfl⟩) pre0S rfl rfl hl.1 rfl (lv_room (Nat.le_of_ble_eq_true rfl)) dX4_readsSign_104 ⟨Nat.zero_le _, Nat.zero_le _⟩) ?_
                refine lv_if_ne (tgt := 112) hx hb dX4_readsSign_107 (by decide) (fun c107 => ?_) (fun c107 => ?_)
                · have t107 := bf_in_n c107
                  rw [if_neg c107] at hG
                  refine lv_aload_n hx hb dX4_readsSign_112 rfl (lv_at hl 1 rfl) ?_
                  refine r_get (C := RX4) (T := TX4) (N := 25) S hK w (k := 0) (by decide) (eM_0 ad _) rfl hinX4 10 (by decide) (List.mem_of_getElem? (i := 4) rfl) rfl dX4_readsSign_113 ?_
                  refine lv_bipush (v := 9) hx hb dX4_readsSign_116 (by decide) ?_
                  refine lv_aload_n hx hb dX4_readsSign_118 rfl (lv_at hl 1 rfl) ?_
                  refine r_get (C := RX4) (T := TX4) (N := 25) S hK w (k := 0) (by decide) (eM_0 ad _) rfl hinX4 8 (by decide) (List.mem_of_getElem? (i := 1) rfl) rfl dX4_readsSign_119 ?_
                  refine lv_imul hx hb dX4_readsSign_122 ?_
                  refine lv_iload hx hb dX4_readsSign_123 (lv_at hl 5 rfl) ?_
                  refine lv_iadd hx hb dX4_readsSign_125 ?_
                  refine lv_iload hx hb dX4_readsSign_126 (lv_at hl 0 rfl) ?_
                  have q8 : (S_79 0 8).toInt = (σ 0 8).toInt := by rw [i79_2]
                  have e122 := km_toInt (a := S_79 0 8) (k := 9) (z := 9) (by decide) (by omega) (by omega)
                  have e125 := a_toInt (a := 9 * S_79 0 8) (b := v4_79) (by omega) (by omega)
                  have g128 : vp_in ((9 * (S_79 0 8)) + v4_79) 72 := vpi (by omega) (by omega)
                  refine r_iast (cA := ad 100) (N := 72) S hK w (k := 5) (by decide) (fun f => rfl) rfl g128 dX4_readsSign_128 (fun H locs w => ?_)
                  refine lv_aload_n hx hb dX4_readsSign_129 rfl (lv_at hl 1 rfl) ?_
                  refine lv_dup hx hb dX4_readsSign_130 rfl ?_
                  refine r_get (C := RX4) (T := TX4) (N := 25) S hK w (k := 0) (by decide) (eM_0 ad _) rfl hinX4 7 (by decide) (List.mem_of_getElem? (i := 2) rfl) rfl dX4_readsSign_131 ?_
                  refine lv_iconst (v := 1) hx hb dX4_readsSign_134 (by decide) ?_
                  refine lv_iadd hx hb dX4_readsSign_135 ?_
                  refine r_put (C := RX4) (T := TX4) (N := 25) S hK w (k := 0) (by decide) (eM_0 ad _) rfl hinX4 tyX4 tyX4_ok nmX4 7 (by decide) (List.mem_of_getElem? (i := 2) rfl) rfl (x := (((u2 S_79 5 (ix ((9 * (S_79 0 8)) + v4_79)) ((f_X4_codeAt S_79 p1 p2) - 48)) 0 7) + 1)) (ty := .int) (by decide +kernel) rfl rfl (by show _ < List.length _; exact Nat.le_of_ble_eq_true rfl) (sM ad _ _ 7 (by decide)) dX4_readsSign_136 (fun H locs w => ?_)
                  refine lv_iinc (v := (v4_79 + 1)) (lv' := [(4, .int (v4_79 + 1)), (5, .int ((f_X4_codeAt S_79 p1 p2) - 48)), (0, .ref (ad 0)), (1, .int p1), (2, .int p2), (3, .int (f_X4_codeAt (u2 σ 0 7 ((σ 0 7) + 1)) p1 p2))]) hx hb dX4_readsSign_139 hl (k := 5) rfl rfl (by decide) rfl (fun ls hl => ?_)
                  refine lv_goto (tgt := 79) hx hb dX4_readsSign_142 (by decide) ?_
                  have b4_79 : (v4_79 + 1).toInt = v4_79.toInt + 1 := inc_toInt (by omega) (by omega)
                  exact ih79 _ (v4_79 + 1) (u2 (u2 S_79 5 (ix ((9 * (S_79 0 8)) + v4_79)) ((f_X4_codeAt S_79 p1 p2) - 48)) 0 7 (((u2 S_79 5 (ix ((9 * (S_79 0 8)) + v4_79)) ((f_X4_codeAt S_79 p1 p2) - 48)) 0 7) + 1)) ⟨(by omega), (by show 0 ≤ (S_79 0 7 + 1).toInt ∧ (S_79 0 7 + 1).toInt ≤ 100 + (v4_79 + 1).toInt; omega), (by show S_79 0 8 = σ 0 8; exact i79_2)⟩ (by omega) hG hret79 hex79 _ _ w ls (lv_sub hl [2, 3, 4, 5, 0] rfl)
                · rw [if_pos c107] at hG
                  refine lv_iconst (v := 0) hx hb dX4_readsSign_110 (by decide) ?_
                  exact endWz S hr hlocks w (Or.inl rfl) (hret79 _ hG.symm) dX4_readsSign_111
          refine L79 200 _ 0 (u2 (u2 σ 0 7 ((σ 0 7) + 1)) 0 7 (((u2 σ 0 7 ((σ 0 7) + 1)) 0 7) + 1)) ⟨(by omega), (by first | (show 0 ≤ (σ 0 7 + 1).toInt ∧ (σ 0 7 + 1).toInt ≤ 100 + (0 : Int32).toInt; omega) | (show 0 ≤ (σ 0 7 + 1 + 1).toInt ∧ (σ 0 7 + 1 + 1).toInt ≤ 100 + (0 : Int32).toInt; omega)), rfl⟩ (by omega) rfl (fun r hr79 => by rw [hr79] at hG; exact hG) (fun S_79e x79_0 hr79 H locs w ls hl => ?_) _ _ w ls (lv_sub hl [2, 3, 4, 1, 0] rfl)
          rw [hr79] at hG
          dsimp only at hG
          refine lv_aload_n hx hb dX4_readsSign_145 rfl (lv_at hl 0 rfl) ?_
          refine r_get (C := RX4) (T := TX4) (N := 25) S hK w (k := 0) (by decide) (eM_0 ad _) rfl hinX4 9 (by decide) (List.mem_of_getElem? (i := 5) rfl) rfl dX4_readsSign_146 ?_
          refine lv_aload_n hx hb dX4_readsSign_149 rfl (lv_at hl 0 rfl) ?_
          refine r_get (C := RX4) (T := TX4) (N := 25) S hK w (k := 0) (by decide) (eM_0 ad _) rfl hinX4 8 (by decide) (List.mem_of_getElem? (i := 1) rfl) rfl dX4_readsSign_150 ?_
          refine lv_iload_n hx hb dX4_readsSign_153 rfl (lv_at hl 1 rfl) ?_
          refine lv_bipush (v := 112) hx hb dX4_readsSign_154 (by decide) ?_
          have J156_174 : ∀ (k2_156_174 : Int32), (1, (u2 (u2 S_79e 4 (ix (S_79e 0 8)) k2_156_174) 0 8 (((u2 S_79e 4 (ix (S_79e 0 8)) k2_156_174) 0 8) + 1))) = T → ∀ (H : Heap) (locs : List Loc), CW 18 (eM ad) ad D (CA 18 ad sz) s.heap S_79e H locs → ∀ ls : Array Slot, lv_has ls 6 [(0, .ref (ad 0))] → W p l e (headSpec wsX4_readsSign ({ frames := 1, cells := 0, slots := 0, locals := 25 })).room s m ([.ref (ad 0), .int p1, .int p2] : List Value).toArray below meth c H locs 0 0 (MQ below (QWi 18 (eM ad) ad D T (CA 18 ad sz)) ([.ref (ad 0), .int p1, .int p2] : List Value).toArray s 0 0 (CA 18 ad sz)) (F0 m 174 ls [.int k2_156_174, .int (S_79e 0 8), .ref (ad 4)]) := by
            intro k2_156_174 hG H locs w ls hl
            have g174 : vp_in (S_79e 0 8) 8 := (vpi (by rw [x79_0]; omega) (by rw [x79_0]; omega))
            refine r_iast (cA := ad 100) (N := 8) S hK w (k := 4) (by decide) (fun f => rfl) rfl g174 dX4_readsSign_174 (fun H locs w => ?_)
            refine lv_aload_n hx hb dX4_readsSign_175 rfl (lv_at hl 0 rfl) ?_
            refine lv_dup hx hb dX4_readsSign_176 rfl ?_
            refine r_get (C := RX4) (T := TX4) (N := 25) S hK w (k := 0) (by decide) (eM_0 ad _) rfl hinX4 8 (by decide) (List.mem_of_getElem? (i := 1) rfl) rfl dX4_readsSign_177 ?_
            refine lv_iconst (v := 1) hx hb dX4_readsSign_180 (by decide) ?_
            refine lv_iadd hx hb dX4_readsSign_181 ?_
            refine r_put (C := RX4) (T := TX4) (N := 25) S hK w (k := 0) (by decide) (eM_0 ad _) rfl hinX4 tyX4 tyX4_ok nmX4 8 (by decide) (List.mem_of_getElem? (i := 1) rfl) rfl (x := (((u2 S_79e 4 (ix (S_79e 0 8)) k2_156_174) 0 8) + 1)) (ty := .int) (by decide +kernel) rfl rfl (by show _ < List.length _; exact Nat.le_of_ble_eq_true rfl) (sM ad _ _ 8 (by decide)) dX4_readsSign_182 (fun H locs w => ?_)
            refine lv_iconst (v := 1) hx hb dX4_readsSign_185 (by decide) ?_
            exact endWz S hr hlocks w (Or.inr rfl) hG dX4_readsSign_186
          refine lv_icmp_ne (tgt := 163) hx hb dX4_readsSign_156 (by decide) (fun c156 => ?_) (fun c156 => ?_)
          · have t156 : (f_X4_codeAt (u2 σ 0 7 ((σ 0 7) + 1)) p1 p2).toInt ≠ 112 := qt_ne c156
            simp only [if_neg c156] at hG
            refine lv_iload_n hx hb dX4_readsSign_163 rfl (lv_at hl 1 rfl) ?_
            refine lv_bipush (v := 102) hx hb dX4_readsSign_164 (by decide) ?_
            refine lv_icmp_ne (tgt := 173) hx hb dX4_readsSign_166 (by decide) (fun c166 => ?_) (fun c166 => ?_)
            · have t166 : (f_X4_codeAt (u2 σ 0 7 ((σ 0 7) + 1)) p1 p2).toInt ≠ 102 := qt_ne c166
              simp only [if_neg c166] at hG
              refine lv_iconst (v := 2) hx hb dX4_readsSign_173 (by decide) ?_
              exact J156_174 2 hG _ _ w ls (lv_sub hl [0] rfl)
            · have t166 : (f_X4_codeAt (u2 σ 0 7 ((σ 0 7) + 1)) p1 p2).toInt = 102 := qt_eq c166
              simp only [if_pos c166] at hG
              refine lv_iconst (v := 1) hx hb dX4_readsSign_169 (by decide) ?_
              refine lv_goto (tgt := 174) hx hb dX4_readsSign_170 (by decide) ?_
              exact J156_174 1 hG _ _ w ls (lv_sub hl [0] rfl)
          · have t156 : (f_X4_codeAt (u2 σ 0 7 ((σ 0 7) + 1)) p1 p2).toInt = 112 := qt_eq c156
            simp only [if_pos c156] at hG
            refine lv_iconst (v := 0) hx hb dX4_readsSign_159 (by decide) ?_
            refine lv_goto (tgt := 174) hx hb dX4_readsSign_160 (by decide) ?_
            exact J156_174 0 hG _ _ w ls (lv_sub hl [0] rfl)
        · have t49 : (f_X4_codeAt (u2 σ 0 7 ((σ 0 7) + 1)) p1 p2).toInt ≠ 112 := qt_ne c49
          rw [if_neg c49] at hG
          refine lv_iload_n hx hb dX4_readsSign_52 rfl (lv_at hl 0 rfl) ?_
          refine lv_bipush (v := 102) hx hb dX4_readsSign_53 (by decide) ?_
          refine lv_icmp_eq (tgt := 66) hx hb dX4_readsSign_55 (by decide) (fun c55 => ?_) (fun c55 => ?_)
          · have t55 : (f_X4_codeAt (u2 σ 0 7 ((σ 0 7) + 1)) p1 p2).toInt = 102 := qt_eq c55
            rw [if_pos c55] at hG
            refine lv_aload_n hx hb dX4_readsSign_66 rfl (lv_at hl 1 rfl) ?_
            refine lv_dup hx hb dX4_readsSign_67 rfl ?_
            refine r_get (C := RX4) (T := TX4) (N := 25) S hK w (k := 0) (by decide) (eM_0 ad _) rfl hinX4 7 (by decide) (List.mem_of_getElem? (i := 2) rfl) rfl dX4_readsSign_68 ?_
            refine lv_iconst (v := 1) hx hb dX4_readsSign_71 (by decide) ?_
            refine lv_iadd hx hb dX4_readsSign_72 ?_
            refine r_put (C := RX4) (T := TX4) (N := 25) S hK w (k := 0) (by decide) (eM_0 ad _) rfl hinX4 tyX4 tyX4_ok nmX4 7 (by decide) (List.mem_of_getElem? (i := 2) rfl) rfl (x := (((u2 σ 0 7 ((σ 0 7) + 1)) 0 7) + 1)) (ty := .int) (by decide +kernel) rfl rfl (by show _ < List.length _; exact Nat.le_of_ble_eq_true rfl) (sM ad _ _ 7 (by decide)) dX4_readsSign_73 (fun H locs w => ?_)
            refine lv_iconst (v := 0) hx hb dX4_readsSign_76 (by decide) ?_
            refine lv_istore (lv' := [(4, .int 0), (3, .int (f_X4_codeAt (u2 σ 0 7 ((σ 0 7) + 1)) p1 p2)), (0, .ref (ad 0)), (1, .int p1), (2, .int p2)]) hx hb dX4_readsSign_77 hl (by decide) rfl (fun ls hl => ?_)
            have L79 : ∀ (n : Nat) (res79 : (Int32 × St) ⊕ (St)), ∀ (v4_79 : Int32), ∀ (S_79 : St), ((0 ≤ v4_79.toInt ∧ v4_79.toInt ≤ 9) ∧ (0 ≤ (S_79 0 7).toInt ∧ (S_79 0 7).toInt ≤ 100 + v4_79.toInt) ∧ (S_79 0 8 = σ 0 8)) → (9 - v4_79.toInt).toNat < n → (lp_X4_readsSign_79 p1 p2 (f_X4_codeAt (u2 σ 0 7 ((σ 0 7) + 1)) p1 p2) n v4_79 S_79) = res79 → (∀ r : Int32 × St, res79 = Sum.inl r → r = T) → (∀ (S_79e : St), (S_79e 0 8 = σ 0 8) → res79 = Sum.inr S_79e → ∀ (H : Heap) (locs : List Loc), CW 18 (eM ad) ad D (CA 18 ad sz) s.heap S_79e H locs → ∀ ls : Array Slot, lv_has ls 6 [(0, .ref (ad 0)), (3, .int (f_X4_codeAt (u2 σ 0 7 ((σ 0 7) + 1)) p1 p2))] → W p l e (headSpec wsX4_readsSign ({ frames := 1, cells := 0, slots := 0, locals := 25 })).room s m ([.ref (ad 0), .int p1, .int p2] : List Value).toArray below meth c H locs 0 0 (MQ below (QWi 18 (eM ad) ad D T (CA 18 ad sz)) ([.ref (ad 0), .int p1, .int p2] : List Value).toArray s 0 0 (CA 18 ad sz)) (F0 m 145 ls [])) → ∀ (H : Heap) (locs : List Loc), CW 18 (eM ad) ad D (CA 18 ad sz) s.heap S_79 H locs → ∀ ls : Array Slot, lv_has ls 6 [(0, .ref (ad 0)), (1, .int p1), (2, .int p2), (3, .int (f_X4_codeAt (u2 σ 0 7 ((σ 0 7) + 1)) p1 p2)), (4, .int v4_79)] → W p l e (headSpec wsX4_readsSign ({ frames := 1, cells := 0, slots := 0, locals := 25 })).room s m ([.ref (ad 0), .int p1, .int p2] : List Value).toArray below meth c H locs 0 0 (MQ below (QWi 18 (eM ad) ad D T (CA 18 ad sz)) ([.ref (ad 0), .int p1, .int p2] : List Value).toArray s 0 0 (CA 18 ad sz)) (F0 m 79 ls []) := by
              intro n
              induction n with
              | zero => intro _ _ _ _ hm; exact absurd hm (Nat.not_lt_zero _)
              | succ n ih79 =>
                intro res79 v4_79 S_79 hI79 hm79 hG hret79 hex79 H locs w ls hl
                obtain ⟨i79_0, i79_1, i79_2⟩ := id hI79
                rw [lp_X4_readsSign_79] at hG
                have e7s := inc_toInt (a := S_79 0 7) (by omega) (by omega)
                refine lv_iload hx hb dX4_readsSign_79 (lv_at hl 4 rfl) ?_
                refine lv_bipush (v := 9) hx hb dX4_readsSign_81 (by decide) ?_
                refine lv_icmp_ge (tgt := 145) hx hb dX4_readsSign_83 (by decide) (fun c83 => ?_) (fun c83 => ?_)
                · have t83 : 9 ≤ v4_79.toInt := qt_le c83
                  rw [if_pos c83] at hG
                  exact hex79 S_79 i79_2 hG.symm _ _ w ls (lv_sub hl [0, 3] rfl)
                · have t83 : v4_79.toInt < 9 := qt_nle c83
                  rw [if_neg c83] at hG
                  refine lv_aload_n hx hb dX4_readsSign_86 rfl (lv_at hl 0 rfl) ?_
                  refine lv_iload_n hx hb dX4_readsSign_87 rfl (lv_at hl 1 rfl) ?_
                  refine lv_iload_n hx hb dX4_readsSign_88 rfl (lv_at hl 2 rfl) ?_
                  refine call0i (va_runV (As := [.int p1, .int p2]) (rest := []) S (c_X4_codeAt l ad D H.size S_79 p1 p2 (by omega) (by omega) (by omega) i79_1.1) (cwV 2 S.2.2.2.2 gX4_readsSign_X4_codeAt rfl rfl rfl ⟨rfl, hd_X4_codeAt⟩ ⟨Nat.le_of_ble_eq_true rfl, Nat.le_of_ble_eq_true rfl⟩) (preV hK hN w (k := 0) (by decide) (eM_0 ad _) (q := (RX4, TX4, 25)) rfl) rfl rfl hl.1 rfl (lv_room (Nat.le_of_ble_eq_true rfl)) dX4_readsSign_89 ⟨Nat.zero_le _, Nat.zero_le _⟩) ?_
                  refine lv_bipush (v := 48) hx hb dX4_readsSign_92 (by decide) ?_
                  refine lv_isub hx hb dX4_readsSign_94 ?_
                  refine lv_istore (lv' := [(5, .int ((f_X4_codeAt S_79 p1 p2) - 48)), (0, .ref (ad 0)), (1, .int p1), (2, .int p2), (3, .int (f_X4_codeAt (u2 σ 0 7 ((σ 0 7) + 1)) p1 p2)), (4, .int v4_79)]) hx hb dX4_readsSign_95 hl (by decide) rfl (fun ls hl => ?_)
                  refine lv_iload hx hb dX4_readsSign_97 (lv_at hl 0 rfl) ?_
                  refine lv_i2l hx hb dX4_readsSign_99 rfl ?_
                  refine lv_lconst (v := 0) hx hb dX4_readsSign_100 (by decide) ?_
                  refine lv_ldc2 hx hb S.2.2.2.1 (S.2.2.2.2 _ (List.mem_of_getElem? (i := 3) rfl)) dX4_readsSign_101 ?_
                  refine call0i (va_runS (As := [.long (((f_X4_codeAt S_79 p1 p2) - 48).toInt64), .long 0, .long 9]) (rest := []) S (c_X4_in l (((f_X4_codeAt S_79 p1 p2) - 48).toInt64) 0 9) (va_cwS 3 S.2.2.2.2 gX4_readsSign_X4_in rfl rfl rfl hd_X4_in ⟨Nat.le_of_ble_eq_true rfl, Nat.le_of_ble_eq_true rfl⟩) pre0S rfl rfl hl.1 rfl (lv_room (Nat.le_of_ble_eq_true rfl)) dX4_readsSign_104 ⟨Nat.zero_le _, Nat.zero_le _⟩) ?_
                  refine lv_if_ne (tgt := 112) hx hb dX4_readsSign_107 (by decide) (fun c107 => ?_) (fun c107 => ?_)
                  · have t107 := bf_in_n c107
                    rw [if_neg c107] at hG
                    refine lv_aload_n hx hb dX4_readsSign_112 rfl (lv_at hl 1 rfl) ?_
                    refine r_get (C := RX4) (T := TX4) (N := 25) S hK w (k := 0) (by decide) (eM_0 ad _) rfl hinX4 10 (by decide) (List.mem_of_getElem? (i := 4) rfl) rfl dX4_readsSign_113 ?_
                    refine lv_bipush (v := 9) hx hb dX4_readsSign_116 (by decide) ?_
                    refine lv_aload_n hx hb dX4_readsSign_118 rfl (lv_at hl 1 rfl) ?_
                    refine r_get (C := RX4) (T := TX4) (N := 25) S hK w (k := 0) (by decide) (eM_0 ad _) rfl hinX4 8 (by decide) (List.mem_of_getElem? (i := 1) rfl) rfl dX4_readsSign_119 ?_
                    refine lv_imul hx hb dX4_readsSign_122 ?_
                    refine lv_iload hx hb dX4_readsSign_123 (lv_at hl 5 rfl) ?_
                    refine lv_iadd hx hb dX4_readsSign_125 ?_
                    refine lv_iload hx hb dX4_readsSign_126 (lv_at hl 0 rfl) ?_
                    have q8 : (S_79 0 8).toInt = (σ 0 8).toInt := by rw [i79_2]
                    have e122 := km_toInt (a := S_79 0 8) (k := 9) (z := 9) (by decide) (by omega) (by omega)
                    have e125 := a_toInt (a := 9 * S_79 0 8) (b := v4_79) (by omega) (by omega)
                    have g128 : vp_in ((9 * (S_79 0 8)) + v4_79) 72 := vpi (by omega) (by omega)
                    refine r_iast (cA := ad 100) (N := 72) S hK w (k := 5) (by decide) (fun f => rfl) rfl g128 dX4_readsSign_128 (fun H locs w => ?_)
                    refine lv_aload_n hx hb dX4_readsSign_129 rfl (lv_at hl 1 rfl) ?_
                    refine lv_dup hx hb dX4_readsSign_130 rfl ?_
                    refine r_get (C := RX4) (T := TX4) (N := 25) S hK w (k := 0) (by decide) (eM_0 ad _) rfl hinX4 7 (by decide) (List.mem_of_getElem? (i := 2) rfl) rfl dX4_readsSign_131 ?_
                    refine lv_iconst (v := 1) hx hb dX4_readsSign_134 (by decide) ?_
                    refine lv_iadd hx hb dX4_readsSign_135 ?_
                    refine r_put (C := RX4) (T := TX4) (N := 25) S hK w (k := 0) (by decide) (eM_0 ad _) rfl hinX4 tyX4 tyX4_ok nmX4 7 (by decide) (List.mem_of_getElem? (i := 2) rfl) rfl (x := (((u2 S_79 5 (ix ((9 * (S_79 0 8)) + v4_79)) ((f_X4_codeAt S_79 p1 p2) - 48)) 0 7) + 1)) (ty := .int) (by decide +kernel) rfl rfl (by show _ < List.length _; exact Nat.le_of_ble_eq_true rfl) (sM ad _ _ 7 (by decide)) dX4_readsSign_136 (fun H locs w => ?_)
                    refine lv_iinc (v := (v4_79 + 1)) (lv' := [(4, .int (v4_79 + 1)), (5, .int ((f_X4_codeAt S_79 p1 p2) - 48)), (0, .ref (ad 0)), (1, .int p1), (2, .int p2), (3, .int (f_X4_codeAt (u2 σ 0 7 ((σ 0 7) + 1)) p1 p2))]) hx hb dX4_readsSign_139 hl (k := 5) rfl rfl (by decide) rfl (fun ls hl => ?_)
                    refine lv_goto (tgt := 79) hx hb dX4_readsSign_142 (by decide) ?_
                    have b4_79 : (v4_79 + 1).toInt = v4_79.toInt + 1 := inc_toInt (by omega) (by omega)
                    exact ih79 _ (v4_79 + 1) (u2 (u2 S_79 5 (ix ((9 * (S_79 0 8)) + v4_79)) ((f_X4_codeAt S_79 p1 p2) - 48)) 0 7 (((u2 S_79 5 (ix ((9 * (S_79 0 8)) + v4_79)) ((f_X4_codeAt S_79 p1 p2) - 48)) 0 7) + 1)) ⟨(by omega), (by show 0 ≤ (S_79 0 7 + 1).toInt ∧ (S_79 0 7 + 1).toInt ≤ 100 + (v4_79 + 1).toInt; omega), (by show S_79 0 8 = σ 0 8; exact i79_2)⟩ (by omega) hG hret79 hex79 _ _ w ls (lv_sub hl [2, 3, 4, 5, 0] rfl)
                  · rw [if_pos c107] at hG
                    refine lv_iconst (v := 0) hx hb dX4_readsSign_110 (by decide) ?_
                    exact endWz S hr hlocks w (Or.inl rfl) (hret79 _ hG.symm) dX4_readsSign_111
            refine L79 200 _ 0 (u2 (u2 σ 0 7 ((σ 0 7) + 1)) 0 7 (((u2 σ 0 7 ((σ 0 7) + 1)) 0 7) + 1)) ⟨(by omega), (by first | (show 0 ≤ (σ 0 7 + 1).toInt ∧ (σ 0 7 + 1).toInt ≤ 100 + (0 : Int32).toInt; omega) | (show 0 ≤ (σ 0 7 + 1 + 1).toInt ∧ (σ 0 7 + 1 + 1).toInt ≤ 100 + (0 : Int32).toInt; omega)), rfl⟩ (by omega) rfl (fun r hr79 => by rw [hr79] at hG; exact hG) (fun S_79e x79_0 hr79 H locs w ls hl => ?_) _ _ w ls (lv_sub hl [2, 3, 4, 1, 0] rfl)
            rw [hr79] at hG
            dsimp only at hG
            refine lv_aload_n hx hb dX4_readsSign_145 rfl (lv_at hl 0 rfl) ?_
            refine r_get (C := RX4) (T := TX4) (N := 25) S hK w (k := 0) (by decide) (eM_0 ad _) rfl hinX4 9 (by decide) (List.mem_of_getElem? (i := 5) rfl) rfl dX4_readsSign_146 ?_
            refine lv_aload_n hx hb dX4_readsSign_149 rfl (lv_at hl 0 rfl) ?_
            refine r_get (C := RX4) (T := TX4) (N := 25) S hK w (k := 0) (by decide) (eM_0 ad _) rfl hinX4 8 (by decide) (List.mem_of_getElem? (i := 1) rfl) rfl dX4_readsSign_150 ?_
            refine lv_iload_n hx hb dX4_readsSign_153 rfl (lv_at hl 1 rfl) ?_
            refine lv_bipush (v := 112) hx hb dX4_readsSign_154 (by decide) ?_
            have J156_174 : ∀ (k2_156_174 : Int32), (1, (u2 (u2 S_79e 4 (ix (S_79e 0 8)) k2_156_174) 0 8 (((u2 S_79e 4 (ix (S_79e 0 8)) k2_156_174) 0 8) + 1))) = T → ∀ (H : Heap) (locs : List Loc), CW 18 (eM ad) ad D (CA 18 ad sz) s.heap S_79e H locs → ∀ ls : Array Slot, lv_has ls 6 [(0, .ref (ad 0))] → W p l e (headSpec wsX4_readsSign ({ frames := 1, cells := 0, slots := 0, locals := 25 })).room s m ([.ref (ad 0), .int p1, .int p2] : List Value).toArray below meth c H locs 0 0 (MQ below (QWi 18 (eM ad) ad D T (CA 18 ad sz)) ([.ref (ad 0), .int p1, .int p2] : List Value).toArray s 0 0 (CA 18 ad sz)) (F0 m 174 ls [.int k2_156_174, .int (S_79e 0 8), .ref (ad 4)]) := by
              intro k2_156_174 hG H locs w ls hl
              have g174 : vp_in (S_79e 0 8) 8 := (vpi (by rw [x79_0]; omega) (by rw [x79_0]; omega))
              refine r_iast (cA := ad 100) (N := 8) S hK w (k := 4) (by decide) (fun f => rfl) rfl g174 dX4_readsSign_174 (fun H locs w => ?_)
              refine lv_aload_n hx hb dX4_readsSign_175 rfl (lv_at hl 0 rfl) ?_
              refine lv_dup hx hb dX4_readsSign_176 rfl ?_
              refine r_get (C := RX4) (T := TX4) (N := 25) S hK w (k := 0) (by decide) (eM_0 ad _) rfl hinX4 8 (by decide) (List.mem_of_getElem? (i := 1) rfl) rfl dX4_readsSign_177 ?_
              refine lv_iconst (v := 1) hx hb dX4_readsSign_180 (by decide) ?_
              refine lv_iadd hx hb dX4_readsSign_181 ?_
              refine r_put (C := RX4) (T := TX4) (N := 25) S hK w (k := 0) (by decide) (eM_0 ad _) rfl hinX4 tyX4 tyX4_ok nmX4 8 (by decide) (List.mem_of_getElem? (i := 1) rfl) rfl (x := (((u2 S_79e 4 (ix (S_79e 0 8)) k2_156_174) 0 8) + 1)) (ty := .int) (by decide +kernel) rfl rfl (by show _ < List.length _; exact Nat.le_of_ble_eq_true rfl) (sM ad _ _ 8 (by decide)) dX4_readsSign_182 (fun H locs w => ?_)
              refine lv_iconst (v := 1) hx hb dX4_readsSign_185 (by decide) ?_
              exact endWz S hr hlocks w (Or.inr rfl) hG dX4_readsSign_186
            refine lv_icmp_ne (tgt := 163) hx hb dX4_readsSign_156 (by decide) (fun c156 => ?_) (fun c156 => ?_)
            · have t156 : (f_X4_codeAt (u2 σ 0 7 ((σ 0 7) + 1)) p1 p2).toInt ≠ 112 := qt_ne c156
              simp only [if_neg c156] at hG
              refine lv_iload_n hx hb dX4_readsSign_163 rfl (lv_at hl 1 rfl) ?_
              refine lv_bipush (v := 102) hx hb dX4_readsSign_164 (by decide) ?_
              refine lv_icmp_ne (tgt := 173) hx hb dX4_readsSign_166 (by decide) (fun c166 => ?_) (fun c166 => ?_)
              · have t166 : (f_X4_codeAt (u2 σ 0 7 ((σ 0 7) + 1)) p1 p2).toInt ≠ 102 := qt_ne c166
                simp only [if_neg c166] at hG
                refine lv_iconst (v := 2) hx hb dX4_readsSign_173 (by decide) ?_
                exact J156_174 2 hG _ _ w ls (lv_sub hl [0] rfl)
              · have t166 : (f_X4_codeAt (u2 σ 0 7 ((σ 0 7) + 1)) p1 p2).toInt = 102 := qt_eq c166
                simp only [if_pos c166] at hG
                refine lv_iconst (v := 1) hx hb dX4_readsSign_169 (by decide) ?_
                refine lv_goto (tgt := 174) hx hb dX4_readsSign_170 (by decide) ?_
                exact J156_174 1 hG _ _ w ls (lv_sub hl [0] rfl)
            · have t156 : (f_X4_codeAt (u2 σ 0 7 ((σ 0 7) + 1)) p1 p2).toInt = 112 := qt_eq c156
              simp only [if_pos c156] at hG
              refine lv_iconst (v := 0) hx hb dX4_readsSign_159 (by decide) ?_
              refine lv_goto (tgt := 174) hx hb dX4_readsSign_160 (by decide) ?_
              exact J156_174 0 hG _ _ w ls (lv_sub hl [0] rfl)
          · have t55 : (f_X4_codeAt (u2 σ 0 7 ((σ 0 7) + 1)) p1 p2).toInt ≠ 102 := qt_ne c55
            rw [if_neg c55] at hG
            refine lv_iload_n hx hb dX4_readsSign_58 rfl (lv_at hl 0 rfl) ?_
            refine lv_bipush (v := 115) hx hb dX4_readsSign_59 (by decide) ?_
            refine lv_icmp_eq (tgt := 66) hx hb dX4_readsSign_61 (by decide) (fun c61 => ?_) (fun c61 => ?_)
            · have t61 : (f_X4_codeAt (u2 σ 0 7 ((σ 0 7) + 1)) p1 p2).toInt = 115 := qt_eq c61
              rw [if_pos c61] at hG
              refine lv_aload_n hx hb dX4_readsSign_66 rfl (lv_at hl 1 rfl) ?_
              refine lv_dup hx hb dX4_readsSign_67 rfl ?_
              refine r_get (C := RX4) (T := TX4) (N := 25) S hK w (k := 0) (by decide) (eM_0 ad _) rfl hinX4 7 (by decide) (List.mem_of_getElem? (i := 2) rfl) rfl dX4_readsSign_68 ?_
              refine lv_iconst (v := 1) hx hb dX4_readsSign_71 (by decide) ?_
              refine lv_iadd hx hb dX4_readsSign_72 ?_
              refine r_put (C := RX4) (T := TX4) (N := 25) S hK w (k := 0) (by decide) (eM_0 ad _) rfl hinX4 tyX4 tyX4_ok nmX4 7 (by decide) (List.mem_of_getElem? (i := 2) rfl) rfl (x := (((u2 σ 0 7 ((σ 0 7) + 1)) 0 7) + 1)) (ty := .int) (by decide +kernel) rfl rfl (by show _ < List.length _; exact Nat.le_of_ble_eq_true rfl) (sM ad _ _ 7 (by decide)) dX4_readsSign_73 (fun H locs w => ?_)
              refine lv_iconst (v := 0) hx hb dX4_readsSign_76 (by decide) ?_
              refine lv_istore (lv' := [(4, .int 0), (3, .int (f_X4_codeAt (u2 σ 0 7 ((σ 0 7) + 1)) p1 p2)), (0, .ref (ad 0)), (1, .int p1), (2, .int p2)]) hx hb dX4_readsSign_77 hl (by decide) rfl (fun ls hl => ?_)
              have L79 : ∀ (n : Nat) (res79 : (Int32 × St) ⊕ (St)), ∀ (v4_79 : Int32), ∀ (S_79 : St), ((0 ≤ v4_79.toInt ∧ v4_79.toInt ≤ 9) ∧ (0 ≤ (S_79 0 7).toInt ∧ (S_79 0 7).toInt ≤ 100 + v4_79.toInt) ∧ (S_79 0 8 = σ 0 8)) → (9 - v4_79.toInt).toNat < n → (lp_X4_readsSign_79 p1 p2 (f_X4_codeAt (u2 σ 0 7 ((σ 0 7) + 1)) p1 p2) n v4_79 S_79) = res79 → (∀ r : Int32 × St, res79 = Sum.inl r → r = T) → (∀ (S_79e : St), (S_79e 0 8 = σ 0 8) → res79 = Sum.inr S_79e → ∀ (H : Heap) (locs : List Loc), CW 18 (eM ad) ad D (CA 18 ad sz) s.heap S_79e H locs → ∀ ls : Array Slot, lv_has ls 6 [(0, .ref (ad 0)), (3, .int (f_X4_codeAt (u2 σ 0 7 ((σ 0 7) + 1)) p1 p2))] → W p l e (headSpec wsX4_readsSign ({ frames := 1, cells := 0, slots := 0, locals := 25 })).room s m ([.ref (ad 0), .int p1, .int p2] : List Value).toArray below meth c H locs 0 0 (MQ below (QWi 18 (eM ad) ad D T (CA 18 ad sz)) ([.ref (ad 0), .int p1, .int p2] : List Value).toArray s 0 0 (CA 18 ad sz)) (F0 m 145 ls [])) → ∀ (H : Heap) (locs : List Loc), CW 18 (eM ad) ad D (CA 18 ad sz) s.heap S_79 H locs → ∀ ls : Array Slot, lv_has ls 6 [(0, .ref (ad 0)), (1, .int p1), (2, .int p2), (3, .int (f_X4_codeAt (u2 σ 0 7 ((σ 0 7) + 1)) p1 p2)), (4, .int v4_79)] → W p l e (headSpec wsX4_readsSign ({ frames := 1, cells := 0, slots := 0, locals := 25 })).room s m ([.ref (ad 0), .int p1, .int p2] : List Value).toArray below meth c H locs 0 0 (MQ below (QWi 18 (eM ad) ad D T (CA 18 ad sz)) ([.ref (ad 0), .int p1, .int p2] : List Value).toArray s 0 0 (CA 18 ad sz)) (F0 m 79 ls []) := by
                intro n
                induction n with
                | zero => intro _ _ _ _ hm; exact absurd hm (Nat.not_lt_zero _)
                | succ n ih79 =>
                  intro res79 v4_79 S_79 hI79 hm79 hG hret79 hex79 H locs w ls hl
                  obtain ⟨i79_0, i79_1, i79_2⟩ := id hI79
                  rw [lp_X4_readsSign_79] at hG
                  have e7s := inc_toInt (a := S_79 0 7) (by omega) (by omega)
                  refine lv_iload hx hb dX4_readsSign_79 (lv_at hl 4 rfl) ?_
                  refine lv_bipush (v := 9) hx hb dX4_readsSign_81 (by decide) ?_
                  refine lv_icmp_ge (tgt := 145) hx hb dX4_readsSign_83 (by decide) (fun c83 => ?_) (fun c83 => ?_)
                  · have t83 : 9 ≤ v4_79.toInt := qt_le c83
                    rw [if_pos c83] at hG
                    exact hex79 S_79 i79_2 hG.symm _ _ w ls (lv_sub hl [0, 3] rfl)
                  · have t83 : v4_79.toInt < 9 := qt_nle c83
                    rw [if_neg c83] at hG
                    refine lv_aload_n hx hb dX4_readsSign_86 rfl (lv_at hl 0 rfl) ?_
                    refine lv_iload_n hx hb dX4_readsSign_87 rfl (lv_at hl 1 rfl) ?_
                    refine lv_iload_n hx hb dX4_readsSign_88 rfl (lv_at hl 2 rfl) ?_
                    refine call0i (va_runV (As := [.int p1, .int p2]) (rest := []) S (c_X4_codeAt l ad D H.size S_79 p1 p2 (by omega) (by omega) (by omega) i79_1.1) (cwV 2 S.2.2.2.2 gX4_readsSign_X4_codeAt rfl rfl rfl ⟨rfl, hd_X4_codeAt⟩ ⟨Nat.le_of_ble_eq_true rfl, Nat.le_of_ble_eq_true rfl⟩) (preV hK hN w (k := 0) (by decide) (eM_0 ad _) (q := (RX4, TX4, 25)) rfl) rfl rfl hl.1 rfl (lv_room (Nat.le_of_ble_eq_true rfl)) dX4_readsSign_89 ⟨Nat.zero_le _, Nat.zero_le _⟩) ?_
                    refine lv_bipush (v := 48) hx hb dX4_readsSign_92 (by decide) ?_
                    refine lv_isub hx hb dX4_readsSign_94 ?_
                    refine lv_istore (lv' := [(5, .int ((f_X4_codeAt S_79 p1 p2) - 48)), (0, .ref (ad 0)), (1, .int p1), (2, .int p2), (3, .int (f_X4_codeAt (u2 σ 0 7 ((σ 0 7) + 1)) p1 p2)), (4, .int v4_79)]) hx hb dX4_readsSign_95 hl (by decide) rfl (fun ls hl => ?_)
                    refine lv_iload hx hb dX4_readsSign_97 (lv_at hl 0 rfl) ?_
                    refine lv_i2l hx hb dX4_readsSign_99 rfl ?_
                    refine lv_lconst (v := 0) hx hb dX4_readsSign_100 (by decide) ?_
                    refine lv_ldc2 hx hb S.2.2.2.1 (S.2.2.2.2 _ (List.mem_of_getElem? (i := 3) rfl)) dX4_readsSign_101 ?_
                    refine call0i (va_runS (As := [.long (((f_X4_codeAt S_79 p1 p2) - 48).toInt64), .long 0, .long 9]) (rest := []) S (c_X4_in l (((f_X4_codeAt S_79 p1 p2) - 48).toInt64) 0 9) (va_cwS 3 S.2.2.2.2 gX4_readsSign_X4_in rfl rfl rfl hd_X4_in ⟨Nat.le_of_ble_eq_true rfl, Nat.le_of_ble_eq_true rfl⟩) pre0S rfl rfl hl.1 rfl (lv_room (Nat.le_of_ble_eq_true rfl)) dX4_readsSign_104 ⟨Nat.zero_le _, Nat.zero_le _⟩) ?_
                    refine lv_if_ne (tgt := 112) hx hb dX4_readsSign_107 (by decide) (fun c107 => ?_) (fun c107 => ?_)
                    · have t107 := bf_in_n c107
                      rw [if_neg c107] at hG
                      refine lv_aload_n hx hb dX4_readsSign_112 rfl (lv_at hl 1 rfl) ?_
                      refine r_get (C := RX4) (T := TX4) (N := 25) S hK w (k := 0) (by decide) (eM_0 ad _) rfl hinX4 10 (by decide) (List.mem_of_getElem? (i := 4) rfl) rfl dX4_readsSign_113 ?_
                      refine lv_bipush (v := 9) hx hb dX4_readsSign_116 (by decide) ?_
                      refine lv_aload_n hx hb dX4_readsSign_118 rfl (lv_at hl 1 rfl) ?_
                      refine r_get (C := RX4) (T := TX4) (N := 25) S hK w (k := 0) (by decide) (eM_0 ad _) rfl hinX4 8 (by decide) (List.mem_of_getElem? (i := 1) rfl) rfl dX4_readsSign_119 ?_
                      refine lv_imul hx hb dX4_readsSign_122 ?_
                      refine lv_iload hx hb dX4_readsSign_123 (lv_at hl 5 rfl) ?_
                      refine lv_iadd hx hb dX4_readsSign_125 ?_
                      refine lv_iload hx hb dX4_readsSign_126 (lv_at hl 0 rfl) ?_
                      have q8 : (S_79 0 8).toInt = (σ 0 8).toInt := by rw [i79_2]
                      have e122 := km_toInt (a := S_79 0 8) (k := 9) (z := 9) (by decide) (by omega) (by omega)
                      have e125 := a_toInt (a := 9 * S_79 0 8) (b := v4_79) (by omega) (by omega)
                      have g128 : vp_in ((9 * (S_79 0 8)) + v4_79) 72 := vpi (by omega) (by omega)
                      refine r_iast (cA := ad 100) (N := 72) S hK w (k := 5) (by decide) (fun f => rfl) rfl g128 dX4_readsSign_128 (fun H locs w => ?_)
                      refine lv_aload_n hx hb dX4_readsSign_129 rfl (lv_at hl 1 rfl) ?_
                      refine lv_dup hx hb dX4_readsSign_130 rfl ?_
                      refine r_get (C := RX4) (T := TX4) (N := 25) S hK w (k := 0) (by decide) (eM_0 ad _) rfl hinX4 7 (by decide) (List.mem_of_getElem? (i := 2) rfl) rfl dX4_readsSign_131 ?_
                      refine lv_iconst (v := 1) hx hb dX4_readsSign_134 (by decide) ?_
                      refine lv_iadd hx hb dX4_readsSign_135 ?_
                      refine r_put (C := RX4) (T := TX4) (N := 25) S hK w (k := 0) (by decide) (eM_0 ad _) rfl hinX4 tyX4 tyX4_ok nmX4 7 (by decide) (List.mem_of_getElem? (i := 2) rfl) rfl (x := (((u2 S_79 5 (ix ((9 * (S_79 0 8)) + v4_79)) ((f_X4_codeAt S_79 p1 p2) - 48)) 0 7) + 1)) (ty := .int) (by decide +kernel) rfl rfl (by show _ < List.length _; exact Nat.le_of_ble_eq_true rfl) (sM ad _ _ 7 (by decide)) dX4_readsSign_136 (fun H locs w => ?_)
                      refine lv_iinc (v := (v4_79 + 1)) (lv' := [(4, .int (v4_79 + 1)), (5, .int ((f_X4_codeAt S_79 p1 p2) - 48)), (0, .ref (ad 0)), (1, .int p1), (2, .int p2), (3, .int (f_X4_codeAt (u2 σ 0 7 ((σ 0 7) + 1)) p1 p2))]) hx hb dX4_readsSign_139 hl (k := 5) rfl rfl (by decide) rfl (fun ls hl => ?_)
                      refine lv_goto (tgt := 79) hx hb dX4_readsSign_142 (by decide) ?_
                      have b4_79 : (v4_79 + 1).toInt = v4_79.toInt + 1 := inc_toInt (by omega) (by omega)
                      exact ih79 _ (v4_79 + 1) (u2 (u2 S_79 5 (ix ((9 * (S_79 0 8)) + v4_79)) ((f_X4_codeAt S_79 p1 p2) - 48)) 0 7 (((u2 S_79 5 (ix ((9 * (S_79 0 8)) + v4_79)) ((f_X4_codeAt S_79 p1 p2) - 48)) 0 7) + 1)) ⟨(by omega), (by show 0 ≤ (S_79 0 7 + 1).toInt ∧ (S_79 0 7 + 1).toInt ≤ 100 + (v4_79 + 1).toInt; omega), (by show S_79 0 8 = σ 0 8; exact i79_2)⟩ (by omega) hG hret79 hex79 _ _ w ls (lv_sub hl [2, 3, 4, 5, 0] rfl)
                    · rw [if_pos c107] at hG
                      refine lv_iconst (v := 0) hx hb dX4_readsSign_110 (by decide) ?_
                      exact endWz S hr hlocks w (Or.inl rfl) (hret79 _ hG.symm) dX4_readsSign_111
              refine L79 200 _ 0 (u2 (u2 σ 0 7 ((σ 0 7) + 1)) 0 7 (((u2 σ 0 7 ((σ 0 7) + 1)) 0 7) + 1)) ⟨(by omega), (by first | (show 0 ≤ (σ 0 7 + 1).toInt ∧ (σ 0 7 + 1).toInt ≤ 100 + (0 : Int32).toInt; omega) | (show 0 ≤ (σ 0 7 + 1 + 1).toInt ∧ (σ 0 7 + 1 + 1).toInt ≤ 100 + (0 : Int32).toInt; omega)), rfl⟩ (by omega) rfl (fun r hr79 => by rw [hr79] at hG; exact hG) (fun S_79e x79_0 hr79 H locs w ls hl => ?_) _ _ w ls (lv_sub hl [2, 3, 4, 1, 0] rfl)
              rw [hr79] at hG
              dsimp only at hG
              refine lv_aload_n hx hb dX4_readsSign_145 rfl (lv_at hl 0 rfl) ?_
              refine r_get (C := RX4) (T := TX4) (N := 25) S hK w (k := 0) (by decide) (eM_0 ad _) rfl hinX4 9 (by decide) (List.mem_of_getElem? (i := 5) rfl) rfl dX4_readsSign_146 ?_
              refine lv_aload_n hx hb dX4_readsSign_149 rfl (lv_at hl 0 rfl) ?_
              refine r_get (C := RX4) (T := TX4) (N := 25) S hK w (k := 0) (by decide) (eM_0 ad _) rfl hinX4 8 (by decide) (List.mem_of_getElem? (i := 1) rfl) rfl dX4_readsSign_150 ?_
              refine lv_iload_n hx hb dX4_readsSign_153 rfl (lv_at hl 1 rfl) ?_
              refine lv_bipush (v := 112) hx hb dX4_readsSign_154 (by decide) ?_
              have J156_174 : ∀ (k2_156_174 : Int32), (1, (u2 (u2 S_79e 4 (ix (S_79e 0 8)) k2_156_174) 0 8 (((u2 S_79e 4 (ix (S_79e 0 8)) k2_156_174) 0 8) + 1))) = T → ∀ (H : Heap) (locs : List Loc), CW 18 (eM ad) ad D (CA 18 ad sz) s.heap S_79e H locs → ∀ ls : Array Slot, lv_has ls 6 [(0, .ref (ad 0))] → W p l e (headSpec wsX4_readsSign ({ frames := 1, cells := 0, slots := 0, locals := 25 })).room s m ([.ref (ad 0), .int p1, .int p2] : List Value).toArray below meth c H locs 0 0 (MQ below (QWi 18 (eM ad) ad D T (CA 18 ad sz)) ([.ref (ad 0), .int p1, .int p2] : List Value).toArray s 0 0 (CA 18 ad sz)) (F0 m 174 ls [.int k2_156_174, .int (S_79e 0 8), .ref (ad 4)]) := by
                intro k2_156_174 hG H locs w ls hl
                have g174 : vp_in (S_79e 0 8) 8 := (vpi (by rw [x79_0]; omega) (by rw [x79_0]; omega))
                refine r_iast (cA := ad 100) (N := 8) S hK w (k := 4) (by decide) (fun f => rfl) rfl g174 dX4_readsSign_174 (fun H locs w => ?_)
                refine lv_aload_n hx hb dX4_readsSign_175 rfl (lv_at hl 0 rfl) ?_
                refine lv_dup hx hb dX4_readsSign_176 rfl ?_
                refine r_get (C := RX4) (T := TX4) (N := 25) S hK w (k := 0) (by decide) (eM_0 ad _) rfl hinX4 8 (by decide) (List.mem_of_getElem? (i := 1) rfl) rfl dX4_readsSign_177 ?_
                refine lv_iconst (v := 1) hx hb dX4_readsSign_180 (by decide) ?_
                refine lv_iadd hx hb dX4_readsSign_181 ?_
                refine r_put (C := RX4) (T := TX4) (N := 25) S hK w (k := 0) (by decide) (eM_0 ad _) rfl hinX4 tyX4 tyX4_ok nmX4 8 (by decide) (List.mem_of_getElem? (i := 1) rfl) rfl (x := (((u2 S_79e 4 (ix (S_79e 0 8)) k2_156_174) 0 8) + 1)) (ty := .int) (by decide +kernel) rfl rfl (by show _ < List.length _; exact Nat.le_of_ble_eq_true rfl) (sM ad _ _ 8 (by decide)) dX4_readsSign_182 (fun H locs w => ?_)
                refine lv_iconst (v := 1) hx hb dX4_readsSign_185 (by decide) ?_
                exact endWz S hr hlocks w (Or.inr rfl) hG dX4_readsSign_186
              refine lv_icmp_ne (tgt := 163) hx hb dX4_readsSign_156 (by decide) (fun c156 => ?_) (fun c156 => ?_)
              · have t156 : (f_X4_codeAt (u2 σ 0 7 ((σ 0 7) + 1)) p1 p2).toInt ≠ 112 := qt_ne c156
                simp only [if_neg c156] at hG
                refine lv_iload_n hx hb dX4_readsSign_163 rfl (lv_at hl 1 rfl) ?_
                refine lv_bipush (v := 102) hx hb dX4_readsSign_164 (by decide) ?_
                refine lv_icmp_ne (tgt := 173) hx hb dX4_readsSign_166 (by decide) (fun c166 => ?_) (fun c166 => ?_)
                · have t166 : (f_X4_codeAt (u2 σ 0 7 ((σ 0 7) + 1)) p1 p2).toInt ≠ 102 := qt_ne c166
                  simp only [if_neg c166] at hG
                  refine lv_iconst (v := 2) hx hb dX4_readsSign_173 (by decide) ?_
                  exact J156_174 2 hG _ _ w ls (lv_sub hl [0] rfl)
                · have t166 : (f_X4_codeAt (u2 σ 0 7 ((σ 0 7) + 1)) p1 p2).toInt = 102 := qt_eq c166
                  simp only [if_pos c166] at hG
                  refine lv_iconst (v := 1) hx hb dX4_readsSign_169 (by decide) ?_
                  refine lv_goto (tgt := 174) hx hb dX4_readsSign_170 (by decide) ?_
                  exact J156_174 1 hG _ _ w ls (lv_sub hl [0] rfl)
              · have t156 : (f_X4_codeAt (u2 σ 0 7 ((σ 0 7) + 1)) p1 p2).toInt = 112 := qt_eq c156
                simp only [if_pos c156] at hG
                refine lv_iconst (v := 0) hx hb dX4_readsSign_159 (by decide) ?_
                refine lv_goto (tgt := 174) hx hb dX4_readsSign_160 (by decide) ?_
                exact J156_174 0 hG _ _ w ls (lv_sub hl [0] rfl)
            · have t61 : (f_X4_codeAt (u2 σ 0 7 ((σ 0 7) + 1)) p1 p2).toInt ≠ 115 := qt_ne c61
              rw [if_neg c61] at hG
              refine lv_iconst (v := 0) hx hb dX4_readsSign_64 (by decide) ?_
              exact endWz S hr hlocks w (Or.inl rfl) hG dX4_readsSign_65
      · have t24 : (f_X4_codeAt σ p1 p2).toInt ≠ 59 := qt_ne c24
        rw [if_neg c24] at hG
        refine lv_iconst (v := 0) hx hb dX4_readsSign_27 (by decide) ?_
        exact endWz S hr hlocks w (Or.inl rfl) hG dX4_readsSign_28
