set_option maxHeartbeats 4000000 in
set_option maxRecDepth 100000 in
theorem c_L_low (l : Launch) (p1 : Int32) (p2 : Int32) (hn : ¬ p2 = 0) : Met l yL_low wsL_low ({ frames := 0, cells := 0, slots := 0, locals := 0 }) (Pre0 ([.int p1, .int p2] : List Value)) (Q0i (f_L_low p1 p2)) 0 0 N0 := by
  generalize hG : f_L_low p1 p2 = T
  refine head0 (cc := cL_low) (maxL := 2) (ret := (some .int)) ([.int p1, .int p2] : List Value) (by decide) rfl (Nat.le_of_ble_eq_true rfl) ?_
  intro p e s m below meth c S hr hlocks ls hl
  have S : CallFix p m c cL_low 2 s ([.int p1, .int p2] : List Value).toArray wsL_low RL := S
  have hx := S.1
  have hb := S.2.1
  have z0 : (0 : Int32).toInt = 0 := by decide
  have z1 : (1 : Int32).toInt = 1 := by decide
  have hl : lv_has ls 2 [(0, .int p1), (1, .int p2)] := hl
  rw [f_L_low] at hG
  refine lv_iload_n hx hb dL_low_0 rfl (lv_at hl 0 rfl) ?_
  refine lv_ldc hx hb S.2.2.2.1 (S.2.2.2.2 _ (List.mem_of_getElem? (i := 1) rfl)) dL_low_1 ?_
  refine lv_iand hx hb dL_low_3 ?_
  refine lv_iload_n hx hb dL_low_4 rfl (lv_at hl 1 rfl) ?_
  refine lv_irem hx hb dL_low_5 hn ?_
  exact end0i S hr hlocks hG dL_low_6
set_option maxHeartbeats 4000000 in
set_option maxRecDepth 100000 in
theorem c_L_set (l : Launch) (ad : Nat → Nat) (D : va_G) (sz : Nat) (σ : St) (p3 : Int32) (p4 : Int32) (p5 : Int32) (hx : 0 ≤ p3.toInt ∧ p3.toInt < 8) (hkk : 0 ≤ p4.toInt ∧ p4.toInt < 10) : Met l yL_set wsL_set ({ frames := 0, cells := 0, slots := 0, locals := 0 }) (PreW 3 (eL ad) ad D (tyL ad) σ sz ([.ref (ad 1), .ref (ad 2), .int p3, .int p4, .int p5] : List Value)) (QWv 3 (eL ad) ad D (f_L_set σ p3 p4 p5) (CA 3 ad sz)) 0 0 (CA 3 ad sz) := by
  generalize hG : f_L_set σ p3 p4 p5 = T
  refine headW (cc := cL_set) (maxL := 5) (ret := none) ([.ref (ad 1), .ref (ad 2), .int p3, .int p4, .int p5] : List Value) (by decide) rfl (Nat.le_of_ble_eq_true rfl) ?_
  intro p e s m below meth c S hr hlocks hK hN hsz w ls hl
  have S : CallFix p m c cL_set 5 s ([.ref (ad 1), .ref (ad 2), .int p3, .int p4, .int p5] : List Value).toArray wsL_set RL := S
  have hx := S.1
  have hb := S.2.1
  have z0 : (0 : Int32).toInt = 0 := by decide
  have z1 : (1 : Int32).toInt = 1 := by decide
  have hl : lv_has ls 5 [(0, .ref (ad 1)), (1, .ref (ad 2)), (2, .int p3), (3, .int p4), (4, .int p5)] := hl
  rw [f_L_set] at hG
  refine lv_iload_n hx hb dL_set_0 rfl (lv_at hl 2 rfl) ?_
  refine lv_bipush (v := 6) hx hb dL_set_1 (by decide) ?_
  refine lv_icmp_ge (tgt := 19) hx hb dL_set_3 (by decide) (fun c3 => ?_) (fun c3 => ?_)
  · have t3 : 6 ≤ p3.toInt := qt_le c3
    rw [if_pos c3] at hG
    have e6 : (6 : Int32).toInt = 6 := by decide
    have e7 := s_toInt (a := p3) (b := 6) (by omega) (by omega)
    have e9 := km_toInt (a := p3 - 6) (k := 10) (z := 10) (by decide) (by omega) (by omega)
    have e11 := a_toInt (a := 10 * (p3 - 6)) (b := p4) (by omega) (by omega)
    refine lv_aload_n hx hb dL_set_19 rfl (lv_at hl 1 rfl) ?_
    refine lv_bipush (v := 10) hx hb dL_set_20 (by decide) ?_
    refine lv_iload_n hx hb dL_set_22 rfl (lv_at hl 2 rfl) ?_
    refine lv_bipush (v := 6) hx hb dL_set_23 (by decide) ?_
    refine lv_isub hx hb dL_set_25 ?_
    refine lv_imul hx hb dL_set_26 ?_
    refine lv_iload_n hx hb dL_set_27 rfl (lv_at hl 3 rfl) ?_
    refine lv_iadd hx hb dL_set_28 ?_
    refine lv_iload hx hb dL_set_29 (lv_at hl 4 rfl) ?_
    have g31 : vp_in ((10 * (p3 - 6)) + p4) 20 := vpi (by omega) (by omega)
    refine r_iast (cA := ad 100) (N := 20) S hK w (k := 2) (by decide) (fun f => rfl) rfl g31 dL_set_31 (fun H locs w => ?_)
    exact endWv S hr hlocks w hG dL_set_32
  · have t3 : p3.toInt < 6 := qt_nle c3
    rw [if_neg c3] at hG
    have e9 := km_toInt (a := p3) (k := 10) (z := 10) (by decide) (by omega) (by omega)
    have e11 := a_toInt (a := 10 * p3) (b := p4) (by omega) (by omega)
    refine lv_aload_n hx hb dL_set_6 rfl (lv_at hl 0 rfl) ?_
    refine lv_bipush (v := 10) hx hb dL_set_7 (by decide) ?_
    refine lv_iload_n hx hb dL_set_9 rfl (lv_at hl 2 rfl) ?_
    refine lv_imul hx hb dL_set_10 ?_
    refine lv_iload_n hx hb dL_set_11 rfl (lv_at hl 3 rfl) ?_
    refine lv_iadd hx hb dL_set_12 ?_
    refine lv_iload hx hb dL_set_13 (lv_at hl 4 rfl) ?_
    have g15 : vp_in ((10 * p3) + p4) 60 := vpi (by omega) (by omega)
    refine r_iast (cA := ad 100) (N := 60) S hK w (k := 1) (by decide) (fun f => rfl) rfl g15 dL_set_15 (fun H locs w => ?_)
    refine lv_goto (tgt := 32) hx hb dL_set_16 (by decide) ?_
    exact endWv S hr hlocks w hG dL_set_32
set_option maxHeartbeats 4000000 in
set_option maxRecDepth 100000 in
theorem c_L_get (l : Launch) (ad : Nat → Nat) (D : va_G) (sz : Nat) (σ : St) (p3 : Int32) (p4 : Int32) (hx : 0 ≤ p3.toInt ∧ p3.toInt < 8) (hkk : 0 ≤ p4.toInt ∧ p4.toInt < 10) : Met l yL_get wsL_get ({ frames := 0, cells := 0, slots := 0, locals := 0 }) (PreW 3 (eL ad) ad D (tyL ad) σ sz ([.ref (ad 1), .ref (ad 2), .int p3, .int p4] : List Value)) (Q0i (f_L_get σ p3 p4)) 0 0 N0 := by
  generalize hG : f_L_get σ p3 p4 = T
  refine headW (cc := cL_get) (maxL := 4) (ret := (some .int)) ([.ref (ad 1), .ref (ad 2), .int p3, .int p4] : List Value) (by decide) rfl (Nat.le_of_ble_eq_true rfl) ?_
  intro p e s m below meth c S hr hlocks hK hN hsz w ls hl
  have S : CallFix p m c cL_get 4 s ([.ref (ad 1), .ref (ad 2), .int p3, .int p4] : List Value).toArray wsL_get RL := S
  have hx := S.1
  have hb := S.2.1
  have z0 : (0 : Int32).toInt = 0 := by decide
  have z1 : (1 : Int32).toInt = 1 := by decide
  have hl : lv_has ls 4 [(0, .ref (ad 1)), (1, .ref (ad 2)), (2, .int p3), (3, .int p4)] := hl
  rw [f_L_get] at hG
  refine lv_iload_n hx hb dL_get_0 rfl (lv_at hl 2 rfl) ?_
  refine lv_bipush (v := 6) hx hb dL_get_1 (by decide) ?_
  refine lv_icmp_ge (tgt := 17) hx hb dL_get_3 (by decide) (fun c3 => ?_) (fun c3 => ?_)
  · have t3 : 6 ≤ p3.toInt := qt_le c3
    rw [if_pos c3] at hG
    have e6 : (6 : Int32).toInt = 6 := by decide
    have e7 := s_toInt (a := p3) (b := 6) (by omega) (by omega)
    have e9 := km_toInt (a := p3 - 6) (k := 10) (z := 10) (by decide) (by omega) (by omega)
    have e11 := a_toInt (a := 10 * (p3 - 6)) (b := p4) (by omega) (by omega)
    refine lv_aload_n hx hb dL_get_17 rfl (lv_at hl 1 rfl) ?_
    refine lv_bipush (v := 10) hx hb dL_get_18 (by decide) ?_
    refine lv_iload_n hx hb dL_get_20 rfl (lv_at hl 2 rfl) ?_
    refine lv_bipush (v := 6) hx hb dL_get_21 (by decide) ?_
    refine lv_isub hx hb dL_get_23 ?_
    refine lv_imul hx hb dL_get_24 ?_
    refine lv_iload_n hx hb dL_get_25 rfl (lv_at hl 3 rfl) ?_
    refine lv_iadd hx hb dL_get_26 ?_
    have g27 : vp_in ((10 * (p3 - 6)) + p4) 20 := vpi (by omega) (by omega)
    refine r_iald (cA := ad 100) (N := 20) S hK w (k := 2) (by decide) (fun f => rfl) rfl g27 dL_get_27 ?_
    exact end0i S hr hlocks hG dL_get_28
  · have t3 : p3.toInt < 6 := qt_nle c3
    rw [if_neg c3] at hG
    have e9 := km_toInt (a := p3) (k := 10) (z := 10) (by decide) (by omega) (by omega)
    have e11 := a_toInt (a := 10 * p3) (b := p4) (by omega) (by omega)
    refine lv_aload_n hx hb dL_get_6 rfl (lv_at hl 0 rfl) ?_
    refine lv_bipush (v := 10) hx hb dL_get_7 (by decide) ?_
    refine lv_iload_n hx hb dL_get_9 rfl (lv_at hl 2 rfl) ?_
    refine lv_imul hx hb dL_get_10 ?_
    refine lv_iload_n hx hb dL_get_11 rfl (lv_at hl 3 rfl) ?_
    refine lv_iadd hx hb dL_get_12 ?_
    have g13 : vp_in ((10 * p3) + p4) 60 := vpi (by omega) (by omega)
    refine r_iald (cA := ad 100) (N := 60) S hK w (k := 1) (by decide) (fun f => rfl) rfl g13 dL_get_13 ?_
    refine lv_goto (tgt := 28) hx hb dL_get_14 (by decide) ?_
    exact end0i S hr hlocks hG dL_get_28
set_option maxHeartbeats 4000000 in
set_option maxRecDepth 100000 in
theorem c_L_off (l : Launch) (p1 : Int32) (p2 : Int32) : Met l yL_off wsL_off ({ frames := 0, cells := 0, slots := 0, locals := 0 }) (Pre0 ([.int p1, .int p2] : List Value)) (Q0i (f_L_off p1 p2)) 0 0 N0 := by
  generalize hG : f_L_off p1 p2 = T
  refine head0 (cc := cL_off) (maxL := 2) (ret := (some .int)) ([.int p1, .int p2] : List Value) (by decide) rfl (Nat.le_of_ble_eq_true rfl) ?_
  intro p e s m below meth c S hr hlocks ls hl
  have S : CallFix p m c cL_off 2 s ([.int p1, .int p2] : List Value).toArray wsL_off RL := S
  have hx := S.1
  have hb := S.2.1
  have z0 : (0 : Int32).toInt = 0 := by decide
  have z1 : (1 : Int32).toInt = 1 := by decide
  have hl : lv_has ls 2 [(0, .int p1), (1, .int p2)] := hl
  rw [f_L_off] at hG
  refine lv_iload_n hx hb dL_off_0 rfl (lv_at hl 0 rfl) ?_
  refine lv_iload_n hx hb dL_off_1 rfl (lv_at hl 1 rfl) ?_
  refine lv_icmp_ge (tgt := 11) hx hb dL_off_2 (by decide) (fun c2 => ?_) (fun c2 => ?_)
  · have t2 : p2.toInt ≤ p1.toInt := qt_le c2
    rw [if_pos c2] at hG
    refine lv_iload_n hx hb dL_off_11 rfl (lv_at hl 0 rfl) ?_
    refine lv_iload_n hx hb dL_off_12 rfl (lv_at hl 1 rfl) ?_
    refine lv_isub hx hb dL_off_13 ?_
    exact end0i S hr hlocks hG dL_off_14
  · have t2 : p1.toInt < p2.toInt := qt_nle c2
    rw [if_neg c2] at hG
    refine lv_iload_n hx hb dL_off_5 rfl (lv_at hl 1 rfl) ?_
    refine lv_iload_n hx hb dL_off_6 rfl (lv_at hl 0 rfl) ?_
    refine lv_isub hx hb dL_off_7 ?_
    refine lv_goto (tgt := 14) hx hb dL_off_8 (by decide) ?_
    exact end0i S hr hlocks hG dL_off_14
set_option maxHeartbeats 4000000 in
set_option maxRecDepth 100000 in
theorem c_L_fades (l : Launch) (ad : Nat → Nat) (D : va_G) (sz : Nat) (σ : St) (p2 : Int32) (p3 : Int32) (p4 : Int32) (p5 : Int32) (hk : 0 ≤ p2.toInt ∧ p2.toInt ≤ 2) (hm : 0 ≤ p3.toInt ∧ p3.toInt < 9) (hh : 1 ≤ (σ 0 (ix (3 + p3))).toInt ∧ (σ 0 (ix (3 + p3))).toInt ≤ 9) (hyr : 0 ≤ p5.toInt ∧ p5.toInt ≤ 99) : Met l yL_fades wsL_fades ({ frames := 0, cells := 0, slots := 0, locals := 0 }) (PreW 3 (eL ad) ad D (tyL ad) σ sz ([.ref (ad 0), .int p2, .int p3, .int p4, .int p5] : List Value)) (Q0i (f_L_fades σ p2 p3 p4 p5)) 0 0 N0 := by
  generalize hG : f_L_fades σ p2 p3 p4 p5 = T
  refine headW (cc := cL_fades) (maxL := 8) (ret := (some .int)) ([.ref (ad 0), .int p2, .int p3, .int p4, .int p5] : List Value) (by decide) rfl (Nat.le_of_ble_eq_true rfl) ?_
  intro p e s m below meth c S hr hlocks hK hN hsz w ls hl
  have S : CallFix p m c cL_fades 8 s ([.ref (ad 0), .int p2, .int p3, .int p4, .int p5] : List Value).toArray wsL_fades RL := S
  have hx := S.1
  have hb := S.2.1
  have z0 : (0 : Int32).toInt = 0 := by decide
  have z1 : (1 : Int32).toInt = 1 := by decide
  have hl : lv_has ls 8 [(0, .ref (ad 0)), (1, .int p2), (2, .int p3), (3, .int p4), (4, .int p5)] := hl
  rw [f_L_fades] at hG
  refine lv_iload_n hx hb dL_fades_0 rfl (lv_at hl 3 rfl) ?_
  refine lv_istore (lv' := [(5, .int p4), (0, .ref (ad 0)), (1, .int p2), (2, .int p3), (3, .int p4), (4, .int p5)]) hx hb dL_fades_1 hl (by decide) rfl (fun ls hl => ?_)
  refine lv_iload_n hx hb dL_fades_3 rfl (lv_at hl 2 rfl) ?_
  refine lv_iconst (v := 2) hx hb dL_fades_4 (by decide) ?_
  have J5_23 : ∀ (k0_5_23 : Int32), (1 ≤ k0_5_23.toInt ∧ k0_5_23.toInt ≤ 1000) → (lp_L_fades_29 σ k0_5_23 200 p4 p5) = T → ∀ ls : Array Slot, lv_has ls 8 [(4, .int p5), (5, .int p4)] → W p l e (headSpec wsL_fades ({ frames := 0, cells := 0, slots := 0, locals := 0 })).room s m ([.ref (ad 0), .int p2, .int p3, .int p4, .int p5] : List Value).toArray below meth c s.heap [] 0 0 (MQ below (Q0i T) ([.ref (ad 0), .int p2, .int p3, .int p4, .int p5] : List Value).toArray s 0 0 N0) (F0 m 23 ls [.int k0_5_23]) := by
    intro k0_5_23 jq23_0 hG ls hl
    refine lv_istore (lv' := [(6, .int k0_5_23), (4, .int p5), (5, .int p4)]) hx hb dL_fades_23 hl (by decide) rfl (fun ls hl => ?_)
    refine lv_iload hx hb dL_fades_25 (lv_at hl 1 rfl) ?_
    refine lv_istore (lv' := [(7, .int p5), (6, .int k0_5_23), (4, .int p5), (5, .int p4)]) hx hb dL_fades_27 hl (by decide) rfl (fun ls hl => ?_)
    have L29 : ∀ (n : Nat) (res29 : Int32), ∀ (v5_29 : Int32), ∀ (v7_29 : Int32), ((0 ≤ v7_29.toInt ∧ v7_29.toInt ≤ 99)) → v7_29.toInt.toNat < n → (lp_L_fades_29 σ k0_5_23 n v5_29 v7_29) = res29 → (∀ (v5_29e : Int32), res29 = v5_29e → ∀ ls : Array Slot, lv_has ls 8 [(5, .int v5_29e)] → W p l e (headSpec wsL_fades ({ frames := 0, cells := 0, slots := 0, locals := 0 })).room s m ([.ref (ad 0), .int p2, .int p3, .int p4, .int p5] : List Value).toArray below meth c s.heap [] 0 0 (MQ below (Q0i T) ([.ref (ad 0), .int p2, .int p3, .int p4, .int p5] : List Value).toArray s 0 0 N0) (F0 m 57 ls [])) → ∀ ls : Array Slot, lv_has ls 8 [(5, .int v5_29), (6, .int k0_5_23), (7, .int v7_29)] → W p l e (headSpec wsL_fades ({ frames := 0, cells := 0, slots := 0, locals := 0 })).room s m ([.ref (ad 0), .int p2, .int p3, .int p4, .int p5] : List Value).toArray below meth c s.heap [] 0 0 (MQ below (Q0i T) ([.ref (ad 0), .int p2, .int p3, .int p4, .int p5] : List Value).toArray s 0 0 N0) (F0 m 29 ls []) := by
      intro n
      induction n with
      | zero => intro _ _ _ _ hm; exact absurd hm (Nat.not_lt_zero _)
      | succ n ih29 =>
        intro res29 v5_29 v7_29 hI29 hm29 hG hex29 ls hl
        have i29_0 := hI29
        rw [lp_L_fades_29] at hG
        refine lv_iload hx hb dL_fades_29 (lv_at hl 2 rfl) ?_
        refine lv_iload hx hb dL_fades_31 (lv_at hl 1 rfl) ?_
        refine lv_icmp_lt (tgt := 57) hx hb dL_fades_33 (by decide) (fun c33 => ?_) (fun c33 => ?_)
        · have t33 : v7_29.toInt < k0_5_23.toInt := qt_lt c33
          rw [if_pos c33] at hG
          exact hex29 v5_29 hG.symm ls (lv_sub hl [0] rfl)
        · have t33 : k0_5_23.toInt ≤ v7_29.toInt := qt_nlt c33
          rw [if_neg c33] at hG
          refine lv_iload hx hb dL_fades_36 (lv_at hl 0 rfl) ?_
          refine lv_iload hx hb dL_fades_38 (lv_at hl 0 rfl) ?_
          refine lv_iconst (v := 2) hx hb dL_fades_40 (by decide) ?_
          refine lv_irem hx hb dL_fades_41 (by decide) ?_
          refine lv_isub hx hb dL_fades_42 ?_
          refine lv_iconst (v := 2) hx hb dL_fades_43 (by decide) ?_
          refine lv_idiv hx hb dL_fades_44 (by decide) ?_
          refine lv_istore (lv' := [(5, .int ((v5_29 - (v5_29 - (v5_29 / 2) * 2)) / 2)), (6, .int k0_5_23), (7, .int v7_29)]) hx hb dL_fades_45 hl (by decide) rfl (fun ls hl => ?_)
          refine lv_iload hx hb dL_fades_47 (lv_at hl 2 rfl) ?_
          refine lv_iload hx hb dL_fades_49 (lv_at hl 1 rfl) ?_
          refine lv_isub hx hb dL_fades_51 ?_
          refine lv_istore (lv' := [(7, .int (v7_29 - k0_5_23)), (5, .int ((v5_29 - (v5_29 - (v5_29 / 2) * 2)) / 2)), (6, .int k0_5_23)]) hx hb dL_fades_52 hl (by decide) rfl (fun ls hl => ?_)
          refine lv_goto (tgt := 29) hx hb dL_fades_54 (by decide) ?_
          have s7 := s_toInt (a := v7_29) (b := k0_5_23) (by omega) (by omega)
          exact ih29 _ ((v5_29 - (v5_29 - (v5_29 / 2) * 2)) / 2) (v7_29 - k0_5_23) (by omega) (by omega) hG hex29 ls (lv_sub hl [1, 2, 0] rfl)
    refine L29 200 _ p4 p5 (by omega) (by omega) rfl (fun v5_29e hr29 ls hl => ?_) ls (lv_sub hl [3, 1, 0] rfl)
    rw [hr29] at hG
    refine lv_iload hx hb dL_fades_57 (lv_at hl 0 rfl) ?_
    exact end0i S hr hlocks hG dL_fades_59
  refine lv_icmp_ne (tgt := 14) hx hb dL_fades_5 (by decide) (fun c5 => ?_) (fun c5 => ?_)
  · have t5 : p2.toInt ≠ 2 := qt_ne c5
    simp only [if_neg c5] at hG
    have z3 : (3 : Int32).toInt = 3 := by decide
    have e17 := a_toInt (a := 3) (b := p3) (by omega) (by omega)
    refine lv_aload_n hx hb dL_fades_14 rfl (lv_at hl 1 rfl) ?_
    refine lv_iconst (v := 3) hx hb dL_fades_15 (by decide) ?_
    refine lv_iload_n hx hb dL_fades_16 rfl (lv_at hl 3 rfl) ?_
    refine lv_iadd hx hb dL_fades_17 ?_
    have g18 : vp_in (3 + p3) 16 := vpi (by omega) (by omega)
    refine r_iald (cA := ad 100) (N := 16) S hK w (k := 0) (by decide) (fun f => rfl) rfl g18 dL_fades_18 ?_
    have z1b : (1 : Int32).toInt = 1 := by decide
    have e21 := a_toInt (a := 1) (b := p2) (by omega) (by omega)
    have e22 := fd_each hh hk
    refine lv_iconst (v := 1) hx hb dL_fades_19 (by decide) ?_
    refine lv_iload_n hx hb dL_fades_20 rfl (lv_at hl 2 rfl) ?_
    refine lv_iadd hx hb dL_fades_21 ?_
    refine lv_imul hx hb dL_fades_22 ?_
    exact J5_23 ((σ 0 (ix (3 + p3))) * (1 + p2)) (by omega) hG ls (lv_sub hl [5, 0] rfl)
  · have t5 : p2.toInt = 2 := qt_eq c5
    simp only [if_pos c5] at hG
    have z1000 : (1000 : Int32).toInt = 1000 := by decide
    refine lv_sipush (v := 1000) hx hb dL_fades_8 (by decide) ?_
    refine lv_goto (tgt := 23) hx hb dL_fades_11 (by decide) ?_
    exact J5_23 1000 (by omega) hG ls (lv_sub hl [5, 0] rfl)
set_option maxHeartbeats 4000000 in
set_option maxRecDepth 100000 in
theorem c_L_apart (l : Launch) (ad : Nat → Nat) (D : va_G) (sz : Nat) (σ : St) (p3 : Int32) (p4 : Int32) (hx1 : 0 ≤ p3.toInt ∧ p3.toInt < 8) (hx2 : 0 ≤ p4.toInt ∧ p4.toInt < 8) : Met l yL_apart wsL_apart ({ frames := 1, cells := 0, slots := 0, locals := 23 }) (PreW 3 (eL ad) ad D (tyL ad) σ sz ([.ref (ad 1), .ref (ad 2), .int p3, .int p4] : List Value)) (Q0i (f_L_apart σ p3 p4)) 0 0 N0 := by
  generalize hG : f_L_apart σ p3 p4 = T
  refine headW (cc := cL_apart) (maxL := 6) (ret := (some .int)) ([.ref (ad 1), .ref (ad 2), .int p3, .int p4] : List Value) (by decide) rfl (Nat.le_of_ble_eq_true rfl) ?_
  intro p e s m below meth c S hr hlocks hK hN hsz w ls hl
  have S : CallFix p m c cL_apart 6 s ([.ref (ad 1), .ref (ad 2), .int p3, .int p4] : List Value).toArray wsL_apart RL := S
  have hx := S.1
  have hb := S.2.1
  have z0 : (0 : Int32).toInt = 0 := by decide
  have z1 : (1 : Int32).toInt = 1 := by decide
  have hl : lv_has ls 6 [(0, .ref (ad 1)), (1, .ref (ad 2)), (2, .int p3), (3, .int p4)] := hl
  rw [f_L_apart] at hG
  refine lv_iconst (v := 0) hx hb dL_apart_0 (by decide) ?_
  refine lv_istore (lv' := [(4, .int 0), (0, .ref (ad 1)), (1, .ref (ad 2)), (2, .int p3), (3, .int p4)]) hx hb dL_apart_1 hl (by decide) rfl (fun ls hl => ?_)
  refine lv_iconst (v := 1) hx hb dL_apart_3 (by decide) ?_
  refine lv_istore (lv' := [(5, .int 1), (4, .int 0), (0, .ref (ad 1)), (1, .ref (ad 2)), (2, .int p3), (3, .int p4)]) hx hb dL_apart_4 hl (by decide) rfl (fun ls hl => ?_)
  have L6 : ∀ (n : Nat) (res6 : Int32), ∀ (v4_6 : Int32), ∀ (v5_6 : Int32), ((1 ≤ v5_6.toInt ∧ v5_6.toInt ≤ 10)) → (10 - v5_6.toInt).toNat < n → (lp_L_apart_6 σ p3 p4 n v4_6 v5_6) = res6 → (∀ (v4_6e : Int32), res6 = v4_6e → ∀ ls : Array Slot, lv_has ls 6 [(4, .int v4_6e)] → W p l e (headSpec wsL_apart ({ frames := 1, cells := 0, slots := 0, locals := 23 })).room s m ([.ref (ad 1), .ref (ad 2), .int p3, .int p4] : List Value).toArray below meth c s.heap [] 0 0 (MQ below (Q0i T) ([.ref (ad 1), .ref (ad 2), .int p3, .int p4] : List Value).toArray s 0 0 N0) (F0 m 43 ls [])) → ∀ ls : Array Slot, lv_has ls 6 [(0, .ref (ad 1)), (1, .ref (ad 2)), (2, .int p3), (3, .int p4), (4, .int v4_6), (5, .int v5_6)] → W p l e (headSpec wsL_apart ({ frames := 1, cells := 0, slots := 0, locals := 23 })).room s m ([.ref (ad 1), .ref (ad 2), .int p3, .int p4] : List Value).toArray below meth c s.heap [] 0 0 (MQ below (Q0i T) ([.ref (ad 1), .ref (ad 2), .int p3, .int p4] : List Value).toArray s 0 0 N0) (F0 m 6 ls []) := by
    intro n
    induction n with
    | zero => intro _ _ _ _ hm; exact absurd hm (Nat.not_lt_zero _)
    | succ n ih6 =>
      intro res6 v4_6 v5_6 hI6 hm6 hG hex6 ls hl
      have i6_0 := hI6
      rw [lp_L_apart_6] at hG
      refine lv_iload hx hb dL_apart_6 (lv_at hl 5 rfl) ?_
      refine lv_bipush (v := 10) hx hb dL_apart_8 (by decide) ?_
      refine lv_icmp_ge (tgt := 43) hx hb dL_apart_10 (by decide) (fun c10 => ?_) (fun c10 => ?_)
      · have t10 : 10 ≤ v5_6.toInt := qt_le c10
        rw [if_pos c10] at hG
        exact hex6 v4_6 hG.symm ls (lv_sub hl [4] rfl)
      · have t10 : v5_6.toInt < 10 := qt_nle c10
        rw [if_neg c10] at hG
        refine lv_iload hx hb dL_apart_13 (lv_at hl 4 rfl) ?_
        refine lv_aload_n hx hb dL_apart_15 rfl (lv_at hl 0 rfl) ?_
        refine lv_aload_n hx hb dL_apart_16 rfl (lv_at hl 1 rfl) ?_
        refine lv_iload_n hx hb dL_apart_17 rfl (lv_at hl 2 rfl) ?_
        refine lv_iload hx hb dL_apart_18 (lv_at hl 5 rfl) ?_
        refine call0i (va_runS (As := [.ref (ad 1), .ref (ad 2), .int p3, .int v5_6]) (rest := [.int v4_6]) S (c_L_get l ad D s.heap.size σ p3 v5_6 (by omega) (by omega)) (va_cwS 4 S.2.2.2.2 gL_apart_L_get rfl rfl rfl hd_L_get ⟨Nat.le_of_ble_eq_true rfl, Nat.le_of_ble_eq_true rfl⟩) (preS hK hN w) rfl rfl hl.1 rfl (lv_room (Nat.le_of_ble_eq_true rfl)) dL_apart_20 ⟨Nat.zero_le _, Nat.zero_le _⟩) ?_
        refine lv_aload_n hx hb dL_apart_23 rfl (lv_at hl 0 rfl) ?_
        refine lv_aload_n hx hb dL_apart_24 rfl (lv_at hl 1 rfl) ?_
        refine lv_iload_n hx hb dL_apart_25 rfl (lv_at hl 3 rfl) ?_
        refine lv_iload hx hb dL_apart_26 (lv_at hl 5 rfl) ?_
        refine call0i (va_runS (As := [.ref (ad 1), .ref (ad 2), .int p4, .int v5_6]) (rest := [.int (f_L_get σ p3 v5_6), .int v4_6]) S (c_L_get l ad D s.heap.size σ p4 v5_6 (by omega) (by omega)) (va_cwS 4 S.2.2.2.2 gL_apart_L_get rfl rfl rfl hd_L_get ⟨Nat.le_of_ble_eq_true rfl, Nat.le_of_ble_eq_true rfl⟩) (preS hK hN w) rfl rfl hl.1 rfl (lv_room (Nat.le_of_ble_eq_true rfl)) dL_apart_28 ⟨Nat.zero_le _, Nat.zero_le _⟩) ?_
        refine call0i (va_runS (As := [.int (f_L_get σ p3 v5_6), .int (f_L_get σ p4 v5_6)]) (rest := [.int v4_6]) S (c_L_off l (f_L_get σ p3 v5_6) (f_L_get σ p4 v5_6)) (va_cwS 2 S.2.2.2.2 gL_apart_L_off rfl rfl rfl hd_L_off ⟨Nat.le_of_ble_eq_true rfl, Nat.le_of_ble_eq_true rfl⟩) pre0S rfl rfl hl.1 rfl (lv_room (Nat.le_of_ble_eq_true rfl)) dL_apart_31 ⟨Nat.zero_le _, Nat.zero_le _⟩) ?_
        refine lv_iadd hx hb dL_apart_34 ?_
        refine lv_istore (lv' := [(4, .int (v4_6 + (f_L_off (f_L_get σ p3 v5_6) (f_L_get σ p4 v5_6)))), (0, .ref (ad 1)), (1, .ref (ad 2)), (2, .int p3), (3, .int p4), (5, .int v5_6)]) hx hb dL_apart_35 hl (by decide) rfl (fun ls hl => ?_)
        refine lv_iinc (v := (v5_6 + 1)) (lv' := [(5, .int (v5_6 + 1)), (4, .int (v4_6 + (f_L_off (f_L_get σ p3 v5_6) (f_L_get σ p4 v5_6)))), (0, .ref (ad 1)), (1, .ref (ad 2)), (2, .int p3), (3, .int p4)]) hx hb dL_apart_37 hl (k := 5) rfl rfl (by decide) rfl (fun ls hl => ?_)
        refine lv_goto (tgt := 6) hx hb dL_apart_40 (by decide) ?_
        have b5_6 : (v5_6 + 1).toInt = v5_6.toInt + 1 := inc_toInt (by omega) (by omega)
        exact ih6 _ (v4_6 + (f_L_off (f_L_get σ p3 v5_6) (f_L_get σ p4 v5_6))) (v5_6 + 1) (by omega) (by omega) hG hex6 ls (lv_sub hl [2, 3, 4, 5, 1, 0] rfl)
  refine L6 200 _ 0 1 (by omega) (by omega) rfl (fun v4_6e hr6 ls hl => ?_) ls (lv_sub hl [2, 3, 4, 5, 1, 0] rfl)
  rw [hr6] at hG
  refine lv_iload hx hb dL_apart_43 (lv_at hl 0 rfl) ?_
  exact end0i S hr hlocks hG dL_apart_45
set_option maxHeartbeats 4000000 in
set_option maxRecDepth 100000 in
theorem c_L_bits (l : Launch) (p1 : Int32) (hb1 : 0 ≤ p1.toInt ∧ p1.toInt ≤ 1024) : Met l yL_bits wsL_bits ({ frames := 0, cells := 0, slots := 0, locals := 0 }) (Pre0 ([.int p1] : List Value)) (Q0i (f_L_bits p1)) 0 0 N0 := by
  generalize hG : f_L_bits p1 = T
  refine head0 (cc := cL_bits) (maxL := 3) (ret := (some .int)) ([.int p1] : List Value) (by decide) rfl (Nat.le_of_ble_eq_true rfl) ?_
  intro p e s m below meth c S hr hlocks ls hl
  have S : CallFix p m c cL_bits 3 s ([.int p1] : List Value).toArray wsL_bits RL := S
  have hx := S.1
  have hb := S.2.1
  have z0 : (0 : Int32).toInt = 0 := by decide
  have z1 : (1 : Int32).toInt = 1 := by decide
  have hl : lv_has ls 3 [(0, .int p1)] := hl
  rw [f_L_bits] at hG
  refine lv_iconst (v := 0) hx hb dL_bits_0 (by decide) ?_
  refine lv_istore_n (lv' := [(1, .int 0), (0, .int p1)]) hx hb dL_bits_1 rfl hl (by decide) rfl (fun ls hl => ?_)
  refine lv_iload_n hx hb dL_bits_2 rfl (lv_at hl 1 rfl) ?_
  refine lv_istore_n (lv' := [(2, .int p1), (1, .int 0), (0, .int p1)]) hx hb dL_bits_3 rfl hl (by decide) rfl (fun ls hl => ?_)
  have L4 : ∀ (n : Nat) (res4 : Int32), ∀ (v1_4 : Int32), ∀ (v2_4 : Int32), ((0 ≤ v2_4.toInt ∧ v2_4.toInt ≤ 1024)) → v2_4.toInt.toNat < n → (lp_L_bits_4 n v1_4 v2_4) = res4 → (∀ (v1_4e : Int32), res4 = v1_4e → ∀ ls : Array Slot, lv_has ls 3 [(1, .int v1_4e)] → W p l e (headSpec wsL_bits ({ frames := 0, cells := 0, slots := 0, locals := 0 })).room s m ([.int p1] : List Value).toArray below meth c s.heap [] 0 0 (MQ below (Q0i T) ([.int p1] : List Value).toArray s 0 0 N0) (F0 m 20 ls [])) → ∀ ls : Array Slot, lv_has ls 3 [(1, .int v1_4), (2, .int v2_4)] → W p l e (headSpec wsL_bits ({ frames := 0, cells := 0, slots := 0, locals := 0 })).room s m ([.int p1] : List Value).toArray below meth c s.heap [] 0 0 (MQ below (Q0i T) ([.int p1] : List Value).toArray s 0 0 N0) (F0 m 4 ls []) := by
    intro n
    induction n with
    | zero => intro _ _ _ _ hm; exact absurd hm (Nat.not_lt_zero _)
    | succ n ih4 =>
      intro res4 v1_4 v2_4 hI4 hm4 hG hex4 ls hl
      have i4_0 := hI4
      rw [lp_L_bits_4] at hG
      refine lv_iload_n hx hb dL_bits_4 rfl (lv_at hl 1 rfl) ?_
      refine lv_if_eq (tgt := 20) hx hb dL_bits_5 (by decide) (fun c5 => ?_) (fun c5 => ?_)
      · have t5 : v2_4.toInt = 0 := qt_eq c5
        rw [if_pos c5] at hG
        exact hex4 v1_4 hG.symm ls (lv_sub hl [0] rfl)
      · have t5 : v2_4.toInt ≠ 0 := qt_ne c5
        rw [if_neg c5] at hG
        refine lv_iinc (v := (v1_4 + 1)) (lv' := [(1, .int (v1_4 + 1)), (2, .int v2_4)]) hx hb dL_bits_8 hl (k := 0) rfl rfl (by decide) rfl (fun ls hl => ?_)
        refine lv_iload_n hx hb dL_bits_11 rfl (lv_at hl 1 rfl) ?_
        refine lv_iload_n hx hb dL_bits_12 rfl (lv_at hl 1 rfl) ?_
        refine lv_iconst (v := 1) hx hb dL_bits_13 (by decide) ?_
        refine lv_isub hx hb dL_bits_14 ?_
        refine lv_iand hx hb dL_bits_15 ?_
        refine lv_istore_n (lv' := [(2, .int (v2_4 &&& (v2_4 - 1))), (1, .int (v1_4 + 1))]) hx hb dL_bits_16 rfl hl (by decide) rfl (fun ls hl => ?_)
        refine lv_goto (tgt := 4) hx hb dL_bits_17 (by decide) ?_
        have s2 := and_pred (a := v2_4) (by omega) (by omega)
        exact ih4 _ (v1_4 + 1) (v2_4 &&& (v2_4 - 1)) (by omega) (by omega) hG hex4 ls (lv_sub hl [1, 0] rfl)
  refine L4 1100 _ 0 p1 (by omega) (by omega) rfl (fun v1_4e hr4 ls hl => ?_) ls (lv_sub hl [1, 0] rfl)
  rw [hr4] at hG
  refine lv_iload_n hx hb dL_bits_20 rfl (lv_at hl 0 rfl) ?_
  exact end0i S hr hlocks hG dL_bits_21
