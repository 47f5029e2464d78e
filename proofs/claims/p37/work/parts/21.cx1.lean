set_option maxHeartbeats 4000000 in
set_option maxRecDepth 100000 in
theorem c_X3_areStoppers (l : Launch) (ad : Nat → Nat) (D : va_G) (sz : Nat) (σ : St) (p1 : Nat) (p2 : Int32) (p3 : Int32) (hp1 : p1 < 4) (hb1 : 0 ≤ p2.toInt) (hb2 : 0 ≤ p3.toInt ∧ p3.toInt ≤ 10) (hb3 : p2.toInt + 2 * p3.toInt ≤ 90) : Met l yX3_areStoppers wsX3_areStoppers ({ frames := 1, cells := 0, slots := 0, locals := 20 }) (PreW 41 (eC ad) ad D (tyC ad) σ sz ([.ref (ad (9 + p1)), .int p2, .int p3] : List Value)) (Q0i (f_X3_areStoppers σ p1 p2 p3)) 0 0 N0 := by
  generalize hG : f_X3_areStoppers σ p1 p2 p3 = T
  refine headW (cc := cX3_areStoppers) (maxL := 5) (ret := (some .boolean)) ([.ref (ad (9 + p1)), .int p2, .int p3] : List Value) (by decide) rfl (Nat.le_of_ble_eq_true rfl) ?_
  intro p e s m below meth c S hr hlocks hK hN hsz w ls hl
  have S : CallFix p m c cX3_areStoppers 5 s ([.ref (ad (9 + p1)), .int p2, .int p3] : List Value).toArray wsX3_areStoppers RX3 := S
  have hx := S.1
  have hb := S.2.1
  have z0 : (0 : Int32).toInt = 0 := by decide
  have z1 : (1 : Int32).toInt = 1 := by decide
  have hl : lv_has ls 5 [(0, .ref (ad (9 + p1))), (1, .int p2), (2, .int p3)] := hl
  have hinX1 : ∀ w ∈ wsX10, w ∈ wsX3_areStoppers := (fun _ h => List.mem_cons_of_mem _ (List.mem_append_right _ h))
  rw [f_X3_areStoppers] at hG
  refine lv_iconst (v := 0) hx hb dX3_areStoppers_0 (by decide) ?_
  refine lv_istore_n (lv' := [(3, .int 0), (0, .ref (ad (9 + p1))), (1, .int p2), (2, .int p3)]) hx hb dX3_areStoppers_1 rfl hl (by decide) rfl (fun ls hl => ?_)
  have L2 : ∀ (n : Nat) (res2 : (Int32) ⊕ (Unit)), ∀ (v3_2 : Int32), ((0 ≤ v3_2.toInt ∧ v3_2.toInt ≤ p3.toInt)) → (p3.toInt - v3_2.toInt).toNat < n → (lp_X3_areStoppers_2 σ p1 p2 p3 n v3_2) = res2 → (∀ r : Int32, res2 = Sum.inl r → r = T) → (res2 = Sum.inr () → ∀ ls : Array Slot, lv_has ls 5 [] → W p l e (headSpec wsX3_areStoppers ({ frames := 1, cells := 0, slots := 0, locals := 20 })).room s m ([.ref (ad (9 + p1)), .int p2, .int p3] : List Value).toArray below meth c s.heap [] 0 0 (MQ below (Q0i T) ([.ref (ad (9 + p1)), .int p2, .int p3] : List Value).toArray s 0 0 N0) (F0 m 58 ls [])) → ∀ ls : Array Slot, lv_has ls 5 [(0, .ref (ad (9 + p1))), (1, .int p2), (2, .int p3), (3, .int v3_2)] → W p l e (headSpec wsX3_areStoppers ({ frames := 1, cells := 0, slots := 0, locals := 20 })).room s m ([.ref (ad (9 + p1)), .int p2, .int p3] : List Value).toArray below meth c s.heap [] 0 0 (MQ below (Q0i T) ([.ref (ad (9 + p1)), .int p2, .int p3] : List Value).toArray s 0 0 N0) (F0 m 2 ls []) := by
    intro n
    induction n with
    | zero => intro _ _ _ hm; exact absurd hm (Nat.not_lt_zero _)
    | succ n ih2 =>
      intro res2 v3_2 hI2 hm2 hG hret2 hex2 ls hl
      have i2_0 := hI2
      rw [lp_X3_areStoppers_2] at hG
      refine lv_iload_n hx hb dX3_areStoppers_2 rfl (lv_at hl 3 rfl) ?_
      refine lv_iload_n hx hb dX3_areStoppers_3 rfl (lv_at hl 2 rfl) ?_
      refine lv_icmp_ge (tgt := 58) hx hb dX3_areStoppers_4 (by decide) (fun c4 => ?_) (fun c4 => ?_)
      · have t4 : p3.toInt ≤ v3_2.toInt := qt_le c4
        rw [if_pos c4] at hG
        exact hex2  hG.symm ls (lv_sub hl [] rfl)
      · have t4 : v3_2.toInt < p3.toInt := qt_nle c4
        rw [if_neg c4] at hG
        refine lv_aload_n hx hb dX3_areStoppers_7 rfl (lv_at hl 0 rfl) ?_
        refine r_getN (C := RX1) (T := TX1) (N := 4) S hK hN w (k := (9 + p1)) (Nat.lt_of_lt_of_le (Nat.add_lt_add_left hp1 9) (by decide)) (eC_sh ad hp1 _) rfl hinX1 3 (by decide) 2 rfl rfl dX3_areStoppers_8 ?_
        refine lv_iload_n hx hb dX3_areStoppers_11 rfl (lv_at hl 1 rfl) ?_
        refine lv_iconst (v := 2) hx hb dX3_areStoppers_12 (by decide) ?_
        refine lv_iload_n hx hb dX3_areStoppers_13 rfl (lv_at hl 3 rfl) ?_
        refine lv_imul hx hb dX3_areStoppers_14 ?_
        refine lv_iadd hx hb dX3_areStoppers_15 ?_
        refine lv_iconst (v := 1) hx hb dX3_areStoppers_16 (by decide) ?_
        refine lv_iadd hx hb dX3_areStoppers_17 ?_
        have e14 := km_toInt (a := v3_2) (k := 2) (z := 2) (by decide) (by omega) (by omega)
        have e15 := a_toInt (a := p2) (b := 2 * v3_2) (by omega) (by omega)
        have e17 := inc_toInt (a := p2 + 2 * v3_2) (by omega) (by omega)
        have g18 : vp_in ((p2 + (2 * v3_2)) + 1) 90 := vpi (by omega) (by omega)
        refine r_iald (cA := ad 100) (N := 90) S hK w (k := (13 + p1)) (Nat.lt_of_lt_of_le (Nat.add_lt_add_left hp1 13) (by decide)) (fun f => eC_sc ad hp1 f) rfl g18 dX3_areStoppers_18 ?_
        refine lv_istore (lv' := [(4, .int (σ (13 + p1) (ix ((p2 + (2 * v3_2)) + 1)))), (0, .ref (ad (9 + p1))), (1, .int p2), (2, .int p3), (3, .int v3_2)]) hx hb dX3_areStoppers_19 hl (by decide) rfl (fun ls hl => ?_)
        refine lv_aload_n hx hb dX3_areStoppers_21 rfl (lv_at hl 1 rfl) ?_
        refine r_getN (C := RX1) (T := TX1) (N := 4) S hK hN w (k := (9 + p1)) (Nat.lt_of_lt_of_le (Nat.add_lt_add_left hp1 9) (by decide)) (eC_sh ad hp1 _) rfl hinX1 3 (by decide) 2 rfl rfl dX3_areStoppers_22 ?_
        refine lv_iload_n hx hb dX3_areStoppers_25 rfl (lv_at hl 2 rfl) ?_
        refine lv_iconst (v := 2) hx hb dX3_areStoppers_26 (by decide) ?_
        refine lv_iload_n hx hb dX3_areStoppers_27 rfl (lv_at hl 4 rfl) ?_
        refine lv_imul hx hb dX3_areStoppers_28 ?_
        refine lv_iadd hx hb dX3_areStoppers_29 ?_
        have g30 : vp_in (p2 + (2 * v3_2)) 90 := vpi (by omega) (by omega)
        refine r_iald (cA := ad 100) (N := 90) S hK w (k := (13 + p1)) (Nat.lt_of_lt_of_le (Nat.add_lt_add_left hp1 13) (by decide)) (fun f => eC_sc ad hp1 f) rfl g30 dX3_areStoppers_30 ?_
        refine call0i (va_runS (As := [.int (σ (13 + p1) (ix (p2 + (2 * v3_2))))]) (rest := []) S (c_X3_isSmell l (σ (13 + p1) (ix (p2 + (2 * v3_2))))) (va_cwS 1 S.2.2.2.2 gX3_areStoppers_X3_isSmell rfl rfl rfl hd_X3_isSmell ⟨Nat.le_of_ble_eq_true rfl, Nat.le_of_ble_eq_true rfl⟩) pre0S rfl rfl hl.1 rfl (lv_room (Nat.le_of_ble_eq_true rfl)) dX3_areStoppers_31 ⟨Nat.zero_le _, Nat.zero_le _⟩) ?_
        refine lv_if_eq (tgt := 50) hx hb dX3_areStoppers_34 (by decide) (fun c34 => ?_) (fun c34 => ?_)
        · rw [if_pos c34] at hG
          refine lv_iconst (v := 0) hx hb dX3_areStoppers_50 (by decide) ?_
          exact end0z S hr hlocks (Or.inl rfl) (hret2 _ hG.symm) dX3_areStoppers_51
        · have t34 := bf_isSmell_n c34
          rw [if_neg c34] at hG
          refine lv_iload hx hb dX3_areStoppers_37 (lv_at hl 0 rfl) ?_
          refine lv_iconst (v := 1) hx hb dX3_areStoppers_39 (by decide) ?_
          refine lv_icmp_lt (tgt := 50) hx hb dX3_areStoppers_40 (by decide) (fun c40 => ?_) (fun c40 => ?_)
          · have t40 : (σ (13 + p1) (ix ((p2 + (2 * v3_2)) + 1))).toInt < 1 := qt_lt c40
            rw [if_pos c40] at hG
            refine lv_iconst (v := 0) hx hb dX3_areStoppers_50 (by decide) ?_
            exact end0z S hr hlocks (Or.inl rfl) (hret2 _ hG.symm) dX3_areStoppers_51
          · have t40 : 1 ≤ (σ (13 + p1) (ix ((p2 + (2 * v3_2)) + 1))).toInt := qt_nlt c40
            rw [if_neg c40] at hG
            refine lv_iload hx hb dX3_areStoppers_43 (lv_at hl 0 rfl) ?_
            refine lv_bipush (v := 9) hx hb dX3_areStoppers_45 (by decide) ?_
            refine lv_icmp_le (tgt := 52) hx hb dX3_areStoppers_47 (by decide) (fun c47 => ?_) (fun c47 => ?_)
            · have t47 : (σ (13 + p1) (ix ((p2 + (2 * v3_2)) + 1))).toInt ≤ 9 := qt_le c47
              rw [if_pos c47] at hG
              refine lv_iinc (v := (v3_2 + 1)) (lv' := [(3, .int (v3_2 + 1)), (4, .int (σ (13 + p1) (ix ((p2 + (2 * v3_2)) + 1)))), (0, .ref (ad (9 + p1))), (1, .int p2), (2, .int p3)]) hx hb dX3_areStoppers_52 hl (k := 4) rfl rfl (by decide) rfl (fun ls hl => ?_)
              refine lv_goto (tgt := 2) hx hb dX3_areStoppers_55 (by decide) ?_
              have b3_2 : (v3_2 + 1).toInt = v3_2.toInt + 1 := inc_toInt (by omega) (by omega)
              exact ih2 _ (v3_2 + 1) (by omega) (by omega) hG hret2 hex2 ls (lv_sub hl [2, 3, 4, 0] rfl)
            · have t47 : 9 < (σ (13 + p1) (ix ((p2 + (2 * v3_2)) + 1))).toInt := qt_nle c47
              rw [if_neg c47] at hG
              refine lv_iconst (v := 0) hx hb dX3_areStoppers_50 (by decide) ?_
              exact end0z S hr hlocks (Or.inl rfl) (hret2 _ hG.symm) dX3_areStoppers_51
  refine L2 200 _ 0 (by omega) (by omega) rfl (fun r hr2 => by rw [hr2] at hG; exact hG) (fun hr2 ls hl => ?_) ls (lv_sub hl [1, 2, 3, 0] rfl)
  rw [hr2] at hG
  dsimp only at hG
  refine lv_iconst (v := 1) hx hb dX3_areStoppers_58 (by decide) ?_
  exact end0z S hr hlocks (Or.inr rfl) hG dX3_areStoppers_59
set_option maxHeartbeats 4000000 in
set_option maxRecDepth 100000 in
theorem c_X3_isTakenFor (l : Launch) (ad : Nat → Nat) (D : va_G) (sz : Nat) (σ : St) (p1 : Int32) (p2 : Int32) (p3 : Nat) (p4 : Int32) (p5 : Int32) (hp3 : p3 < 4) (hx1 : 0 ≤ p1.toInt ∧ p1.toInt < 8) (hx2 : 0 ≤ p2.toInt ∧ p2.toInt < 8) (hst : HST σ p3 p4 p5) : Met l yX3_isTakenFor wsX3_isTakenFor ({ frames := 3, cells := 0, slots := 0, locals := 66 }) (PreW 41 (eC ad) ad D (tyC ad) σ sz ([.ref (ad 0), .int p1, .int p2, .ref (ad (9 + p3)), .int p4, .int p5] : List Value)) (QWi 41 (eC ad) ad D (f_X3_isTakenFor σ p1 p2 p3 p4 p5) (CA 41 ad sz)) 0 0 (CA 41 ad sz) := by
  generalize hG : f_X3_isTakenFor σ p1 p2 p3 p4 p5 = T
  refine headW (cc := cX3_isTakenFor) (maxL := 7) (ret := (some .boolean)) ([.ref (ad 0), .int p1, .int p2, .ref (ad (9 + p3)), .int p4, .int p5] : List Value) (by decide) rfl (Nat.le_of_ble_eq_true rfl) ?_
  intro p e s m below meth c S hr hlocks hK hN hsz w ls hl
  have S : CallFix p m c cX3_isTakenFor 7 s ([.ref (ad 0), .int p1, .int p2, .ref (ad (9 + p3)), .int p4, .int p5] : List Value).toArray wsX3_isTakenFor RX3 := S
  have hx := S.1
  have hb := S.2.1
  have z0 : (0 : Int32).toInt = 0 := by decide
  have z1 : (1 : Int32).toInt = 1 := by decide
  have hl : lv_has ls 7 [(0, .ref (ad 0)), (1, .int p1), (2, .int p2), (3, .ref (ad (9 + p3))), (4, .int p4), (5, .int p5)] := hl
  have hinX3 : ∀ w ∈ wsX30, w ∈ wsX3_isTakenFor := (fun _ h => List.mem_cons_of_mem _ (List.mem_append_left _ (List.mem_append_left _ (List.mem_append_right _ h))))
  have hinX2 : ∀ w ∈ wsX20, w ∈ wsX3_isTakenFor := (fun _ h => List.mem_cons_of_mem _ (List.mem_append_left _ (List.mem_append_right _ h)))
  have hinX1 : ∀ w ∈ wsX10, w ∈ wsX3_isTakenFor := (fun _ h => List.mem_cons_of_mem _ (List.mem_append_right _ h))
  rw [f_X3_isTakenFor] at hG
  refine lv_iconst (v := 0) hx hb dX3_isTakenFor_0 (by decide) ?_
  refine lv_istore (lv' := [(6, .int 0), (0, .ref (ad 0)), (1, .int p1), (2, .int p2), (3, .ref (ad (9 + p3))), (4, .int p4), (5, .int p5)]) hx hb dX3_isTakenFor_1 hl (by decide) rfl (fun ls hl => ?_)
  have L3 : ∀ (n : Nat) (res3 : St), ∀ (v6_3 : Int32), ∀ (S_3 : St), ((0 ≤ v6_3.toInt ∧ v6_3.toInt ≤ 9) ∧ (S_3 (13 + p3) = σ (13 + p3))) → (9 - v6_3.toInt).toNat < n → (lp_X3_isTakenFor_3 p1 p2 p3 p4 p5 n v6_3 S_3) = res3 → (∀ (S_3e : St), (S_3e (13 + p3) = σ (13 + p3)) → res3 = S_3e → ∀ (H : Heap) (locs : List Loc), CW 41 (eC ad) ad D (CA 41 ad sz) s.heap S_3e H locs → ∀ ls : Array Slot, lv_has ls 7 [(0, .ref (ad 0)), (2, .int p2), (3, .ref (ad (9 + p3))), (4, .int p4), (5, .int p5)] → W p l e (headSpec wsX3_isTakenFor ({ frames := 3, cells := 0, slots := 0, locals := 66 })).room s m ([.ref (ad 0), .int p1, .int p2, .ref (ad (9 + p3)), .int p4, .int p5] : List Value).toArray below meth c H locs 0 0 (MQ below (QWi 41 (eC ad) ad D T (CA 41 ad sz)) ([.ref (ad 0), .int p1, .int p2, .ref (ad (9 + p3)), .int p4, .int p5] : List Value).toArray s 0 0 (CA 41 ad sz)) (F0 m 35 ls [])) → ∀ (H : Heap) (locs : List Loc), CW 41 (eC ad) ad D (CA 41 ad sz) s.heap S_3 H locs → ∀ ls : Array Slot, lv_has ls 7 [(0, .ref (ad 0)), (1, .int p1), (2, .int p2), (3, .ref (ad (9 + p3))), (4, .int p4), (5, .int p5), (6, .int v6_3)] → W p l e (headSpec wsX3_isTakenFor ({ frames := 3, cells := 0, slots := 0, locals := 66 })).room s m ([.ref (ad 0), .int p1, .int p2, .ref (ad (9 + p3)), .int p4, .int p5] : List Value).toArray below meth c H locs 0 0 (MQ below (QWi 41 (eC ad) ad D T (CA 41 ad sz)) ([.ref (ad 0), .int p1, .int p2, .ref (ad (9 + p3)), .int p4, .int p5] : List Value).toArray s 0 0 (CA 41 ad sz)) (F0 m 3 ls []) := by
    intro n
    induction n with
    | zero => intro _ _ _ _ hm; exact absurd hm (Nat.not_lt_zero _)
    | succ n ih3 =>
      intro res3 v6_3 S_3 hI3 hm3 hG hex3 H locs w ls hl
      obtain ⟨i3_0, i3_1⟩ := id hI3
      rw [lp_X3_isTakenFor_3] at hG
      refine lv_iload hx hb dX3_isTakenFor_3 (lv_at hl 6 rfl) ?_
      refine lv_bipush (v := 9) hx hb dX3_isTakenFor_5 (by decide) ?_
      refine lv_icmp_ge (tgt := 35) hx hb dX3_isTakenFor_7 (by decide) (fun c7 => ?_) (fun c7 => ?_)
      · have t7 : 9 ≤ v6_3.toInt := qt_le c7
        rw [if_pos c7] at hG
        exact hex3 S_3 i3_1 hG.symm _ _ w ls (lv_sub hl [0, 2, 3, 4, 5] rfl)
      · have t7 : v6_3.toInt < 9 := qt_nle c7
        rw [if_neg c7] at hG
        refine lv_aload_n hx hb dX3_isTakenFor_10 rfl (lv_at hl 0 rfl) ?_
        refine r_get (C := RX3) (T := TX3) (N := 14) S hK w (k := 0) (by decide) (eC_0 ad _) rfl hinX3 11 (by decide) (List.mem_of_getElem? (i := 1) rfl) rfl dX3_isTakenFor_11 ?_
        refine lv_iload hx hb dX3_isTakenFor_14 (lv_at hl 6 rfl) ?_
        refine lv_aload_n hx hb dX3_isTakenFor_16 rfl (lv_at hl 0 rfl) ?_
        refine r_get (C := RX3) (T := TX3) (N := 14) S hK w (k := 0) (by decide) (eC_0 ad _) rfl hinX3 1 (by decide) (List.mem_of_getElem? (i := 2) rfl) rfl dX3_isTakenFor_17 ?_
        refine lv_iload_n hx hb dX3_isTakenFor_20 rfl (lv_at hl 1 rfl) ?_
        have g21 : vp_in p1 8 := vpi (by omega) (by omega)
        refine r_aald S hK w (k := 2) (by decide) (eC_2 ad _) (t0 := 2) rfl g21 dX3_isTakenFor_21 ?_
        refine r_getN (C := RX2) (T := TX2) (N := 3) S hK hN w (k := (17 + (ix p1))) (Nat.lt_of_lt_of_le (Nat.add_lt_add_left (vpl g21) 17) (by decide)) (eC_sg ad (vpl g21) _) rfl hinX2 2 (by decide) 5 rfl rfl dX3_isTakenFor_22 ?_
        refine lv_iload hx hb dX3_isTakenFor_25 (lv_at hl 6 rfl) ?_
        have g27 : vp_in v6_3 9 := vpi (by omega) (by omega)
        refine r_iald (cA := ad 100) (N := 9) S hK w (k := (25 + (ix p1))) (Nat.lt_of_lt_of_le (Nat.add_lt_add_left (vpl g21) 25) (by decide)) (fun f => eC_st ad (vpl g21) f) rfl g27 dX3_isTakenFor_27 ?_
        have g28 : vp_in v6_3 9 := vpi (by omega) (by omega)
        refine r_iast (cA := ad 100) (N := 9) S hK w (k := 6) (by decide) (fun f => eC_6 ad f) rfl g28 dX3_isTakenFor_28 (fun H locs w => ?_)
        refine lv_iinc (v := (v6_3 + 1)) (lv' := [(6, .int (v6_3 + 1)), (0, .ref (ad 0)), (1, .int p1), (2, .int p2), (3, .ref (ad (9 + p3))), (4, .int p4), (5, .int p5)]) hx hb dX3_isTakenFor_29 hl (k := 6) rfl rfl (by decide) rfl (fun ls hl => ?_)
        refine lv_goto (tgt := 3) hx hb dX3_isTakenFor_32 (by decide) ?_
        have b6_3 : (v6_3 + 1).toInt = v6_3.toInt + 1 := inc_toInt (by omega) (by omega)
        exact ih3 _ (v6_3 + 1) (u2 S_3 6 (ix v6_3) (S_3 (25 + (ix p1)) (ix v6_3))) ⟨(by omega), (by rw [u2_nc (by omega)]; exact i3_1)⟩ (by omega) hG hex3 _ _ w ls (lv_sub hl [1, 2, 3, 4, 5, 6, 0] rfl)
  refine L3 200 _ 0 σ ⟨(by omega), rfl⟩ (by omega) rfl (fun S_3e x3_0 hr3 H locs w ls hl => ?_) _ _ w ls (lv_sub hl [1, 2, 3, 4, 5, 6, 0] rfl)
  rw [hr3] at hG
  refine lv_iconst (v := 0) hx hb dX3_isTakenFor_35 (by decide) ?_
  refine lv_istore (lv' := [(6, .int 0), (0, .ref (ad 0)), (2, .int p2), (3, .ref (ad (9 + p3))), (4, .int p4), (5, .int p5)]) hx hb dX3_isTakenFor_36 hl (by decide) rfl (fun ls hl => ?_)
  have L38 : ∀ (n : Nat) (res38 : St), ∀ (v6_38 : Int32), ∀ (S_38 : St), ((0 ≤ v6_38.toInt ∧ v6_38.toInt ≤ 10) ∧ (S_38 (13 + p3) = σ (13 + p3))) → (10 - v6_38.toInt).toNat < n → (lp_X3_isTakenFor_38 p2 p3 p4 p5 n v6_38 S_38) = res38 → (∀ (S_38e : St), res38 = S_38e → ∀ (H : Heap) (locs : List Loc), CW 41 (eC ad) ad D (CA 41 ad sz) s.heap S_38e H locs → ∀ ls : Array Slot, lv_has ls 7 [(0, .ref (ad 0)), (2, .int p2)] → W p l e (headSpec wsX3_isTakenFor ({ frames := 3, cells := 0, slots := 0, locals := 66 })).room s m ([.ref (ad 0), .int p1, .int p2, .ref (ad (9 + p3)), .int p4, .int p5] : List Value).toArray below meth c H locs 0 0 (MQ below (QWi 41 (eC ad) ad D T (CA 41 ad sz)) ([.ref (ad 0), .int p1, .int p2, .ref (ad (9 + p3)), .int p4, .int p5] : List Value).toArray s 0 0 (CA 41 ad sz)) (F0 m 95 ls [])) → ∀ (H : Heap) (locs : List Loc), CW 41 (eC ad) ad D (CA 41 ad sz) s.heap S_38 H locs → ∀ ls : Array Slot, lv_has ls 7 [(0, .ref (ad 0)), (2, .int p2), (3, .ref (ad (9 + p3))), (4, .int p4), (5, .int p5), (6, .int v6_38)] → W p l e (headSpec wsX3_isTakenFor ({ frames := 3, cells := 0, slots := 0, locals := 66 })).room s m ([.ref (ad 0), .int p1, .int p2, .ref (ad (9 + p3)), .int p4, .int p5] : List Value).toArray below meth c H locs 0 0 (MQ below (QWi 41 (eC ad) ad D T (CA 41 ad sz)) ([.ref (ad 0), .int p1, .int p2, .ref (ad (9 + p3)), .int p4, .int p5] : List Value).toArray s 0 0 (CA 41 ad sz)) (F0 m 38 ls []) := by
    intro n
    induction n with
    | zero => intro _ _ _ _ hm; exact absurd hm (Nat.not_lt_zero _)
    | succ n ih38 =>
      intro res38 v6_38 S_38 hI38 hm38 hG hex38 H locs w ls hl
      obtain ⟨i38_0, i38_1⟩ := id hI38
      rw [lp_X3_isTakenFor_38] at hG
      refine lv_iload hx hb dX3_isTakenFor_38 (lv_at hl 5 rfl) ?_
      refine lv_bipush (v := 10) hx hb dX3_isTakenFor_40 (by decide) ?_
      refine lv_icmp_ge (tgt := 95) hx hb dX3_isTakenFor_42 (by decide) (fun c42 => ?_) (fun c42 => ?_)
      · have t42 : 10 ≤ v6_38.toInt := qt_le c42
        rw [if_pos c42] at hG
        exact hex38 S_38 hG.symm _ _ w ls (lv_sub hl [0, 1] rfl)
      · have t42 : v6_38.toInt < 10 := qt_nle c42
        rw [if_neg c42] at hG
        refine lv_iload hx hb dX3_isTakenFor_45 (lv_at hl 4 rfl) ?_
        refine lv_iload hx hb dX3_isTakenFor_47 (lv_at hl 5 rfl) ?_
        refine lv_ishr hx hb dX3_isTakenFor_49 ?_
        refine lv_iconst (v := 1) hx hb dX3_isTakenFor_50 (by decide) ?_
        refine lv_iand hx hb dX3_isTakenFor_51 ?_
        refine lv_if_eq (tgt := 89) hx hb dX3_isTakenFor_52 (by decide) (fun c52 => ?_) (fun c52 => ?_)
        · have t52 : ((p5 >>> (v6_38 &&& 31)) &&& 1).toInt = 0 := qt_eq c52
          rw [if_pos c52] at hG
          refine lv_iinc (v := (v6_38 + 1)) (lv' := [(6, .int (v6_38 + 1)), (0, .ref (ad 0)), (2, .int p2), (3, .ref (ad (9 + p3))), (4, .int p4), (5, .int p5)]) hx hb dX3_isTakenFor_89 hl (k := 5) rfl rfl (by decide) rfl (fun ls hl => ?_)
          refine lv_goto (tgt := 38) hx hb dX3_isTakenFor_92 (by decide) ?_
          have b6_38 : (v6_38 + 1).toInt = v6_38.toInt + 1 := inc_toInt (by omega) (by omega)
          exact ih38 _ (v6_38 + 1) S_38 ⟨(by omega), (by first | exact i38_1 | (rw [u2_nc (by omega)]; exact i38_1))⟩ (by omega) hG hex38 _ _ w ls (lv_sub hl [1, 2, 3, 4, 5, 0] rfl)
        · have t52 : ((p5 >>> (v6_38 &&& 31)) &&& 1).toInt ≠ 0 := qt_ne c52
          rw [if_neg c52] at hG
          have hs := hst v6_38 (by omega) (by omega) c52
          refine lv_aload_n hx hb dX3_isTakenFor_55 rfl (lv_at hl 0 rfl) ?_
          refine r_get (C := RX3) (T := TX3) (N := 14) S hK w (k := 0) (by decide) (eC_0 ad _) rfl hinX3 11 (by decide) (List.mem_of_getElem? (i := 1) rfl) rfl dX3_isTakenFor_56 ?_
          refine lv_aload_n hx hb dX3_isTakenFor_59 rfl (lv_at hl 2 rfl) ?_
          refine r_getN (C := RX1) (T := TX1) (N := 4) S hK hN w (k := (9 + p3)) (Nat.lt_of_lt_of_le (Nat.add_lt_add_left hp3 9) (by decide)) (eC_sh ad hp3 _) rfl hinX1 3 (by decide) 2 rfl rfl dX3_isTakenFor_60 ?_
          refine lv_iload hx hb dX3_isTakenFor_63 (lv_at hl 3 rfl) ?_
          refine lv_iconst (v := 2) hx hb dX3_isTakenFor_65 (by decide) ?_
          refine lv_iload hx hb dX3_isTakenFor_66 (lv_at hl 5 rfl) ?_
          refine lv_imul hx hb dX3_isTakenFor_68 ?_
          refine lv_iadd hx hb dX3_isTakenFor_69 ?_
          have g70 : vp_in (p4 + (2 * v6_38)) 90 := hs.1
          refine r_iald (cA := ad 100) (N := 90) S hK w (k := (13 + p3)) (Nat.lt_of_lt_of_le (Nat.add_lt_add_left hp3 13) (by decide)) (fun f => eC_sc ad hp3 f) rfl g70 dX3_isTakenFor_70 ?_
          refine lv_dup2_11 hx hb dX3_isTakenFor_71 rfl rfl ?_
          have g72 : vp_in (S_38 (13 + p3) (ix (p4 + (2 * v6_38)))) 9 := (by rw [i38_1]; exact hs.2.2)
          refine r_iald (cA := ad 100) (N := 9) S hK w (k := 6) (by decide) (fun f => eC_6 ad f) rfl g72 dX3_isTakenFor_72 ?_
          refine lv_aload_n hx hb dX3_isTakenFor_73 rfl (lv_at hl 2 rfl) ?_
          refine r_getN (C := RX1) (T := TX1) (N := 4) S hK hN w (k := (9 + p3)) (Nat.lt_of_lt_of_le (Nat.add_lt_add_left hp3 9) (by decide)) (eC_sh ad hp3 _) rfl hinX1 3 (by decide) 2 rfl rfl dX3_isTakenFor_74 ?_
          refine lv_iload hx hb dX3_isTakenFor_77 (lv_at hl 3 rfl) ?_
          refine lv_iconst (v := 2) hx hb dX3_isTakenFor_79 (by decide) ?_
          refine lv_iload hx hb dX3_isTakenFor_80 (lv_at hl 5 rfl) ?_
          refine lv_imul hx hb dX3_isTakenFor_82 ?_
          refine lv_iadd hx hb dX3_isTakenFor_83 ?_
          refine lv_iconst (v := 1) hx hb dX3_isTakenFor_84 (by decide) ?_
          refine lv_iadd hx hb dX3_isTakenFor_85 ?_
          have g86 : vp_in ((p4 + (2 * v6_38)) + 1) 90 := hs.2.1
          refine r_iald (cA := ad 100) (N := 90) S hK w (k := (13 + p3)) (Nat.lt_of_lt_of_le (Nat.add_lt_add_left hp3 13) (by decide)) (fun f => eC_sc ad hp3 f) rfl g86 dX3_isTakenFor_86 ?_
          refine lv_iadd hx hb dX3_isTakenFor_87 ?_
          have g88 : vp_in (S_38 (13 + p3) (ix (p4 + (2 * v6_38)))) 9 := (by rw [i38_1]; exact hs.2.2)
          refine r_iast (cA := ad 100) (N := 9) S hK w (k := 6) (by decide) (fun f => eC_6 ad f) rfl g88 dX3_isTakenFor_88 (fun H locs w => ?_)
          refine lv_iinc (v := (v6_38 + 1)) (lv' := [(6, .int (v6_38 + 1)), (0, .ref (ad 0)), (2, .int p2), (3, .ref (ad (9 + p3))), (4, .int p4), (5, .int p5)]) hx hb dX3_isTakenFor_89 hl (k := 5) rfl rfl (by decide) rfl (fun ls hl => ?_)
          refine lv_goto (tgt := 38) hx hb dX3_isTakenFor_92 (by decide) ?_
          have b6_38 : (v6_38 + 1).toInt = v6_38.toInt + 1 := inc_toInt (by omega) (by omega)
          exact ih38 _ (v6_38 + 1) (u2 S_38 6 (ix (S_38 (13 + p3) (ix (p4 + (2 * v6_38))))) ((S_38 6 (ix (S_38 (13 + p3) (ix (p4 + (2 * v6_38)))))) + (S_38 (13 + p3) (ix ((p4 + (2 * v6_38)) + 1))))) ⟨(by omega), (by first | exact i38_1 | (rw [u2_nc (by omega)]; exact i38_1))⟩ (by omega) hG hex38 _ _ w ls (lv_sub hl [1, 2, 3, 4, 5, 0] rfl)
  refine L38 200 _ 0 S_3e ⟨(by omega), x3_0⟩ (by omega) rfl (fun S_38e hr38 H locs w ls hl => ?_) _ _ w ls (lv_sub hl [1, 2, 3, 4, 5, 0] rfl)
  rw [hr38] at hG
  refine lv_aload_n hx hb dX3_isTakenFor_95 rfl (lv_at hl 0 rfl) ?_
  refine lv_aload_n hx hb dX3_isTakenFor_96 rfl (lv_at hl 0 rfl) ?_
  refine r_get (C := RX3) (T := TX3) (N := 14) S hK w (k := 0) (by decide) (eC_0 ad _) rfl hinX3 11 (by decide) (List.mem_of_getElem? (i := 1) rfl) rfl dX3_isTakenFor_97 ?_
  refine lv_aload_n hx hb dX3_isTakenFor_100 rfl (lv_at hl 0 rfl) ?_
  refine r_get (C := RX3) (T := TX3) (N := 14) S hK w (k := 0) (by decide) (eC_0 ad _) rfl hinX3 1 (by decide) (List.mem_of_getElem? (i := 2) rfl) rfl dX3_isTakenFor_101 ?_
  refine lv_iload_n hx hb dX3_isTakenFor_104 rfl (lv_at hl 1 rfl) ?_
  have g105 : vp_in p2 8 := vpi (by omega) (by omega)
  refine r_aald S hK w (k := 2) (by decide) (eC_2 ad _) (t0 := 2) rfl g105 dX3_isTakenFor_105 ?_
  refine r_getN (C := RX2) (T := TX2) (N := 3) S hK hN w (k := (17 + (ix p2))) (Nat.lt_of_lt_of_le (Nat.add_lt_add_left (vpl g105) 17) (by decide)) (eC_sg ad (vpl g105) _) rfl hinX2 2 (by decide) 5 rfl rfl dX3_isTakenFor_106 ?_
  refine call0i (va_runV (As := [.ref (ad 6), .ref (ad (25 + (ix p2)))]) (rest := []) S (c_X3_areAlike l ad D H.size S_38e 6 (25 + (ix p2)) (Or.inl rfl) (Or.inr ⟨_, (vpl g105), rfl⟩)) (cwV 2 S.2.2.2.2 gX3_isTakenFor_X3_areAlike rfl rfl rfl ⟨rfl, hd_X3_areAlike⟩ ⟨Nat.le_of_ble_eq_true rfl, Nat.le_of_ble_eq_true rfl⟩) (preV hK hN w (k := 0) (by decide) (eC_0 ad _) (q := (RX3, TX3, 14)) rfl) rfl rfl hl.1 rfl (lv_room (Nat.le_of_ble_eq_true rfl)) dX3_isTakenFor_109 ⟨Nat.zero_le _, Nat.zero_le _⟩) ?_
  exact endWz S hr hlocks w bo_X3_areAlike hG dX3_isTakenFor_112
set_option maxHeartbeats 4000000 in
set_option maxRecDepth 100000 in
theorem c_X3_forged (l : Launch) (ad : Nat → Nat) (D : va_G) (sz : Nat) (σ : St) (p1 : Int32) (p2 : Int32) (p3 : Int32) (p4 : Int32) (p5 : Int32) (p6 : Int32) (hok : OkC σ) : Met l yX3_forged wsX3_forged ({ frames := 4, cells := 0, slots := 0, locals := 92 }) (PreW 41 (eC ad) ad D (tyC ad) σ sz ([.ref (ad 0), .int p1, .int p2, .int p3, .int p4, .int p5, .int p6] : List Value)) (QWi 41 (eC ad) ad D (f_X3_forged σ p1 p2 p3 p4 p5 p6) (CA 41 ad sz)) 0 0 (CA 41 ad sz) := by
  generalize hG : f_X3_forged σ p1 p2 p3 p4 p5 p6 = T
  refine headW (cc := cX3_forged) (maxL := 12) (ret := (some .int)) ([.ref (ad 0), .int p1, .int p2, .int p3, .int p4, .int p5, .int p6] : List Value) (by decide) rfl (Nat.le_of_ble_eq_true rfl) ?_
  intro p e s m below meth c S hr hlocks hK hN hsz w ls hl
  have S : CallFix p m c cX3_forged 12 s ([.ref (ad 0), .int p1, .int p2, .int p3, .int p4, .int p5, .int p6] : List Value).toArray wsX3_forged RX3 := S
  have hx := S.1
  have hb := S.2.1
  have z0 : (0 : Int32).toInt = 0 := by decide
  have z1 : (1 : Int32).toInt = 1 := by decide
  have hl : lv_has ls 12 [(0, .ref (ad 0)), (1, .int p1), (2, .int p2), (3, .int p3), (4, .int p4), (5, .int p5), (6, .int p6)] := hl
  have hinX3 : ∀ w ∈ wsX30, w ∈ wsX3_forged := (fun _ h => List.mem_cons_of_mem _ (List.mem_append_left _ (List.mem_append_left _ (List.mem_append_right _ h))))
  have hinX1 : ∀ w ∈ wsX10, w ∈ wsX3_forged := (fun _ h => List.mem_cons_of_mem _ (List.mem_append_left _ (List.mem_append_right _ h)))
  have hinX2 : ∀ w ∈ wsX20, w ∈ wsX3_forged := (fun _ h => List.mem_cons_of_mem _ (List.mem_append_right _ h))
  have okf0 := hok.1
  have okf1 := hok.2.1
  have okf2 := hok.2.2.1
  have okf3 := hok.2.2.2.1
  have okf4 := hok.2.2.2.2.1
  have okf5 := hok.2.2.2.2.2
  rw [f_X3_forged] at hG
  refine lv_aload_n hx hb dX3_forged_0 rfl (lv_at hl 0 rfl) ?_
  refine lv_iload_n hx hb dX3_forged_1 rfl (lv_at hl 1 rfl) ?_
  refine lv_iload_n hx hb dX3_forged_2 rfl (lv_at hl 2 rfl) ?_
  refine call0i (va_runV (As := [.int p1, .int p2]) (rest := []) S (c_X3_areTwoSigns l ad D s.heap.size σ p1 p2) (cwV 2 S.2.2.2.2 gX3_forged_X3_areTwoSigns rfl rfl rfl ⟨rfl, hd_X3_areTwoSigns⟩ ⟨Nat.le_of_ble_eq_true rfl, Nat.le_of_ble_eq_true rfl⟩) (preV hK hN w (k := 0) (by decide) (eC_0 ad _) (q := (RX3, TX3, 14)) rfl) rfl rfl hl.1 rfl (lv_room (Nat.le_of_ble_eq_true rfl)) dX3_forged_3 ⟨Nat.zero_le _, Nat.zero_le _⟩) ?_
  refine lv_if_ne (tgt := 15) hx hb dX3_forged_6 (by decide) (fun c6 => ?_) (fun c6 => ?_)
  · have t6 := bf_areTwoSigns_n c6
    rw [if_neg c6] at hG
    refine lv_aload_n hx hb dX3_forged_15 rfl (lv_at hl 0 rfl) ?_
    refine lv_iload_n hx hb dX3_forged_16 rfl (lv_at hl 3 rfl) ?_
    refine lv_iload hx hb dX3_forged_17 (lv_at hl 4 rfl) ?_
    refine lv_iload hx hb dX3_forged_19 (lv_at hl 5 rfl) ?_
    refine lv_ldc2 hx hb S.2.2.2.1 (S.2.2.2.2 _ (List.mem_of_getElem? (i := 1) rfl)) dX3_forged_21 ?_
    refine lv_iload hx hb dX3_forged_24 (lv_at hl 6 rfl) ?_
    refine lv_i2l hx hb dX3_forged_26 rfl ?_
    refine lv_lmul hx hb dX3_forged_27 ?_
    have ok3 := okf3
    refine callWi w (va_runV (As := [.int p3, .int p4, .int p5, .long (2 * p6.toInt64)]) (rest := []) S (c_X3_spanRefusal l ad D s.heap.size σ p3 p4 p5 (2 * p6.toInt64)) (cwV 4 S.2.2.2.2 gX3_forged_X3_spanRefusal rfl rfl rfl ⟨rfl, hd_X3_spanRefusal⟩ ⟨Nat.le_of_ble_eq_true rfl, Nat.le_of_ble_eq_true rfl⟩) (preV hK hN w (k := 0) (by decide) (eC_0 ad _) (q := (RX3, TX3, 14)) rfl) rfl rfl hl.1 rfl (lv_room (Nat.le_of_ble_eq_true rfl)) dX3_forged_28 ⟨Nat.zero_le _, Nat.zero_le _⟩) (fun H locs w => ?_)
    have hok : OkC ((f_X3_spanRefusal σ p3 p4 p5 (2 * p6.toInt64)).2) := ok_X3_spanRefusal hok
    have okf0 := hok.1
    have okf1 := hok.2.1
    have okf2 := hok.2.2.1
    have okf3 := hok.2.2.2.1
    have okf4 := hok.2.2.2.2.1
    have okf5 := hok.2.2.2.2.2
    refine lv_istore (lv' := [(7, .int ((f_X3_spanRefusal σ p3 p4 p5 (2 * p6.toInt64)).1)), (0, .ref (ad 0)), (1, .int p1), (2, .int p2), (3, .int p3), (4, .int p4), (5, .int p5), (6, .int p6)]) hx hb dX3_forged_31 hl (by decide) rfl (fun ls hl => ?_)
    refine lv_iload hx hb dX3_forged_33 (lv_at hl 0 rfl) ?_
    refine lv_if_eq (tgt := 41) hx hb dX3_forged_35 (by decide) (fun c35 => ?_) (fun c35 => ?_)
    · have t35 : ((f_X3_spanRefusal σ p3 p4 p5 (2 * p6.toInt64)).1).toInt = 0 := qt_eq c35
      rw [if_pos c35] at hG
      have z := sp_z c35
      have zl := l2_toInt p6
      have zb : p6.toInt < 2147483648 := Int32.toInt_lt p6
      have z3 := ok3 (ix p3) (vpl (vpi (by omega) (by omega)))
      refine lv_iload hx hb dX3_forged_41 (lv_at hl 7 rfl) ?_
      refine lv_bipush (v := 10) hx hb dX3_forged_43 (by decide) ?_
      refine lv_icmp_gt (tgt := 64) hx hb dX3_forged_45 (by decide) (fun c45 => ?_) (fun c45 => ?_)
      · have t45 : 10 < p6.toInt := qt_lt c45
        rw [if_pos c45] at hG
        refine lv_bipush (v := (-2)) hx hb dX3_forged_64 (by decide) ?_
        exact endWi S hr hlocks w hG dX3_forged_66
      · have t45 : p6.toInt ≤ 10 := qt_nlt c45
        rw [if_neg c45] at hG
        refine lv_aload_n hx hb dX3_forged_48 rfl (lv_at hl 1 rfl) ?_
        refine r_get (C := RX3) (T := TX3) (N := 14) S hK w (k := 0) (by decide) (eC_0 ad _) rfl hinX3 0 (by decide) (List.mem_of_getElem? (i := 2) rfl) rfl dX3_forged_49 ?_
        refine lv_iload_n hx hb dX3_forged_52 rfl (lv_at hl 4 rfl) ?_
        have g53 : vp_in p3 4 := vpi (by omega) (by omega)
        refine r_aald S hK w (k := 1) (by decide) (eC_1 ad _) (t0 := 1) rfl g53 dX3_forged_53 ?_
        refine lv_iload hx hb dX3_forged_54 (lv_at hl 6 rfl) ?_
        refine lv_iload hx hb dX3_forged_56 (lv_at hl 7 rfl) ?_
        refine call0i (va_runS (As := [.ref (ad (9 + (ix p3))), .int p5, .int p6]) (rest := []) S (c_X3_areStoppers l ad D H.size ((f_X3_spanRefusal σ p3 p4 p5 (2 * p6.toInt64)).2) (ix p3) p5 p6 (vpl g53) (by omega) (by omega) (by omega)) (va_cwS 3 S.2.2.2.2 gX3_forged_X3_areStoppers rfl rfl rfl hd_X3_areStoppers ⟨Nat.le_of_ble_eq_true rfl, Nat.le_of_ble_eq_true rfl⟩) (preS hK hN w) rfl rfl hl.1 rfl (lv_room (Nat.le_of_ble_eq_true rfl)) dX3_forged_58 ⟨Nat.zero_le _, Nat.zero_le _⟩) ?_
        refine lv_if_ne (tgt := 67) hx hb dX3_forged_61 (by decide) (fun c61 => ?_) (fun c61 => ?_)
        · rw [if_neg c61] at hG
          have zs := as_n (by omega) (by omega) (by omega) c61
          refine lv_bipush (v := (-9)) hx hb dX3_forged_67 (by decide) ?_
          refine lv_istore (lv' := [(8, .int (-9)), (7, .int ((f_X3_spanRefusal σ p3 p4 p5 (2 * p6.toInt64)).1)), (0, .ref (ad 0)), (1, .int p1), (2, .int p2), (3, .int p3), (4, .int p4), (5, .int p5), (6, .int p6)]) hx hb dX3_forged_69 hl (by decide) rfl (fun ls hl => ?_)
          refine lv_iload hx hb dX3_forged_71 (lv_at hl 8 rfl) ?_
          refine lv_iconst (v := 1) hx hb dX3_forged_73 (by decide) ?_
          refine lv_iadd hx hb dX3_forged_74 ?_
          refine lv_istore (lv' := [(9, .int (p6 + 1)), (8, .int (-9)), (7, .int ((f_X3_spanRefusal σ p3 p4 p5 (2 * p6.toInt64)).1)), (0, .ref (ad 0)), (1, .int p1), (2, .int p2), (3, .int p3), (4, .int p4), (5, .int p5), (6, .int p6)]) hx hb dX3_forged_75 hl (by decide) rfl (fun ls hl => ?_)
          refine lv_iconst (v := 0) hx hb dX3_forged_77 (by decide) ?_
          refine lv_istore (lv' := [(10, .int 0), (9, .int (p6 + 1)), (8, .int (-9)), (7, .int ((f_X3_spanRefusal σ p3 p4 p5 (2 * p6.toInt64)).1)), (0, .ref (ad 0)), (1, .int p1), (2, .int p2), (3, .int p3), (4, .int p4), (5, .int p5), (6, .int p6)]) hx hb dX3_forged_78 hl (by decide) rfl (fun ls hl => ?_)
          have L80 : ∀ (n : Nat) (res80 : Int32 × St), ∀ (v8_80 : Int32), ∀ (v9_80 : Int32), ∀ (v10_80 : Int32), ∀ (S_80 : St), ((OkC S_80) ∧ (0 ≤ v10_80.toInt ∧ v10_80.toInt ≤ 1024) ∧ (S_80 (13 + ix p3) = (f_X3_spanRefusal σ p3 p4 p5 (2 * p6.toInt64)).2 (13 + ix p3))) → (1024 - v10_80.toInt).toNat < n → (lp_X3_forged_80 p1 p2 p3 p5 p6 n v8_80 v9_80 v10_80 S_80) = res80 → (∀ (v8_80e : Int32), ∀ (S_80e : St), (OkC S_80e) → res80 = (v8_80e, S_80e) → ∀ (H : Heap) (locs : List Loc), CW 41 (eC ad) ad D (CA 41 ad sz) s.heap S_80e H locs → ∀ ls : Array Slot, lv_has ls 12 [(0, .ref (ad 0)), (8, .int v8_80e)] → W p l e (headSpec wsX3_forged ({ frames := 4, cells := 0, slots := 0, locals := 92 })).room s m ([.ref (ad 0), .int p1, .int p2, .int p3, .int p4, .int p5, .int p6] : List Value).toArray below meth c H locs 0 0 (MQ below (QWi 41 (eC ad) ad D T (CA 41 ad sz)) ([.ref (ad 0), .int p1, .int p2, .int p3, .int p4, .int p5, .int p6] : List Value).toArray s 0 0 (CA 41 ad sz)) (F0 m 136 ls [])) → ∀ (H : Heap) (locs : List Loc), CW 41 (eC ad) ad D (CA 41 ad sz) s.heap S_80 H locs → ∀ ls : Array Slot, lv_has ls 12 [(0, .ref (ad 0)), (1, .int p1), (2, .int p2), (3, .int p3), (5, .int p5), (6, .int p6), (8, .int v8_80), (9, .int v9_80), (10, .int v10_80)] → W p l e (headSpec wsX3_forged ({ frames := 4, cells := 0, slots := 0, locals := 92 })).room s m ([.ref (ad 0), .int p1, .int p2, .int p3, .int p4, .int p5, .int p6] : List Value).toArray below meth c H locs 0 0 (MQ below (QWi 41 (eC ad) ad D T (CA 41 ad sz)) ([.ref (ad 0), .int p1, .int p2, .int p3, .int p4, .int p5, .int p6] : List Value).toArray s 0 0 (CA 41 ad sz)) (F0 m 80 ls []) := by
            intro n
            induction n with
            | zero => intro _ _ _ _ _ _ hm; exact absurd hm (Nat.not_lt_zero _)
            | succ n ih80 =>
              intro res80 v8_80 v9_80 v10_80 S_80 hI80 hm80 hG hex80 H locs w ls hl
              obtain ⟨hok, i80_1, i80_2⟩ := id hI80
              have okf0 := hok.1
              have okf1 := hok.2.1
              have okf2 := hok.2.2.1
              have okf3 := hok.2.2.2.1
              have okf4 := hok.2.2.2.2.1
              have okf5 := hok.2.2.2.2.2
              rw [lp_X3_forged_80] at hG
              have sl := sh_le (p := p6) (by omega) (by omega)
              refine lv_iload hx hb dX3_forged_80 (lv_at hl 8 rfl) ?_
              refine lv_iconst (v := 1) hx hb dX3_forged_82 (by decide) ?_
              refine lv_iload hx hb dX3_forged_83 (lv_at hl 5 rfl) ?_
              refine lv_ishl hx hb dX3_forged_85 ?_
              refine lv_icmp_ge (tgt := 136) hx hb dX3_forged_86 (by decide) (fun c86 => ?_) (fun c86 => ?_)
              · have t86 : ((1 : Int32) <<< (p6 &&& 31)).toInt ≤ v10_80.toInt := qt_le c86
                rw [if_pos c86] at hG
                exact hex80 v8_80 S_80 hok hG.symm _ _ w ls (lv_sub hl [0, 6] rfl)
              · have t86 : v10_80.toInt < ((1 : Int32) <<< (p6 &&& 31)).toInt := qt_nle c86
                rw [if_neg c86] at hG
                have zq := zs v10_80 (by omega) c86
                refine lv_iload hx hb dX3_forged_89 (lv_at hl 8 rfl) ?_
                refine call0i (va_runS (As := [.int v10_80]) (rest := []) S (c_J6_bitCount_0f7a4 l v10_80) (va_cwS 1 S.2.2.2.2 gX3_forged_J6_bitCount_0f7a4 rfl rfl rfl hd_J6_bitCount_0f7a4 ⟨Nat.le_of_ble_eq_true rfl, Nat.le_of_ble_eq_true rfl⟩) pre0S rfl rfl hl.1 rfl (lv_room (Nat.le_of_ble_eq_true rfl)) dX3_forged_91 ⟨Nat.zero_le _, Nat.zero_le _⟩) ?_
                refine lv_istore (lv' := [(11, .int (f_J6_bitCount_0f7a4 v10_80)), (0, .ref (ad 0)), (1, .int p1), (2, .int p2), (3, .int p3), (5, .int p5), (6, .int p6), (8, .int v8_80), (9, .int v9_80), (10, .int v10_80)]) hx hb dX3_forged_94 hl (by decide) rfl (fun ls hl => ?_)
                refine lv_iload hx hb dX3_forged_96 (lv_at hl 0 rfl) ?_
                refine lv_iload hx hb dX3_forged_98 (lv_at hl 8 rfl) ?_
                refine lv_icmp_ge (tgt := 130) hx hb dX3_forged_100 (by decide) (fun c100 => ?_) (fun c100 => ?_)
                · have t100 : v9_80.toInt ≤ (f_J6_bitCount_0f7a4 v10_80).toInt := qt_le c100
                  rw [if_pos c100] at hG
                  refine lv_iinc (v := (v10_80 + 1)) (lv' := [(10, .int (v10_80 + 1)), (11, .int (f_J6_bitCount_0f7a4 v10_80)), (0, .ref (ad 0)), (1, .int p1), (2, .int p2), (3, .int p3), (5, .int p5), (6, .int p6), (8, .int v8_80), (9, .int v9_80)]) hx hb dX3_forged_130 hl (k := 9) rfl rfl (by decide) rfl (fun ls hl => ?_)
                  refine lv_goto (tgt := 80) hx hb dX3_forged_133 (by decide) ?_
                  have b10_80 : (v10_80 + 1).toInt = v10_80.toInt + 1 := inc_toInt (by omega) (by omega)
                  exact ih80 _ v8_80 v9_80 (v10_80 + 1) S_80 ⟨hok, (by omega), (by first | exact i80_2 | (rw [fr_X3_isTakenFor (by omega)]; exact i80_2))⟩ (by omega) hG hex80 _ _ w ls (lv_sub hl [2, 3, 4, 5, 6, 7, 8, 9, 0] rfl)
                · have t100 : (f_J6_bitCount_0f7a4 v10_80).toInt < v9_80.toInt := qt_nle c100
                  rw [if_neg c100] at hG
                  refine lv_aload_n hx hb dX3_forged_103 rfl (lv_at hl 1 rfl) ?_
                  refine lv_iload_n hx hb dX3_forged_104 rfl (lv_at hl 2 rfl) ?_
                  refine lv_iload_n hx hb dX3_forged_105 rfl (lv_at hl 3 rfl) ?_
                  refine lv_aload_n hx hb dX3_forged_106 rfl (lv_at hl 1 rfl) ?_
                  refine r_get (C := RX3) (T := TX3) (N := 14) S hK w (k := 0) (by decide) (eC_0 ad _) rfl hinX3 0 (by decide) (List.mem_of_getElem? (i := 2) rfl) rfl dX3_forged_107 ?_
                  refine lv_iload_n hx hb dX3_forged_110 rfl (lv_at hl 4 rfl) ?_
                  have g111 : vp_in p3 4 := vpi (by omega) (by omega)
                  refine r_aald S hK w (k := 1) (by decide) (eC_1 ad _) (t0 := 1) rfl g111 dX3_forged_111 ?_
                  refine lv_iload hx hb dX3_forged_112 (lv_at hl 5 rfl) ?_
                  refine lv_iload hx hb dX3_forged_114 (lv_at hl 9 rfl) ?_
                  refine callWi w (va_runV (As := [.int p1, .int p2, .ref (ad (9 + (ix p3))), .int p5, .int v10_80]) (rest := []) S (c_X3_isTakenFor l ad D H.size S_80 p1 p2 (ix p3) p5 v10_80 (vpl g111) (by omega) (by omega) (hst_congr i80_2 zq)) (cwV 5 S.2.2.2.2 gX3_forged_X3_isTakenFor rfl rfl rfl ⟨rfl, hd_X3_isTakenFor⟩ ⟨Nat.le_of_ble_eq_true rfl, Nat.le_of_ble_eq_true rfl⟩) (preV hK hN w (k := 0) (by decide) (eC_0 ad _) (q := (RX3, TX3, 14)) rfl) rfl rfl hl.1 rfl (lv_room (Nat.le_of_ble_eq_true rfl)) dX3_forged_116 ⟨Nat.zero_le _, Nat.zero_le _⟩) (fun H locs w => ?_)
                  have hok : OkC ((f_X3_isTakenFor S_80 p1 p2 (ix p3) p5 v10_80).2) := ok_X3_isTakenFor hok
                  have okf0 := hok.1
                  have okf1 := hok.2.1
                  have okf2 := hok.2.2.1
                  have okf3 := hok.2.2.2.1
                  have okf4 := hok.2.2.2.2.1
                  have okf5 := hok.2.2.2.2.2
                  refine lv_if_eq (tgt := 130) hx hb dX3_forged_119 (by decide) (fun c119 => ?_) (fun c119 => ?_)
                  · have t119 : ((f_X3_isTakenFor S_80 p1 p2 (ix p3) p5 v10_80).1).toInt = 0 := qt_eq c119
                    rw [if_pos c119] at hG
                    refine lv_iinc (v := (v10_80 + 1)) (lv' := [(10, .int (v10_80 + 1)), (11, .int (f_J6_bitCount_0f7a4 v10_80)), (0, .ref (ad 0)), (1, .int p1), (2, .int p2), (3, .int p3), (5, .int p5), (6, .int p6), (8, .int v8_80), (9, .int v9_80)]) hx hb dX3_forged_130 hl (k := 9) rfl rfl (by decide) rfl (fun ls hl => ?_)
                    refine lv_goto (tgt := 80) hx hb dX3_forged_133 (by decide) ?_
                    have b10_80 : (v10_80 + 1).toInt = v10_80.toInt + 1 := inc_toInt (by omega) (by omega)
                    exact ih80 _ v8_80 v9_80 (v10_80 + 1) ((f_X3_isTakenFor S_80 p1 p2 (ix p3) p5 v10_80).2) ⟨hok, (by omega), (by first | exact i80_2 | (rw [fr_X3_isTakenFor (by omega)]; exact i80_2))⟩ (by omega) hG hex80 _ _ w ls (lv_sub hl [2, 3, 4, 5, 6, 7, 8, 9, 0] rfl)
                  · have t119 : ((f_X3_isTakenFor S_80 p1 p2 (ix p3) p5 v10_80).1).toInt ≠ 0 := qt_ne c119
                    rw [if_neg c119] at hG
                    refine lv_iload hx hb dX3_forged_122 (lv_at hl 9 rfl) ?_
                    refine lv_istore (lv' := [(8, .int v10_80), (11, .int (f_J6_bitCount_0f7a4 v10_80)), (0, .ref (ad 0)), (1, .int p1), (2, .int p2), (3, .int p3), (5, .int p5), (6, .int p6), (9, .int v9_80), (10, .int v10_80)]) hx hb dX3_forged_124 hl (by decide) rfl (fun ls hl => ?_)
                    refine lv_iload hx hb dX3_forged_126 (lv_at hl 1 rfl) ?_
                    refine lv_istore (lv' := [(9, .int (f_J6_bitCount_0f7a4 v10_80)), (8, .int v10_80), (11, .int (f_J6_bitCount_0f7a4 v10_80)), (0, .ref (ad 0)), (1, .int p1), (2, .int p2), (3, .int p3), (5, .int p5), (6, .int p6), (10, .int v10_80)]) hx hb dX3_forged_128 hl (by decide) rfl (fun ls hl => ?_)
                    refine lv_iinc (v := (v10_80 + 1)) (lv' := [(10, .int (v10_80 + 1)), (9, .int (f_J6_bitCount_0f7a4 v10_80)), (8, .int v10_80), (11, .int (f_J6_bitCount_0f7a4 v10_80)), (0, .ref (ad 0)), (1, .int p1), (2, .int p2), (3, .int p3), (5, .int p5), (6, .int p6)]) hx hb dX3_forged_130 hl (k := 9) rfl rfl (by decide) rfl (fun ls hl => ?_)
                    refine lv_goto (tgt := 80) hx hb dX3_forged_133 (by decide) ?_
                    have b10_80 : (v10_80 + 1).toInt = v10_80.toInt + 1 := inc_toInt (by omega) (by omega)
                    exact ih80 _ v10_80 (f_J6_bitCount_0f7a4 v10_80) (v10_80 + 1) ((f_X3_isTakenFor S_80 p1 p2 (ix p3) p5 v10_80).2) ⟨hok, (by omega), (by first | exact i80_2 | (rw [fr_X3_isTakenFor (by omega)]; exact i80_2))⟩ (by omega) hG hex80 _ _ w ls (lv_sub hl [4, 5, 6, 7, 8, 9, 2, 1, 0] rfl)
          refine L80 1100 _ (-9) (p6 + 1) 0 ((f_X3_spanRefusal σ p3 p4 p5 (2 * p6.toInt64)).2) ⟨hok, (by omega), rfl⟩ (by omega) rfl (fun v8_80e S_80e hok hr80 H locs w ls hl => ?_) _ _ w ls (lv_sub hl [4, 5, 6, 7, 9, 10, 2, 1, 0] rfl)
          rw [hr80] at hG
          dsimp only at hG
          have okf0 := hok.1
          have okf1 := hok.2.1
          have okf2 := hok.2.2.1
          have okf3 := hok.2.2.2.1
          have okf4 := hok.2.2.2.2.1
          have okf5 := hok.2.2.2.2.2
          refine lv_iload hx hb dX3_forged_136 (lv_at hl 1 rfl) ?_
          exact endWi S hr hlocks w hG dX3_forged_138
        · rw [if_pos c61] at hG
          refine lv_bipush (v := (-2)) hx hb dX3_forged_64 (by decide) ?_
          exact endWi S hr hlocks w hG dX3_forged_66
    · have t35 : ((f_X3_spanRefusal σ p3 p4 p5 (2 * p6.toInt64)).1).toInt ≠ 0 := qt_ne c35
      rw [if_neg c35] at hG
      refine lv_iload hx hb dX3_forged_38 (lv_at hl 0 rfl) ?_
      exact endWi S hr hlocks w hG dX3_forged_40
  · rw [if_pos c6] at hG
    refine lv_aload_n hx hb dX3_forged_9 rfl (lv_at hl 0 rfl) ?_
    refine lv_iconst (v := (-1)) hx hb dX3_forged_10 (by decide) ?_
    refine callWi w (va_runV (As := [.int (-1)]) (rest := []) S (c_X3_refused l ad D s.heap.size σ (-1)) (cwV 1 S.2.2.2.2 gX3_forged_X3_refused rfl rfl rfl ⟨rfl, hd_X3_refused⟩ ⟨Nat.le_of_ble_eq_true rfl, Nat.le_of_ble_eq_true rfl⟩) (preV hK hN w (k := 0) (by decide) (eC_0 ad _) (q := (RX3, TX3, 14)) rfl) rfl rfl hl.1 rfl (lv_room (Nat.le_of_ble_eq_true rfl)) dX3_forged_11 ⟨Nat.zero_le _, Nat.zero_le _⟩) (fun H locs w => ?_)
    exact endWi S hr hlocks w hG dX3_forged_14
set_option maxHeartbeats 4000000 in
set_option maxRecDepth 100000 in
theorem c_X3_strengthNear (l : Launch) (ad : Nat → Nat) (D : va_G) (sz : Nat) (σ : St) (p1 : Nat) (p2 : Nat) (p3 : Int32) (p4 : Int32) (hp1 : p1 < 8) (hp2 : p2 < 8) (hsm : 0 ≤ p4.toInt ∧ p4.toInt < 9) : Met l yX3_strengthNear wsX3_strengthNear ({ frames := 0, cells := 0, slots := 0, locals := 0 }) (PreW 41 (eC ad) ad D (tyC ad) σ sz ([.ref (ad (17 + p1)), .ref (ad (17 + p2)), .int p3, .int p4] : List Value)) (Q0i (f_X3_strengthNear σ p1 p2 p3 p4)) 0 0 N0 := by
  generalize hG : f_X3_strengthNear σ p1 p2 p3 p4 = T
  refine headW (cc := cX3_strengthNear) (maxL := 5) (ret := (some .int)) ([.ref (ad (17 + p1)), .ref (ad (17 + p2)), .int p3, .int p4] : List Value) (by decide) rfl (Nat.le_of_ble_eq_true rfl) ?_
  intro p e s m below meth c S hr hlocks hK hN hsz w ls hl
  have S : CallFix p m c cX3_strengthNear 5 s ([.ref (ad (17 + p1)), .ref (ad (17 + p2)), .int p3, .int p4] : List Value).toArray wsX3_strengthNear RX3 := S
  have hx := S.1
  have hb := S.2.1
  have z0 : (0 : Int32).toInt = 0 := by decide
  have z1 : (1 : Int32).toInt = 1 := by decide
  have hl : lv_has ls 5 [(0, .ref (ad (17 + p1))), (1, .ref (ad (17 + p2))), (2, .int p3), (3, .int p4)] := hl
  have hinX2 : ∀ w ∈ wsX20, w ∈ wsX3_strengthNear := (fun _ h => List.mem_cons_of_mem _ (List.mem_append_right _ h))
  rw [f_X3_strengthNear] at hG
  refine lv_aload_n hx hb dX3_strengthNear_0 rfl (lv_at hl 1 rfl) ?_
  refine r_getN (C := RX2) (T := TX2) (N := 3) S hK hN w (k := (17 + p2)) (Nat.lt_of_lt_of_le (Nat.add_lt_add_left hp2 17) (by decide)) (eC_sg ad hp2 _) rfl hinX2 2 (by decide) 5 rfl rfl dX3_strengthNear_1 ?_
  refine lv_iload_n hx hb dX3_strengthNear_4 rfl (lv_at hl 3 rfl) ?_
  have g5 : vp_in p4 9 := vpi (by omega) (by omega)
  refine r_iald (cA := ad 100) (N := 9) S hK w (k := (25 + p2)) (Nat.lt_of_lt_of_le (Nat.add_lt_add_left hp2 25) (by decide)) (fun f => eC_st ad hp2 f) rfl g5 dX3_strengthNear_5 ?_
  refine lv_aload_n hx hb dX3_strengthNear_6 rfl (lv_at hl 0 rfl) ?_
  refine r_getN (C := RX2) (T := TX2) (N := 3) S hK hN w (k := (17 + p1)) (Nat.lt_of_lt_of_le (Nat.add_lt_add_left hp1 17) (by decide)) (eC_sg ad hp1 _) rfl hinX2 2 (by decide) 5 rfl rfl dX3_strengthNear_7 ?_
  refine lv_iload_n hx hb dX3_strengthNear_10 rfl (lv_at hl 3 rfl) ?_
  have g11 : vp_in p4 9 := vpi (by omega) (by omega)
  refine r_iald (cA := ad 100) (N := 9) S hK w (k := (25 + p1)) (Nat.lt_of_lt_of_le (Nat.add_lt_add_left hp1 25) (by decide)) (fun f => eC_st ad hp1 f) rfl g11 dX3_strengthNear_11 ?_
  refine lv_isub hx hb dX3_strengthNear_12 ?_
  refine lv_istore (lv' := [(4, .int ((σ (25 + p2) (ix p4)) - (σ (25 + p1) (ix p4)))), (0, .ref (ad (17 + p1))), (1, .ref (ad (17 + p2))), (2, .int p3), (3, .int p4)]) hx hb dX3_strengthNear_13 hl (by decide) rfl (fun ls hl => ?_)
  refine lv_aload_n hx hb dX3_strengthNear_15 rfl (lv_at hl 1 rfl) ?_
  refine r_getN (C := RX2) (T := TX2) (N := 3) S hK hN w (k := (17 + p1)) (Nat.lt_of_lt_of_le (Nat.add_lt_add_left hp1 17) (by decide)) (eC_sg ad hp1 _) rfl hinX2 2 (by decide) 5 rfl rfl dX3_strengthNear_16 ?_
  refine lv_iload_n hx hb dX3_strengthNear_19 rfl (lv_at hl 4 rfl) ?_
  have g20 : vp_in p4 9 := vpi (by omega) (by omega)
  refine r_iald (cA := ad 100) (N := 9) S hK w (k := (25 + p1)) (Nat.lt_of_lt_of_le (Nat.add_lt_add_left hp1 25) (by decide)) (fun f => eC_st ad hp1 f) rfl g20 dX3_strengthNear_20 ?_
  refine lv_iload hx hb dX3_strengthNear_21 (lv_at hl 0 rfl) ?_
  refine lv_iload_n hx hb dX3_strengthNear_23 rfl (lv_at hl 3 rfl) ?_
  refine lv_imul hx hb dX3_strengthNear_24 ?_
  refine lv_bipush (v := 10) hx hb dX3_strengthNear_25 (by decide) ?_
  refine lv_idiv hx hb dX3_strengthNear_27 (by decide) ?_
  refine lv_iadd hx hb dX3_strengthNear_28 ?_
  exact end0i S hr hlocks hG dX3_strengthNear_29
set_option maxHeartbeats 4000000 in
set_option maxRecDepth 100000 in
theorem c_X3_near (l : Launch) (ad : Nat → Nat) (D : va_G) (sz : Nat) (σ : St) (p1 : Int32) (p2 : Int32) (p3 : Int32) (p4 : Int32) (hok : OkC σ) : Met l yX3_near wsX3_near ({ frames := 1, cells := 0, slots := 0, locals := 24 }) (PreW 41 (eC ad) ad D (tyC ad) σ sz ([.ref (ad 0), .int p1, .int p2, .int p3, .int p4] : List Value)) (Q0i (f_X3_near σ p1 p2 p3 p4)) 0 0 N0 := by
  generalize hG : f_X3_near σ p1 p2 p3 p4 = T
  refine headW (cc := cX3_near) (maxL := 5) (ret := (some .int)) ([.ref (ad 0), .int p1, .int p2, .int p3, .int p4] : List Value) (by decide) rfl (Nat.le_of_ble_eq_true rfl) ?_
  intro p e s m below meth c S hr hlocks hK hN hsz w ls hl
  have S : CallFix p m c cX3_near 5 s ([.ref (ad 0), .int p1, .int p2, .int p3, .int p4] : List Value).toArray wsX3_near RX3 := S
  have hx := S.1
  have hb := S.2.1
  have z0 : (0 : Int32).toInt = 0 := by decide
  have z1 : (1 : Int32).toInt = 1 := by decide
  have hl : lv_has ls 5 [(0, .ref (ad 0)), (1, .int p1), (2, .int p2), (3, .int p3), (4, .int p4)] := hl
  have hinX3 : ∀ w ∈ wsX30, w ∈ wsX3_near := (fun _ h => List.mem_cons_of_mem _ (List.mem_append_left _ (List.mem_append_right _ h)))
  have hinX2 : ∀ w ∈ wsX20, w ∈ wsX3_near := (fun _ h => List.mem_cons_of_mem _ (List.mem_append_right _ h))
  have okf0 := hok.1
  have okf1 := hok.2.1
  have okf2 := hok.2.2.1
  have okf3 := hok.2.2.2.1
  have okf4 := hok.2.2.2.2.1
  have okf5 := hok.2.2.2.2.2
  rw [f_X3_near] at hG
  refine lv_aload_n hx hb dX3_near_0 rfl (lv_at hl 0 rfl) ?_
  refine lv_iload_n hx hb dX3_near_1 rfl (lv_at hl 1 rfl) ?_
  refine call0i (va_runV (As := [.int p1]) (rest := []) S (c_X3_isSign l ad D s.heap.size σ p1) (cwV 1 S.2.2.2.2 gX3_near_X3_isSign rfl rfl rfl ⟨rfl, hd_X3_isSign⟩ ⟨Nat.le_of_ble_eq_true rfl, Nat.le_of_ble_eq_true rfl⟩) (preV hK hN w (k := 0) (by decide) (eC_0 ad _) (q := (RX3, TX3, 14)) rfl) rfl rfl hl.1 rfl (lv_room (Nat.le_of_ble_eq_true rfl)) dX3_near_2 ⟨Nat.zero_le _, Nat.zero_le _⟩) ?_
  refine lv_if_eq (tgt := 24) hx hb dX3_near_5 (by decide) (fun c5 => ?_) (fun c5 => ?_)
  · rw [if_pos c5] at hG
    refine lv_iconst (v := (-1)) hx hb dX3_near_24 (by decide) ?_
    exact end0i S hr hlocks hG dX3_near_25
  · have t5 := bf_isSign_n c5
    rw [if_neg c5] at hG
    refine lv_aload_n hx hb dX3_near_8 rfl (lv_at hl 0 rfl) ?_
    refine lv_iload_n hx hb dX3_near_9 rfl (lv_at hl 2 rfl) ?_
    refine call0i (va_runV (As := [.int p2]) (rest := []) S (c_X3_isSign l ad D s.heap.size σ p2) (cwV 1 S.2.2.2.2 gX3_near_X3_isSign rfl rfl rfl ⟨rfl, hd_X3_isSign⟩ ⟨Nat.le_of_ble_eq_true rfl, Nat.le_of_ble_eq_true rfl⟩) (preV hK hN w (k := 0) (by decide) (eC_0 ad _) (q := (RX3, TX3, 14)) rfl) rfl rfl hl.1 rfl (lv_room (Nat.le_of_ble_eq_true rfl)) dX3_near_10 ⟨Nat.zero_le _, Nat.zero_le _⟩) ?_
    refine lv_if_eq (tgt := 24) hx hb dX3_near_13 (by decide) (fun c13 => ?_) (fun c13 => ?_)
    · rw [if_pos c13] at hG
      refine lv_iconst (v := (-1)) hx hb dX3_near_24 (by decide) ?_
      exact end0i S hr hlocks hG dX3_near_25
    · have t13 := bf_isSign_n c13
      rw [if_neg c13] at hG
      refine lv_iload hx hb dX3_near_16 (lv_at hl 4 rfl) ?_
      refine call0i (va_runS (As := [.int p4]) (rest := []) S (c_X3_isSmell l p4) (va_cwS 1 S.2.2.2.2 gX3_near_X3_isSmell rfl rfl rfl hd_X3_isSmell ⟨Nat.le_of_ble_eq_true rfl, Nat.le_of_ble_eq_true rfl⟩) pre0S rfl rfl hl.1 rfl (lv_room (Nat.le_of_ble_eq_true rfl)) dX3_near_18 ⟨Nat.zero_le _, Nat.zero_le _⟩) ?_
      refine lv_if_ne (tgt := 26) hx hb dX3_near_21 (by decide) (fun c21 => ?_) (fun c21 => ?_)
      · have t21 := bf_isSmell_n c21
        rw [if_neg c21] at hG
        refine lv_iload_n hx hb dX3_near_26 rfl (lv_at hl 3 rfl) ?_
        refine lv_if_lt (tgt := 36) hx hb dX3_near_27 (by decide) (fun c27 => ?_) (fun c27 => ?_)
        · have t27 : p3.toInt < 0 := qt_lt c27
          rw [if_pos c27] at hG
          refine lv_bipush (v := (-2)) hx hb dX3_near_36 (by decide) ?_
          exact end0i S hr hlocks hG dX3_near_38
        · have t27 : 0 ≤ p3.toInt := qt_nlt c27
          rw [if_neg c27] at hG
          refine lv_iload_n hx hb dX3_near_30 rfl (lv_at hl 3 rfl) ?_
          refine lv_bipush (v := 10) hx hb dX3_near_31 (by decide) ?_
          refine lv_icmp_le (tgt := 39) hx hb dX3_near_33 (by decide) (fun c33 => ?_) (fun c33 => ?_)
          · have t33 : p3.toInt ≤ 10 := qt_le c33
            rw [if_pos c33] at hG
            refine lv_aload_n hx hb dX3_near_39 rfl (lv_at hl 0 rfl) ?_
            refine r_get (C := RX3) (T := TX3) (N := 14) S hK w (k := 0) (by decide) (eC_0 ad _) rfl hinX3 1 (by decide) (List.mem_of_getElem? (i := 1) rfl) rfl dX3_near_40 ?_
            refine lv_iload_n hx hb dX3_near_43 rfl (lv_at hl 1 rfl) ?_
            have g44 : vp_in p1 8 := vpi (by omega) (by omega)
            refine r_aald S hK w (k := 2) (by decide) (eC_2 ad _) (t0 := 2) rfl g44 dX3_near_44 ?_
            refine lv_aload_n hx hb dX3_near_45 rfl (lv_at hl 0 rfl) ?_
            refine r_get (C := RX3) (T := TX3) (N := 14) S hK w (k := 0) (by decide) (eC_0 ad _) rfl hinX3 1 (by decide) (List.mem_of_getElem? (i := 1) rfl) rfl dX3_near_46 ?_
            refine lv_iload_n hx hb dX3_near_49 rfl (lv_at hl 2 rfl) ?_
            have g50 : vp_in p2 8 := vpi (by omega) (by omega)
            refine r_aald S hK w (k := 2) (by decide) (eC_2 ad _) (t0 := 2) rfl g50 dX3_near_50 ?_
            refine lv_iload_n hx hb dX3_near_51 rfl (lv_at hl 3 rfl) ?_
            refine lv_iload hx hb dX3_near_52 (lv_at hl 4 rfl) ?_
            refine call0i (va_runS (As := [.ref (ad (17 + (ix p1))), .ref (ad (17 + (ix p2))), .int p3, .int p4]) (rest := []) S (c_X3_strengthNear l ad D s.heap.size σ (ix p1) (ix p2) p3 p4 (vpl g44) (vpl g50) (by omega)) (va_cwS 4 S.2.2.2.2 gX3_near_X3_strengthNear rfl rfl rfl hd_X3_strengthNear ⟨Nat.le_of_ble_eq_true rfl, Nat.le_of_ble_eq_true rfl⟩) (preS hK hN w) rfl rfl hl.1 rfl (lv_room (Nat.le_of_ble_eq_true rfl)) dX3_near_54 ⟨Nat.zero_le _, Nat.zero_le _⟩) ?_
            exact end0i S hr hlocks hG dX3_near_57
          · have t33 : 10 < p3.toInt := qt_nle c33
            rw [if_neg c33] at hG
            refine lv_bipush (v := (-2)) hx hb dX3_near_36 (by decide) ?_
            exact end0i S hr hlocks hG dX3_near_38
      · rw [if_pos c21] at hG
        refine lv_iconst (v := (-1)) hx hb dX3_near_24 (by decide) ?_
        exact end0i S hr hlocks hG dX3_near_25
set_option maxHeartbeats 4000000 in
set_option maxRecDepth 100000 in
theorem c_X3_steals (l : Launch) (ad : Nat → Nat) (D : va_G) (sz : Nat) (σ : St) (p1 : Int32) (p2 : Int32) (hok : OkC σ) : Met l yX3_steals wsX3_steals ({ frames := 3, cells := 0, slots := 0, locals := 66 }) (PreW 41 (eC ad) ad D (tyC ad) σ sz ([.ref (ad 0), .int p1, .int p2] : List Value)) (QWi 41 (eC ad) ad D (f_X3_steals σ p1 p2) (CA 41 ad sz)) 0 0 (CA 41 ad sz) := by
  generalize hG : f_X3_steals σ p1 p2 = T
  refine headW (cc := cX3_steals) (maxL := 5) (ret := (some .int)) ([.ref (ad 0), .int p1, .int p2] : List Value) (by decide) rfl (Nat.le_of_ble_eq_true rfl) ?_
  intro p e s m below meth c S hr hlocks hK hN hsz w ls hl
  have S : CallFix p m c cX3_steals 5 s ([.ref (ad 0), .int p1, .int p2] : List Value).toArray wsX3_steals RX3 := S
  have hx := S.1
  have hb := S.2.1
  have z0 : (0 : Int32).toInt = 0 := by decide
  have z1 : (1 : Int32).toInt = 1 := by decide
  have hl : lv_has ls 5 [(0, .ref (ad 0)), (1, .int p1), (2, .int p2)] := hl
  have hinX3 : ∀ w ∈ wsX30, w ∈ wsX3_steals := (fun _ h => List.mem_cons_of_mem _ (List.mem_append_left _ (List.mem_append_right _ h)))
  have hinX2 : ∀ w ∈ wsX20, w ∈ wsX3_steals := (fun _ h => List.mem_cons_of_mem _ (List.mem_append_right _ h))
  have okf0 := hok.1
  have okf1 := hok.2.1
  have okf2 := hok.2.2.1
  have okf3 := hok.2.2.2.1
  have okf4 := hok.2.2.2.2.1
  have okf5 := hok.2.2.2.2.2
  rw [f_X3_steals] at hG
  refine lv_aload_n hx hb dX3_steals_0 rfl (lv_at hl 0 rfl) ?_
  refine lv_iload_n hx hb dX3_steals_1 rfl (lv_at hl 1 rfl) ?_
  refine lv_iload_n hx hb dX3_steals_2 rfl (lv_at hl 2 rfl) ?_
  refine call0i (va_runV (As := [.int p1, .int p2]) (rest := []) S (c_X3_areTwoSigns l ad D s.heap.size σ p1 p2) (cwV 2 S.2.2.2.2 gX3_steals_X3_areTwoSigns rfl rfl rfl ⟨rfl, hd_X3_areTwoSigns⟩ ⟨Nat.le_of_ble_eq_true rfl, Nat.le_of_ble_eq_true rfl⟩) (preV hK hN w (k := 0) (by decide) (eC_0 ad _) (q := (RX3, TX3, 14)) rfl) rfl rfl hl.1 rfl (lv_room (Nat.le_of_ble_eq_true rfl)) dX3_steals_3 ⟨Nat.zero_le _, Nat.zero_le _⟩) ?_
  refine lv_if_ne (tgt := 11) hx hb dX3_steals_6 (by decide) (fun c6 => ?_) (fun c6 => ?_)
  · have t6 := bf_areTwoSigns_n c6
    rw [if_neg c6] at hG
    refine lv_iconst (v := 0) hx hb dX3_steals_11 (by decide) ?_
    refine lv_istore_n (lv' := [(3, .int 0), (0, .ref (ad 0)), (1, .int p1), (2, .int p2)]) hx hb dX3_steals_12 rfl hl (by decide) rfl (fun ls hl => ?_)
    have L13 : ∀ (n : Nat) (res13 : (Int32 × St) ⊕ (St)), ∀ (v3_13 : Int32), ∀ (S_13 : St), ((OkC S_13) ∧ (0 ≤ v3_13.toInt ∧ v3_13.toInt ≤ 11)) → (11 - v3_13.toInt).toNat < n → (lp_X3_steals_13 p1 p2 n v3_13 S_13) = res13 → (∀ r : Int32 × St, res13 = Sum.inl r → r = T) → (∀ (S_13e : St), (OkC S_13e) → res13 = Sum.inr S_13e → ∀ (H : Heap) (locs : List Loc), CW 41 (eC ad) ad D (CA 41 ad sz) s.heap S_13e H locs → ∀ ls : Array Slot, lv_has ls 5 [(0, .ref (ad 0))] → W p l e (headSpec wsX3_steals ({ frames := 3, cells := 0, slots := 0, locals := 66 })).room s m ([.ref (ad 0), .int p1, .int p2] : List Value).toArray below meth c H locs 0 0 (MQ below (QWi 41 (eC ad) ad D T (CA 41 ad sz)) ([.ref (ad 0), .int p1, .int p2] : List Value).toArray s 0 0 (CA 41 ad sz)) (F0 m 88 ls [])) → ∀ (H : Heap) (locs : List Loc), CW 41 (eC ad) ad D (CA 41 ad sz) s.heap S_13 H locs → ∀ ls : Array Slot, lv_has ls 5 [(0, .ref (ad 0)), (1, .int p1), (2, .int p2), (3, .int v3_13)] → W p l e (headSpec wsX3_steals ({ frames := 3, cells := 0, slots := 0, locals := 66 })).room s m ([.ref (ad 0), .int p1, .int p2] : List Value).toArray below meth c H locs 0 0 (MQ below (QWi 41 (eC ad) ad D T (CA 41 ad sz)) ([.ref (ad 0), .int p1, .int p2] : List Value).toArray s 0 0 (CA 41 ad sz)) (F0 m 13 ls []) := by
      intro n
      induction n with
      | zero => intro _ _ _ _ hm; exact absurd hm (Nat.not_lt_zero _)
      | succ n ih13 =>
        intro res13 v3_13 S_13 hI13 hm13 hG hret13 hex13 H locs w ls hl
        obtain ⟨hok, i13_1⟩ := id hI13
        have okf0 := hok.1
        have okf1 := hok.2.1
        have okf2 := hok.2.2.1
        have okf3 := hok.2.2.2.1
        have okf4 := hok.2.2.2.2.1
        have okf5 := hok.2.2.2.2.2
        rw [lp_X3_steals_13] at hG
        refine lv_iload_n hx hb dX3_steals_13 rfl (lv_at hl 3 rfl) ?_
        refine lv_bipush (v := 10) hx hb dX3_steals_14 (by decide) ?_
        refine lv_icmp_gt (tgt := 88) hx hb dX3_steals_16 (by decide) (fun c16 => ?_) (fun c16 => ?_)
        · have t16 : 10 < v3_13.toInt := qt_lt c16
          rw [if_pos c16] at hG
          exact hex13 S_13 hok hG.symm _ _ w ls (lv_sub hl [0] rfl)
        · have t16 : v3_13.toInt ≤ 10 := qt_nlt c16
          rw [if_neg c16] at hG
          refine lv_iconst (v := 0) hx hb dX3_steals_19 (by decide) ?_
          refine lv_istore (lv' := [(4, .int 0), (0, .ref (ad 0)), (1, .int p1), (2, .int p2), (3, .int v3_13)]) hx hb dX3_steals_20 hl (by decide) rfl (fun ls hl => ?_)
          have L22 : ∀ (n : Nat) (res22 : St), ∀ (v4_22 : Int32), ∀ (S_22 : St), ((OkC S_22) ∧ (0 ≤ v4_22.toInt ∧ v4_22.toInt ≤ 9)) → (9 - v4_22.toInt).toNat < n → (lp_X3_steals_22 p1 p2 v3_13 n v4_22 S_22) = res22 → (∀ (S_22e : St), (OkC S_22e) → res22 = S_22e → ∀ (H : Heap) (locs : List Loc), CW 41 (eC ad) ad D (CA 41 ad sz) s.heap S_22e H locs → ∀ ls : Array Slot, lv_has ls 5 [(0, .ref (ad 0)), (1, .int p1), (2, .int p2), (3, .int v3_13)] → W p l e (headSpec wsX3_steals ({ frames := 3, cells := 0, slots := 0, locals := 66 })).room s m ([.ref (ad 0), .int p1, .int p2] : List Value).toArray below meth c H locs 0 0 (MQ below (QWi 41 (eC ad) ad D T (CA 41 ad sz)) ([.ref (ad 0), .int p1, .int p2] : List Value).toArray s 0 0 (CA 41 ad sz)) (F0 m 60 ls [])) → ∀ (H : Heap) (locs : List Loc), CW 41 (eC ad) ad D (CA 41 ad sz) s.heap S_22 H locs → ∀ ls : Array Slot, lv_has ls 5 [(0, .ref (ad 0)), (1, .int p1), (2, .int p2), (3, .int v3_13), (4, .int v4_22)] → W p l e (headSpec wsX3_steals ({ frames := 3, cells := 0, slots := 0, locals := 66 })).room s m ([.ref (ad 0), .int p1, .int p2] : List Value).toArray below meth c H locs 0 0 (MQ below (QWi 41 (eC ad) ad D T (CA 41 ad sz)) ([.ref (ad 0), .int p1, .int p2] : List Value).toArray s 0 0 (CA 41 ad sz)) (F0 m 22 ls []) := by
            intro n
            induction n with
            | zero => intro _ _ _ _ hm; exact absurd hm (Nat.not_lt_zero _)
            | succ n ih22 =>
              intro res22 v4_22 S_22 hI22 hm22 hG hex22 H locs w ls hl
              obtain ⟨hok, i22_1⟩ := id hI22
              have okf0 := hok.1
              have okf1 := hok.2.1
              have okf2 := hok.2.2.1
              have okf3 := hok.2.2.2.1
              have okf4 := hok.2.2.2.2.1
              have okf5 := hok.2.2.2.2.2
              rw [lp_X3_steals_22] at hG
              refine lv_iload hx hb dX3_steals_22 (lv_at hl 4 rfl) ?_
              refine lv_bipush (v := 9) hx hb dX3_steals_24 (by decide) ?_
              refine lv_icmp_ge (tgt := 60) hx hb dX3_steals_26 (by decide) (fun c26 => ?_) (fun c26 => ?_)
              · have t26 : 9 ≤ v4_22.toInt := qt_le c26
                rw [if_pos c26] at hG
                exact hex22 S_22 hok hG.symm _ _ w ls (lv_sub hl [0, 1, 2, 3] rfl)
              · have t26 : v4_22.toInt < 9 := qt_nle c26
                rw [if_neg c26] at hG
                refine lv_aload_n hx hb dX3_steals_29 rfl (lv_at hl 0 rfl) ?_
                refine r_get (C := RX3) (T := TX3) (N := 14) S hK w (k := 0) (by decide) (eC_0 ad _) rfl hinX3 11 (by decide) (List.mem_of_getElem? (i := 1) rfl) rfl dX3_steals_30 ?_
                refine lv_iload hx hb dX3_steals_33 (lv_at hl 4 rfl) ?_
                refine lv_aload_n hx hb dX3_steals_35 rfl (lv_at hl 0 rfl) ?_
                refine r_get (C := RX3) (T := TX3) (N := 14) S hK w (k := 0) (by decide) (eC_0 ad _) rfl hinX3 1 (by decide) (List.mem_of_getElem? (i := 2) rfl) rfl dX3_steals_36 ?_
                refine lv_iload_n hx hb dX3_steals_39 rfl (lv_at hl 1 rfl) ?_
                have g40 : vp_in p1 8 := vpi (by omega) (by omega)
                refine r_aald S hK w (k := 2) (by decide) (eC_2 ad _) (t0 := 2) rfl g40 dX3_steals_40 ?_
                refine lv_aload_n hx hb dX3_steals_41 rfl (lv_at hl 0 rfl) ?_
                refine r_get (C := RX3) (T := TX3) (N := 14) S hK w (k := 0) (by decide) (eC_0 ad _) rfl hinX3 1 (by decide) (List.mem_of_getElem? (i := 2) rfl) rfl dX3_steals_42 ?_
                refine lv_iload_n hx hb dX3_steals_45 rfl (lv_at hl 2 rfl) ?_
                have g46 : vp_in p2 8 := vpi (by omega) (by omega)
                refine r_aald S hK w (k := 2) (by decide) (eC_2 ad _) (t0 := 2) rfl g46 dX3_steals_46 ?_
                refine lv_iload_n hx hb dX3_steals_47 rfl (lv_at hl 3 rfl) ?_
                refine lv_iload hx hb dX3_steals_48 (lv_at hl 4 rfl) ?_
                refine call0i (va_runS (As := [.ref (ad (17 + (ix p1))), .ref (ad (17 + (ix p2))), .int v3_13, .int v4_22]) (rest := [.int v4_22, .ref (ad 6)]) S (c_X3_strengthNear l ad D H.size S_22 (ix p1) (ix p2) v3_13 v4_22 (vpl g40) (vpl g46) (by omega)) (va_cwS 4 S.2.2.2.2 gX3_steals_X3_strengthNear rfl rfl rfl hd_X3_strengthNear ⟨Nat.le_of_ble_eq_true rfl, Nat.le_of_ble_eq_true rfl⟩) (preS hK hN w) rfl rfl hl.1 rfl (lv_room (Nat.le_of_ble_eq_true rfl)) dX3_steals_50 ⟨Nat.zero_le _, Nat.zero_le _⟩) ?_
                have g53 : vp_in v4_22 9 := vpi (by omega) (by omega)
                refine r_iast (cA := ad 100) (N := 9) S hK w (k := 6) (by decide) (fun f => eC_6 ad f) rfl g53 dX3_steals_53 (fun H locs w => ?_)
                have hok : OkC (u2 S_22 6 (ix v4_22) (f_X3_strengthNear S_22 (ix p1) (ix p2) v3_13 v4_22)) := okC_scr (show scrC 6 by unfold scrC; omega) hok
                have okf0 := hok.1
                have okf1 := hok.2.1
                have okf2 := hok.2.2.1
                have okf3 := hok.2.2.2.1
                have okf4 := hok.2.2.2.2.1
                have okf5 := hok.2.2.2.2.2
                refine lv_iinc (v := (v4_22 + 1)) (lv' := [(4, .int (v4_22 + 1)), (0, .ref (ad 0)), (1, .int p1), (2, .int p2), (3, .int v3_13)]) hx hb dX3_steals_54 hl (k := 4) rfl rfl (by decide) rfl (fun ls hl => ?_)
                refine lv_goto (tgt := 22) hx hb dX3_steals_57 (by decide) ?_
                have b4_22 : (v4_22 + 1).toInt = v4_22.toInt + 1 := inc_toInt (by omega) (by omega)
                exact ih22 _ (v4_22 + 1) (u2 S_22 6 (ix v4_22) (f_X3_strengthNear S_22 (ix p1) (ix p2) v3_13 v4_22)) ⟨hok, (by omega)⟩ (by omega) hG hex22 _ _ w ls (lv_sub hl [1, 2, 3, 4, 0] rfl)
          refine L22 200 _ 0 S_13 ⟨hok, (by omega)⟩ (by omega) rfl (fun S_22e hok hr22 H locs w ls hl => ?_) _ _ w ls (lv_sub hl [1, 2, 3, 4, 0] rfl)
          rw [hr22] at hG
          have okf0 := hok.1
          have okf1 := hok.2.1
          have okf2 := hok.2.2.1
          have okf3 := hok.2.2.2.1
          have okf4 := hok.2.2.2.2.1
          have okf5 := hok.2.2.2.2.2
          refine lv_aload_n hx hb dX3_steals_60 rfl (lv_at hl 0 rfl) ?_
          refine lv_aload_n hx hb dX3_steals_61 rfl (lv_at hl 0 rfl) ?_
          refine r_get (C := RX3) (T := TX3) (N := 14) S hK w (k := 0) (by decide) (eC_0 ad _) rfl hinX3 11 (by decide) (List.mem_of_getElem? (i := 1) rfl) rfl dX3_steals_62 ?_
          refine lv_aload_n hx hb dX3_steals_65 rfl (lv_at hl 0 rfl) ?_
          refine r_get (C := RX3) (T := TX3) (N := 14) S hK w (k := 0) (by decide) (eC_0 ad _) rfl hinX3 1 (by decide) (List.mem_of_getElem? (i := 2) rfl) rfl dX3_steals_66 ?_
          refine lv_iload_n hx hb dX3_steals_69 rfl (lv_at hl 2 rfl) ?_
          have g70 : vp_in p2 8 := vpi (by omega) (by omega)
          refine r_aald S hK w (k := 2) (by decide) (eC_2 ad _) (t0 := 2) rfl g70 dX3_steals_70 ?_
          refine r_getN (C := RX2) (T := TX2) (N := 3) S hK hN w (k := (17 + (ix p2))) (Nat.lt_of_lt_of_le (Nat.add_lt_add_left (vpl g70) 17) (by decide)) (eC_sg ad (vpl g70) _) rfl hinX2 2 (by decide) 5 rfl rfl dX3_steals_71 ?_
          refine call0i (va_runV (As := [.ref (ad 6), .ref (ad (25 + (ix p2)))]) (rest := []) S (c_X3_areAlike l ad D H.size S_22e 6 (25 + (ix p2)) (Or.inl rfl) (Or.inr ⟨_, (vpl g70), rfl⟩)) (cwV 2 S.2.2.2.2 gX3_steals_X3_areAlike rfl rfl rfl ⟨rfl, hd_X3_areAlike⟩ ⟨Nat.le_of_ble_eq_true rfl, Nat.le_of_ble_eq_true rfl⟩) (preV hK hN w (k := 0) (by decide) (eC_0 ad _) (q := (RX3, TX3, 14)) rfl) rfl rfl hl.1 rfl (lv_room (Nat.le_of_ble_eq_true rfl)) dX3_steals_74 ⟨Nat.zero_le _, Nat.zero_le _⟩) ?_
          refine lv_if_eq (tgt := 82) hx hb dX3_steals_77 (by decide) (fun c77 => ?_) (fun c77 => ?_)
          · rw [if_pos c77] at hG
            refine lv_iinc (v := (v3_13 + 1)) (lv' := [(3, .int (v3_13 + 1)), (0, .ref (ad 0)), (1, .int p1), (2, .int p2)]) hx hb dX3_steals_82 hl (k := 3) rfl rfl (by decide) rfl (fun ls hl => ?_)
            refine lv_goto (tgt := 13) hx hb dX3_steals_85 (by decide) ?_
            have b3_13 : (v3_13 + 1).toInt = v3_13.toInt + 1 := inc_toInt (by omega) (by omega)
            exact ih13 _ (v3_13 + 1) S_22e ⟨hok, (by omega)⟩ (by omega) hG hret13 hex13 _ _ w ls (lv_sub hl [1, 2, 3, 0] rfl)
          · rw [if_neg c77] at hG
            refine lv_iload_n hx hb dX3_steals_80 rfl (lv_at hl 3 rfl) ?_
            exact endWi S hr hlocks w (hret13 _ hG.symm) dX3_steals_81
    refine L13 200 _ 0 σ ⟨hok, (by omega)⟩ (by omega) rfl (fun r hr13 => by rw [hr13] at hG; exact hG) (fun S_13e hok hr13 H locs w ls hl => ?_) _ _ w ls (lv_sub hl [1, 2, 3, 0] rfl)
    rw [hr13] at hG
    dsimp only at hG
    have okf0 := hok.1
    have okf1 := hok.2.1
    have okf2 := hok.2.2.1
    have okf3 := hok.2.2.2.1
    have okf4 := hok.2.2.2.2.1
    have okf5 := hok.2.2.2.2.2
    refine lv_bipush (v := (-9)) hx hb dX3_steals_88 (by decide) ?_
    exact endWi S hr hlocks w hG dX3_steals_90
  · rw [if_pos c6] at hG
    refine lv_iconst (v := (-1)) hx hb dX3_steals_9 (by decide) ?_
    exact endWi S hr hlocks w hG dX3_steals_10
set_option maxHeartbeats 4000000 in
set_option maxRecDepth 100000 in
theorem c_X3_leastApart (l : Launch) (ad : Nat → Nat) (D : va_G) (sz : Nat) (σ : St) (p1 : Int32) (p2 : Int32) (p3 : Int32) (p4 : Int32) (hok : OkC σ) (hx1 : 0 ≤ p1.toInt ∧ p1.toInt < 9) (hx2 : 0 ≤ p2.toInt ∧ p2.toInt < 9) : Met l yX3_leastApart wsX3_leastApart ({ frames := 1, cells := 0, slots := 0, locals := 21 }) (PreW 41 (eC ad) ad D (tyC ad) σ sz ([.ref (ad 0), .int p1, .int p2, .int p3, .int p4] : List Value)) (Q0i (f_X3_leastApart σ p1 p2 p3 p4)) 0 0 N0 := by
  generalize hG : f_X3_leastApart σ p1 p2 p3 p4 = T
  refine headW (cc := cX3_leastApart) (maxL := 9) (ret := (some .int)) ([.ref (ad 0), .int p1, .int p2, .int p3, .int p4] : List Value) (by decide) rfl (Nat.le_of_ble_eq_true rfl) ?_
  intro p e s m below meth c S hr hlocks hK hN hsz w ls hl
  have S : CallFix p m c cX3_leastApart 9 s ([.ref (ad 0), .int p1, .int p2, .int p3, .int p4] : List Value).toArray wsX3_leastApart RX3 := S
  have hx := S.1
  have hb := S.2.1
  have z0 : (0 : Int32).toInt = 0 := by decide
  have z1 : (1 : Int32).toInt = 1 := by decide
  have hl : lv_has ls 9 [(0, .ref (ad 0)), (1, .int p1), (2, .int p2), (3, .int p3), (4, .int p4)] := hl
  have hinX3 : ∀ w ∈ wsX30, w ∈ wsX3_leastApart := (fun _ h => List.mem_cons_of_mem _ (List.mem_append_left _ (List.mem_append_right _ h)))
  have hinX2 : ∀ w ∈ wsX20, w ∈ wsX3_leastApart := (fun _ h => List.mem_cons_of_mem _ (List.mem_append_right _ h))
  have okf0 := hok.1
  have okf1 := hok.2.1
  have okf2 := hok.2.2.1
  have okf3 := hok.2.2.2.1
  have okf4 := hok.2.2.2.2.1
  have okf5 := hok.2.2.2.2.2
  rw [f_X3_leastApart] at hG
  refine lv_ldc hx hb S.2.2.2.1 (S.2.2.2.2 _ (List.mem_of_getElem? (i := 1) rfl)) dX3_leastApart_0 ?_
  refine lv_istore (lv' := [(5, .int 2147483647), (0, .ref (ad 0)), (1, .int p1), (2, .int p2), (3, .int p3), (4, .int p4)]) hx hb dX3_leastApart_2 hl (by decide) rfl (fun ls hl => ?_)
  refine lv_iconst (v := 0) hx hb dX3_leastApart_4 (by decide) ?_
  refine lv_istore (lv' := [(6, .int 0), (5, .int 2147483647), (0, .ref (ad 0)), (1, .int p1), (2, .int p2), (3, .int p3), (4, .int p4)]) hx hb dX3_leastApart_5 hl (by decide) rfl (fun ls hl => ?_)
  have L7 : ∀ (n : Nat) (res7 : Int32), ∀ (v5_7 : Int32), ∀ (v6_7 : Int32), ((0 ≤ v6_7.toInt ∧ v6_7.toInt ≤ 8)) → (8 - v6_7.toInt).toNat < n → (lp_X3_leastApart_7 σ p1 p2 p3 p4 n v5_7 v6_7) = res7 → (∀ (v5_7e : Int32), res7 = v5_7e → ∀ ls : Array Slot, lv_has ls 9 [(0, .ref (ad 0)), (5, .int v5_7e)] → W p l e (headSpec wsX3_leastApart ({ frames := 1, cells := 0, slots := 0, locals := 21 })).room s m ([.ref (ad 0), .int p1, .int p2, .int p3, .int p4] : List Value).toArray below meth c s.heap [] 0 0 (MQ below (Q0i T) ([.ref (ad 0), .int p1, .int p2, .int p3, .int p4] : List Value).toArray s 0 0 N0) (F0 m 86 ls [])) → ∀ ls : Array Slot, lv_has ls 9 [(0, .ref (ad 0)), (1, .int p1), (2, .int p2), (3, .int p3), (4, .int p4), (5, .int v5_7), (6, .int v6_7)] → W p l e (headSpec wsX3_leastApart ({ frames := 1, cells := 0, slots := 0, locals := 21 })).room s m ([.ref (ad 0), .int p1, .int p2, .int p3, .int p4] : List Value).toArray below meth c s.heap [] 0 0 (MQ below (Q0i T) ([.ref (ad 0), .int p1, .int p2, .int p3, .int p4] : List Value).toArray s 0 0 N0) (F0 m 7 ls []) := by
    intro n
    induction n with
    | zero => intro _ _ _ _ hm; exact absurd hm (Nat.not_lt_zero _)
    | succ n ih7 =>
      intro res7 v5_7 v6_7 hI7 hm7 hG hex7 ls hl
      have i7_0 := hI7
      rw [lp_X3_leastApart_7] at hG
      refine lv_iload hx hb dX3_leastApart_7 (lv_at hl 6 rfl) ?_
      refine lv_aload_n hx hb dX3_leastApart_9 rfl (lv_at hl 0 rfl) ?_
      refine r_get (C := RX3) (T := TX3) (N := 14) S hK w (k := 0) (by decide) (eC_0 ad _) rfl hinX3 4 (by decide) (List.mem_of_getElem? (i := 2) rfl) rfl dX3_leastApart_10 ?_
      refine lv_icmp_ge (tgt := 86) hx hb dX3_leastApart_13 (by decide) (fun c13 => ?_) (fun c13 => ?_)
      · have t13 : (σ 0 4).toInt ≤ v6_7.toInt := qt_le c13
        rw [if_pos c13] at hG
        exact hex7 v5_7 hG.symm ls (lv_sub hl [0, 5] rfl)
      · have t13 : v6_7.toInt < (σ 0 4).toInt := qt_nle c13
        rw [if_neg c13] at hG
        refine lv_aload_n hx hb dX3_leastApart_16 rfl (lv_at hl 0 rfl) ?_
        refine r_get (C := RX3) (T := TX3) (N := 14) S hK w (k := 0) (by decide) (eC_0 ad _) rfl hinX3 1 (by decide) (List.mem_of_getElem? (i := 3) rfl) rfl dX3_leastApart_17 ?_
        refine lv_iload hx hb dX3_leastApart_20 (lv_at hl 6 rfl) ?_
        have g22 : vp_in v6_7 8 := vpi (by omega) (by omega)
        refine r_aald S hK w (k := 2) (by decide) (eC_2 ad _) (t0 := 2) rfl g22 dX3_leastApart_22 ?_
        refine r_getN (C := RX2) (T := TX2) (N := 3) S hK hN w (k := (17 + (ix v6_7))) (Nat.lt_of_lt_of_le (Nat.add_lt_add_left (vpl g22) 17) (by decide)) (eC_sg ad (vpl g22) _) rfl hinX2 2 (by decide) 5 rfl rfl dX3_leastApart_23 ?_
        refine lv_astore (lv' := [(7, .ref (ad (25 + (ix v6_7)))), (0, .ref (ad 0)), (1, .int p1), (2, .int p2), (3, .int p3), (4, .int p4), (5, .int v5_7), (6, .int v6_7)]) hx hb dX3_leastApart_26 hl (by decide) rfl (fun ls hl => ?_)
        refine lv_aload_n hx hb dX3_leastApart_28 rfl (lv_at hl 1 rfl) ?_
        refine r_get (C := RX3) (T := TX3) (N := 14) S hK w (k := 0) (by decide) (eC_0 ad _) rfl hinX3 1 (by decide) (List.mem_of_getElem? (i := 3) rfl) rfl dX3_leastApart_29 ?_
        refine lv_iload hx hb dX3_leastApart_32 (lv_at hl 7 rfl) ?_
        have g34 : vp_in v6_7 8 := vpi (by omega) (by omega)
        refine r_aald S hK w (k := 2) (by decide) (eC_2 ad _) (t0 := 2) rfl g34 dX3_leastApart_34 ?_
        refine r_getN (C := RX2) (T := TX2) (N := 3) S hK hN w (k := (17 + (ix v6_7))) (Nat.lt_of_lt_of_le (Nat.add_lt_add_left (vpl g34) 17) (by decide)) (eC_sg ad (vpl g34) _) rfl hinX2 1 (by decide) 4 rfl rfl dX3_leastApart_35 ?_
        refine lv_aload hx hb dX3_leastApart_38 (lv_at hl 0 rfl) ?_
        refine lv_iload_n hx hb dX3_leastApart_40 rfl (lv_at hl 2 rfl) ?_
        have g41 : vp_in p1 9 := vpi (by omega) (by omega)
        refine r_iald (cA := ad 100) (N := 9) S hK w (k := (25 + (ix v6_7))) (Nat.lt_of_lt_of_le (Nat.add_lt_add_left (vpl g22) 25) (by decide)) (fun f => eC_st ad (vpl g22) f) rfl g41 dX3_leastApart_41 ?_
        refine lv_isub hx hb dX3_leastApart_42 ?_
        refine lv_aload hx hb dX3_leastApart_43 (lv_at hl 0 rfl) ?_
        refine lv_iload_n hx hb dX3_leastApart_45 rfl (lv_at hl 3 rfl) ?_
        have g46 : vp_in p2 9 := vpi (by omega) (by omega)
        refine r_iald (cA := ad 100) (N := 9) S hK w (k := (25 + (ix v6_7))) (Nat.lt_of_lt_of_le (Nat.add_lt_add_left (vpl g22) 25) (by decide)) (fun f => eC_st ad (vpl g22) f) rfl g46 dX3_leastApart_46 ?_
        refine lv_isub hx hb dX3_leastApart_47 ?_
        refine lv_istore (lv' := [(8, .int (((σ (17 + (ix v6_7)) 1) - (σ (25 + (ix v6_7)) (ix p1))) - (σ (25 + (ix v6_7)) (ix p2)))), (7, .ref (ad (25 + (ix v6_7)))), (0, .ref (ad 0)), (1, .int p1), (2, .int p2), (3, .int p3), (4, .int p4), (5, .int v5_7), (6, .int v6_7)]) hx hb dX3_leastApart_48 hl (by decide) rfl (fun ls hl => ?_)
        refine lv_iload hx hb dX3_leastApart_50 (lv_at hl 7 rfl) ?_
        refine lv_iload hx hb dX3_leastApart_52 (lv_at hl 0 rfl) ?_
        refine lv_iload_n hx hb dX3_leastApart_54 rfl (lv_at hl 5 rfl) ?_
        refine lv_aload hx hb dX3_leastApart_55 (lv_at hl 1 rfl) ?_
        refine lv_iload_n hx hb dX3_leastApart_57 rfl (lv_at hl 3 rfl) ?_
        have g58 : vp_in p1 9 := vpi (by omega) (by omega)
        refine r_iald (cA := ad 100) (N := 9) S hK w (k := (25 + (ix v6_7))) (Nat.lt_of_lt_of_le (Nat.add_lt_add_left (vpl g22) 25) (by decide)) (fun f => eC_st ad (vpl g22) f) rfl g58 dX3_leastApart_58 ?_
        refine lv_isub hx hb dX3_leastApart_59 ?_
        refine r_abs S hl.1 (List.mem_of_getElem? (i := 4) rfl) (List.mem_of_getElem? (i := 5) rfl) (List.mem_of_getElem? (i := 6) rfl) (List.mem_of_getElem? (i := 7) rfl) ⟨Nat.le_of_ble_eq_true rfl, Nat.le_of_ble_eq_true rfl, Nat.zero_le _, Nat.zero_le _⟩ dX3_leastApart_60 ?_
        refine lv_iadd hx hb dX3_leastApart_63 ?_
        refine lv_iload hx hb dX3_leastApart_64 (lv_at hl 6 rfl) ?_
        refine lv_aload hx hb dX3_leastApart_66 (lv_at hl 1 rfl) ?_
        refine lv_iload_n hx hb dX3_leastApart_68 rfl (lv_at hl 4 rfl) ?_
        have g69 : vp_in p2 9 := vpi (by omega) (by omega)
        refine r_iald (cA := ad 100) (N := 9) S hK w (k := (25 + (ix v6_7))) (Nat.lt_of_lt_of_le (Nat.add_lt_add_left (vpl g22) 25) (by decide)) (fun f => eC_st ad (vpl g22) f) rfl g69 dX3_leastApart_69 ?_
        refine lv_isub hx hb dX3_leastApart_70 ?_
        refine r_abs S hl.1 (List.mem_of_getElem? (i := 4) rfl) (List.mem_of_getElem? (i := 5) rfl) (List.mem_of_getElem? (i := 6) rfl) (List.mem_of_getElem? (i := 7) rfl) ⟨Nat.le_of_ble_eq_true rfl, Nat.le_of_ble_eq_true rfl, Nat.zero_le _, Nat.zero_le _⟩ dX3_leastApart_71 ?_
        refine lv_iadd hx hb dX3_leastApart_74 ?_
        refine r_min S hl.1 (List.mem_of_getElem? (i := 8) rfl) (List.mem_of_getElem? (i := 9) rfl) (List.mem_of_getElem? (i := 6) rfl) (List.mem_of_getElem? (i := 10) rfl) ⟨Nat.le_of_ble_eq_true rfl, Nat.le_of_ble_eq_true rfl, Nat.zero_le _, Nat.zero_le _⟩ dX3_leastApart_75 ?_
        refine lv_istore (lv' := [(5, .int (jmin v5_7 (((((σ (17 + (ix v6_7)) 1) - (σ (25 + (ix v6_7)) (ix p1))) - (σ (25 + (ix v6_7)) (ix p2))) + (jabs (p3 - (σ (25 + (ix v6_7)) (ix p1))))) + (jabs (p4 - (σ (25 + (ix v6_7)) (ix p2))))))), (8, .int (((σ (17 + (ix v6_7)) 1) - (σ (25 + (ix v6_7)) (ix p1))) - (σ (25 + (ix v6_7)) (ix p2)))), (7, .ref (ad (25 + (ix v6_7)))), (0, .ref (ad 0)), (1, .int p1), (2, .int p2), (3, .int p3), (4, .int p4), (6, .int v6_7)]) hx hb dX3_leastApart_78 hl (by decide) rfl (fun ls hl => ?_)
        refine lv_iinc (v := (v6_7 + 1)) (lv' := [(6, .int (v6_7 + 1)), (5, .int (jmin v5_7 (((((σ (17 + (ix v6_7)) 1) - (σ (25 + (ix v6_7)) (ix p1))) - (σ (25 + (ix v6_7)) (ix p2))) + (jabs (p3 - (σ (25 + (ix v6_7)) (ix p1))))) + (jabs (p4 - (σ (25 + (ix v6_7)) (ix p2))))))), (8, .int (((σ (17 + (ix v6_7)) 1) - (σ (25 + (ix v6_7)) (ix p1))) - (σ (25 + (ix v6_7)) (ix p2)))), (7, .ref (ad (25 + (ix v6_7)))), (0, .ref (ad 0)), (1, .int p1), (2, .int p2), (3, .int p3), (4, .int p4)]) hx hb dX3_leastApart_80 hl (k := 8) rfl rfl (by decide) rfl (fun ls hl => ?_)
        refine lv_goto (tgt := 7) hx hb dX3_leastApart_83 (by decide) ?_
        have b6_7 : (v6_7 + 1).toInt = v6_7.toInt + 1 := inc_toInt (by omega) (by omega)
        exact ih7 _ (jmin v5_7 (((((σ (17 + (ix v6_7)) 1) - (σ (25 + (ix v6_7)) (ix p1))) - (σ (25 + (ix v6_7)) (ix p2))) + (jabs (p3 - (σ (25 + (ix v6_7)) (ix p1))))) + (jabs (p4 - (σ (25 + (ix v6_7)) (ix p2)))))) (v6_7 + 1) (by omega) (by omega) hG hex7 ls (lv_sub hl [4, 5, 6, 7, 8, 1, 0] rfl)
  refine L7 200 _ 2147483647 0 (by omega) (by omega) rfl (fun v5_7e hr7 ls hl => ?_) ls (lv_sub hl [2, 3, 4, 5, 6, 1, 0] rfl)
  rw [hr7] at hG
  refine lv_iload hx hb dX3_leastApart_86 (lv_at hl 1 rfl) ?_
  exact end0i S hr hlocks hG dX3_leastApart_88
set_option maxHeartbeats 4000000 in
set_option maxRecDepth 100000 in
theorem c_X3_tryStrengths (l : Launch) (ad : Nat → Nat) (D : va_G) (sz : Nat) (σ : St) (p1 : Int32) (p2 : Int32) (hok : OkC σ) (hx1 : 0 ≤ p1.toInt ∧ p1.toInt < 9) (hx2 : 0 ≤ p2.toInt ∧ p2.toInt < 9) : Met l yX3_tryStrengths wsX3_tryStrengths ({ frames := 2, cells := 0, slots := 0, locals := 49 }) (PreW 41 (eC ad) ad D (tyC ad) σ sz ([.ref (ad 0), .int p1, .int p2] : List Value)) (QWv 41 (eC ad) ad D (f_X3_tryStrengths σ p1 p2) (CA 41 ad sz)) 0 0 (CA 41 ad sz) := by
  generalize hG : f_X3_tryStrengths σ p1 p2 = T
  refine headW (cc := cX3_tryStrengths) (maxL := 6) (ret := none) ([.ref (ad 0), .int p1, .int p2] : List Value) (by decide) rfl (Nat.le_of_ble_eq_true rfl) ?_
  intro p e s m below meth c S hr hlocks hK hN hsz w ls hl
  have S : CallFix p m c cX3_tryStrengths 6 s ([.ref (ad 0), .int p1, .int p2] : List Value).toArray wsX3_tryStrengths RX3 := S
  have hx := S.1
  have hb := S.2.1
  have z0 : (0 : Int32).toInt = 0 := by decide
  have z1 : (1 : Int32).toInt = 1 := by decide
  have hl : lv_has ls 6 [(0, .ref (ad 0)), (1, .int p1), (2, .int p2)] := hl
  have hinX3 : ∀ w ∈ wsX30, w ∈ wsX3_tryStrengths := (fun _ h => List.mem_cons_of_mem _ (List.mem_append_left _ (List.mem_append_right _ h)))
  have hinX2 : ∀ w ∈ wsX20, w ∈ wsX3_tryStrengths := (fun _ h => List.mem_cons_of_mem _ (List.mem_append_right _ h))
  have okf0 := hok.1
  have okf1 := hok.2.1
  have okf2 := hok.2.2.1
  have okf3 := hok.2.2.2.1
  have okf4 := hok.2.2.2.2.1
  have okf5 := hok.2.2.2.2.2
  rw [f_X3_tryStrengths] at hG
  refine lv_iconst (v := 0) hx hb dX3_tryStrengths_0 (by decide) ?_
  refine lv_istore_n (lv' := [(3, .int 0), (0, .ref (ad 0)), (1, .int p1), (2, .int p2)]) hx hb dX3_tryStrengths_1 rfl hl (by decide) rfl (fun ls hl => ?_)
  have L2 : ∀ (n : Nat) (res2 : St), ∀ (v3_2 : Int32), ∀ (S_2 : St), ((OkC S_2) ∧ (0 ≤ v3_2.toInt ∧ v3_2.toInt ≤ 10)) → (10 - v3_2.toInt).toNat < n → (lp_X3_tryStrengths_2 p1 p2 n v3_2 S_2) = res2 → (∀ (S_2e : St), (OkC S_2e) → res2 = S_2e → ∀ (H : Heap) (locs : List Loc), CW 41 (eC ad) ad D (CA 41 ad sz) s.heap S_2e H locs → ∀ ls : Array Slot, lv_has ls 6 [(0, .ref (ad 0))] → W p l e (headSpec wsX3_tryStrengths ({ frames := 2, cells := 0, slots := 0, locals := 49 })).room s m ([.ref (ad 0), .int p1, .int p2] : List Value).toArray below meth c H locs 0 0 (MQ below (QWv 41 (eC ad) ad D T (CA 41 ad sz)) ([.ref (ad 0), .int p1, .int p2] : List Value).toArray s 0 0 (CA 41 ad sz)) (F0 m 89 ls [])) → ∀ (H : Heap) (locs : List Loc), CW 41 (eC ad) ad D (CA 41 ad sz) s.heap S_2 H locs → ∀ ls : Array Slot, lv_has ls 6 [(0, .ref (ad 0)), (1, .int p1), (2, .int p2), (3, .int v3_2)] → W p l e (headSpec wsX3_tryStrengths ({ frames := 2, cells := 0, slots := 0, locals := 49 })).room s m ([.ref (ad 0), .int p1, .int p2] : List Value).toArray below meth c H locs 0 0 (MQ below (QWv 41 (eC ad) ad D T (CA 41 ad sz)) ([.ref (ad 0), .int p1, .int p2] : List Value).toArray s 0 0 (CA 41 ad sz)) (F0 m 2 ls []) := by
    intro n
    induction n with
    | zero => intro _ _ _ _ hm; exact absurd hm (Nat.not_lt_zero _)
    | succ n ih2 =>
      intro res2 v3_2 S_2 hI2 hm2 hG hex2 H locs w ls hl
      obtain ⟨hok, i2_1⟩ := id hI2
      have okf0 := hok.1
      have okf1 := hok.2.1
      have okf2 := hok.2.2.1
      have okf3 := hok.2.2.2.1
      have okf4 := hok.2.2.2.2.1
      have okf5 := hok.2.2.2.2.2
      rw [lp_X3_tryStrengths_2] at hG
      refine lv_iload_n hx hb dX3_tryStrengths_2 rfl (lv_at hl 3 rfl) ?_
      refine lv_bipush (v := 9) hx hb dX3_tryStrengths_3 (by decide) ?_
      refine lv_icmp_gt (tgt := 89) hx hb dX3_tryStrengths_5 (by decide) (fun c5 => ?_) (fun c5 => ?_)
      · have t5 : 9 < v3_2.toInt := qt_lt c5
        rw [if_pos c5] at hG
        exact hex2 S_2 hok hG.symm _ _ w ls (lv_sub hl [0] rfl)
      · have t5 : v3_2.toInt ≤ 9 := qt_nlt c5
        rw [if_neg c5] at hG
        refine lv_iconst (v := 0) hx hb dX3_tryStrengths_8 (by decide) ?_
        refine lv_istore (lv' := [(4, .int 0), (0, .ref (ad 0)), (1, .int p1), (2, .int p2), (3, .int v3_2)]) hx hb dX3_tryStrengths_9 hl (by decide) rfl (fun ls hl => ?_)
        have L11 : ∀ (n : Nat) (res11 : St), ∀ (v4_11 : Int32), ∀ (S_11 : St), ((OkC S_11) ∧ (0 ≤ v4_11.toInt ∧ v4_11.toInt ≤ 10)) → (10 - v4_11.toInt).toNat < n → (lp_X3_tryStrengths_11 p1 p2 v3_2 n v4_11 S_11) = res11 → (∀ (S_11e : St), (OkC S_11e) → res11 = S_11e → ∀ (H : Heap) (locs : List Loc), CW 41 (eC ad) ad D (CA 41 ad sz) s.heap S_11e H locs → ∀ ls : Array Slot, lv_has ls 6 [(0, .ref (ad 0)), (1, .int p1), (2, .int p2), (3, .int v3_2)] → W p l e (headSpec wsX3_tryStrengths ({ frames := 2, cells := 0, slots := 0, locals := 49 })).room s m ([.ref (ad 0), .int p1, .int p2] : List Value).toArray below meth c H locs 0 0 (MQ below (QWv 41 (eC ad) ad D T (CA 41 ad sz)) ([.ref (ad 0), .int p1, .int p2] : List Value).toArray s 0 0 (CA 41 ad sz)) (F0 m 83 ls [])) → ∀ (H : Heap) (locs : List Loc), CW 41 (eC ad) ad D (CA 41 ad sz) s.heap S_11 H locs → ∀ ls : Array Slot, lv_has ls 6 [(0, .ref (ad 0)), (1, .int p1), (2, .int p2), (3, .int v3_2), (4, .int v4_11)] → W p l e (headSpec wsX3_tryStrengths ({ frames := 2, cells := 0, slots := 0, locals := 49 })).room s m ([.ref (ad 0), .int p1, .int p2] : List Value).toArray below meth c H locs 0 0 (MQ below (QWv 41 (eC ad) ad D T (CA 41 ad sz)) ([.ref (ad 0), .int p1, .int p2] : List Value).toArray s 0 0 (CA 41 ad sz)) (F0 m 11 ls []) := by
          intro n
          induction n with
          | zero => intro _ _ _ _ hm; exact absurd hm (Nat.not_lt_zero _)
          | succ n ih11 =>
            intro res11 v4_11 S_11 hI11 hm11 hG hex11 H locs w ls hl
            obtain ⟨hok, i11_1⟩ := id hI11
            have okf0 := hok.1
            have okf1 := hok.2.1
            have okf2 := hok.2.2.1
            have okf3 := hok.2.2.2.1
            have okf4 := hok.2.2.2.2.1
            have okf5 := hok.2.2.2.2.2
            rw [lp_X3_tryStrengths_11] at hG
            refine lv_iload hx hb dX3_tryStrengths_11 (lv_at hl 4 rfl) ?_
            refine lv_bipush (v := 9) hx hb dX3_tryStrengths_13 (by decide) ?_
            refine lv_icmp_gt (tgt := 83) hx hb dX3_tryStrengths_15 (by decide) (fun c15 => ?_) (fun c15 => ?_)
            · have t15 : 9 < v4_11.toInt := qt_lt c15
              rw [if_pos c15] at hG
              exact hex11 S_11 hok hG.symm _ _ w ls (lv_sub hl [0, 1, 2, 3] rfl)
            · have t15 : v4_11.toInt ≤ 9 := qt_nlt c15
              rw [if_neg c15] at hG
              refine lv_aload_n hx hb dX3_tryStrengths_18 rfl (lv_at hl 0 rfl) ?_
              refine lv_iload_n hx hb dX3_tryStrengths_19 rfl (lv_at hl 1 rfl) ?_
              refine lv_iload_n hx hb dX3_tryStrengths_20 rfl (lv_at hl 2 rfl) ?_
              refine lv_iload_n hx hb dX3_tryStrengths_21 rfl (lv_at hl 3 rfl) ?_
              refine lv_iload hx hb dX3_tryStrengths_22 (lv_at hl 4 rfl) ?_
              refine call0i (va_runV (As := [.int p1, .int p2, .int v3_2, .int v4_11]) (rest := []) S (c_X3_leastApart l ad D H.size S_11 p1 p2 v3_2 v4_11 hok (by omega) (by omega)) (cwV 4 S.2.2.2.2 gX3_tryStrengths_X3_leastApart rfl rfl rfl ⟨rfl, hd_X3_leastApart⟩ ⟨Nat.le_of_ble_eq_true rfl, Nat.le_of_ble_eq_true rfl⟩) (preV hK hN w (k := 0) (by decide) (eC_0 ad _) (q := (RX3, TX3, 14)) rfl) rfl rfl hl.1 rfl (lv_room (Nat.le_of_ble_eq_true rfl)) dX3_tryStrengths_24 ⟨Nat.zero_le _, Nat.zero_le _⟩) ?_
              refine lv_istore (lv' := [(5, .int (f_X3_leastApart S_11 p1 p2 v3_2 v4_11)), (0, .ref (ad 0)), (1, .int p1), (2, .int p2), (3, .int v3_2), (4, .int v4_11)]) hx hb dX3_tryStrengths_27 hl (by decide) rfl (fun ls hl => ?_)
              refine lv_iload hx hb dX3_tryStrengths_29 (lv_at hl 0 rfl) ?_
              refine lv_aload_n hx hb dX3_tryStrengths_31 rfl (lv_at hl 1 rfl) ?_
              refine r_get (C := RX3) (T := TX3) (N := 14) S hK w (k := 0) (by decide) (eC_0 ad _) rfl hinX3 13 (by decide) (List.mem_of_getElem? (i := 1) rfl) rfl dX3_tryStrengths_32 ?_
              refine lv_iconst (v := 0) hx hb dX3_tryStrengths_35 (by decide) ?_
              have g36 : vp_in 0 5 := vpi (by decide) (by decide)
              refine r_iald (cA := ad 100) (N := 5) S hK w (k := 8) (by decide) (fun f => eC_8 ad f) rfl g36 dX3_tryStrengths_36 ?_
              refine lv_icmp_le (tgt := 77) hx hb dX3_tryStrengths_37 (by decide) (fun c37 => ?_) (fun c37 => ?_)
              · have t37 : (f_X3_leastApart S_11 p1 p2 v3_2 v4_11).toInt ≤ (S_11 8 (ix 0)).toInt := qt_le c37
                rw [if_pos c37] at hG
                refine lv_iinc (v := (v4_11 + 1)) (lv' := [(4, .int (v4_11 + 1)), (5, .int (f_X3_leastApart S_11 p1 p2 v3_2 v4_11)), (0, .ref (ad 0)), (1, .int p1), (2, .int p2), (3, .int v3_2)]) hx hb dX3_tryStrengths_77 hl (k := 5) rfl rfl (by decide) rfl (fun ls hl => ?_)
                refine lv_goto (tgt := 11) hx hb dX3_tryStrengths_80 (by decide) ?_
                have b4_11 : (v4_11 + 1).toInt = v4_11.toInt + 1 := inc_toInt (by omega) (by omega)
                exact ih11 _ (v4_11 + 1) S_11 ⟨hok, (by omega)⟩ (by omega) hG hex11 _ _ w ls (lv_sub hl [2, 3, 4, 5, 0] rfl)
              · have t37 : (S_11 8 (ix 0)).toInt < (f_X3_leastApart S_11 p1 p2 v3_2 v4_11).toInt := qt_nle c37
                rw [if_neg c37] at hG
                refine lv_aload_n hx hb dX3_tryStrengths_40 rfl (lv_at hl 1 rfl) ?_
                refine r_get (C := RX3) (T := TX3) (N := 14) S hK w (k := 0) (by decide) (eC_0 ad _) rfl hinX3 13 (by decide) (List.mem_of_getElem? (i := 1) rfl) rfl dX3_tryStrengths_41 ?_
                refine lv_iconst (v := 0) hx hb dX3_tryStrengths_44 (by decide) ?_
                refine lv_iload hx hb dX3_tryStrengths_45 (lv_at hl 0 rfl) ?_
                have g47 : vp_in 0 5 := vpi (by decide) (by decide)
                refine r_iast (cA := ad 100) (N := 5) S hK w (k := 8) (by decide) (fun f => eC_8 ad f) rfl g47 dX3_tryStrengths_47 (fun H locs w => ?_)
                have hok : OkC (u2 S_11 8 (ix 0) (f_X3_leastApart S_11 p1 p2 v3_2 v4_11)) := okC_scr (show scrC 8 by unfold scrC; omega) hok
                have okf0 := hok.1
                have okf1 := hok.2.1
                have okf2 := hok.2.2.1
                have okf3 := hok.2.2.2.1
                have okf4 := hok.2.2.2.2.1
                have okf5 := hok.2.2.2.2.2
                refine lv_aload_n hx hb dX3_tryStrengths_48 rfl (lv_at hl 1 rfl) ?_
                refine r_get (C := RX3) (T := TX3) (N := 14) S hK w (k := 0) (by decide) (eC_0 ad _) rfl hinX3 13 (by decide) (List.mem_of_getElem? (i := 1) rfl) rfl dX3_tryStrengths_49 ?_
                refine lv_iconst (v := 1) hx hb dX3_tryStrengths_52 (by decide) ?_
                refine lv_iload_n hx hb dX3_tryStrengths_53 rfl (lv_at hl 2 rfl) ?_
                have g54 : vp_in 1 5 := vpi (by decide) (by decide)
                refine r_iast (cA := ad 100) (N := 5) S hK w (k := 8) (by decide) (fun f => eC_8 ad f) rfl g54 dX3_tryStrengths_54 (fun H locs w => ?_)
                have hok : OkC (u2 (u2 S_11 8 (ix 0) (f_X3_leastApart S_11 p1 p2 v3_2 v4_11)) 8 (ix 1) p1) := okC_scr (show scrC 8 by unfold scrC; omega) hok
                have okf0 := hok.1
                have okf1 := hok.2.1
                have okf2 := hok.2.2.1
                have okf3 := hok.2.2.2.1
                have okf4 := hok.2.2.2.2.1
                have okf5 := hok.2.2.2.2.2
                refine lv_aload_n hx hb dX3_tryStrengths_55 rfl (lv_at hl 1 rfl) ?_
                refine r_get (C := RX3) (T := TX3) (N := 14) S hK w (k := 0) (by decide) (eC_0 ad _) rfl hinX3 13 (by decide) (List.mem_of_getElem? (i := 1) rfl) rfl dX3_tryStrengths_56 ?_
                refine lv_iconst (v := 2) hx hb dX3_tryStrengths_59 (by decide) ?_
                refine lv_iload_n hx hb dX3_tryStrengths_60 rfl (lv_at hl 3 rfl) ?_
                have g61 : vp_in 2 5 := vpi (by decide) (by decide)
                refine r_iast (cA := ad 100) (N := 5) S hK w (k := 8) (by decide) (fun f => eC_8 ad f) rfl g61 dX3_tryStrengths_61 (fun H locs w => ?_)
                have hok : OkC (u2 (u2 (u2 S_11 8 (ix 0) (f_X3_leastApart S_11 p1 p2 v3_2 v4_11)) 8 (ix 1) p1) 8 (ix 2) p2) := okC_scr (show scrC 8 by unfold scrC; omega) hok
                have okf0 := hok.1
                have okf1 := hok.2.1
                have okf2 := hok.2.2.1
                have okf3 := hok.2.2.2.1
                have okf4 := hok.2.2.2.2.1
                have okf5 := hok.2.2.2.2.2
                refine lv_aload_n hx hb dX3_tryStrengths_62 rfl (lv_at hl 1 rfl) ?_
                refine r_get (C := RX3) (T := TX3) (N := 14) S hK w (k := 0) (by decide) (eC_0 ad _) rfl hinX3 13 (by decide) (List.mem_of_getElem? (i := 1) rfl) rfl dX3_tryStrengths_63 ?_
                refine lv_iconst (v := 3) hx hb dX3_tryStrengths_66 (by decide) ?_
                refine lv_iload_n hx hb dX3_tryStrengths_67 rfl (lv_at hl 4 rfl) ?_
                have g68 : vp_in 3 5 := vpi (by decide) (by decide)
                refine r_iast (cA := ad 100) (N := 5) S hK w (k := 8) (by decide) (fun f => eC_8 ad f) rfl g68 dX3_tryStrengths_68 (fun H locs w => ?_)
                have hok : OkC (u2 (u2 (u2 (u2 S_11 8 (ix 0) (f_X3_leastApart S_11 p1 p2 v3_2 v4_11)) 8 (ix 1) p1) 8 (ix 2) p2) 8 (ix 3) v3_2) := okC_scr (show scrC 8 by unfold scrC; omega) hok
                have okf0 := hok.1
                have okf1 := hok.2.1
                have okf2 := hok.2.2.1
                have okf3 := hok.2.2.2.1
                have okf4 := hok.2.2.2.2.1
                have okf5 := hok.2.2.2.2.2
                refine lv_aload_n hx hb dX3_tryStrengths_69 rfl (lv_at hl 1 rfl) ?_
                refine r_get (C := RX3) (T := TX3) (N := 14) S hK w (k := 0) (by decide) (eC_0 ad _) rfl hinX3 13 (by decide) (List.mem_of_getElem? (i := 1) rfl) rfl dX3_tryStrengths_70 ?_
                refine lv_iconst (v := 4) hx hb dX3_tryStrengths_73 (by decide) ?_
                refine lv_iload hx hb dX3_tryStrengths_74 (lv_at hl 5 rfl) ?_
                have g76 : vp_in 4 5 := vpi (by decide) (by decide)
                refine r_iast (cA := ad 100) (N := 5) S hK w (k := 8) (by decide) (fun f => eC_8 ad f) rfl g76 dX3_tryStrengths_76 (fun H locs w => ?_)
                have hok : OkC (u2 (u2 (u2 (u2 (u2 S_11 8 (ix 0) (f_X3_leastApart S_11 p1 p2 v3_2 v4_11)) 8 (ix 1) p1) 8 (ix 2) p2) 8 (ix 3) v3_2) 8 (ix 4) v4_11) := okC_scr (show scrC 8 by unfold scrC; omega) hok
                have okf0 := hok.1
                have okf1 := hok.2.1
                have okf2 := hok.2.2.1
                have okf3 := hok.2.2.2.1
                have okf4 := hok.2.2.2.2.1
                have okf5 := hok.2.2.2.2.2
                refine lv_iinc (v := (v4_11 + 1)) (lv' := [(4, .int (v4_11 + 1)), (5, .int (f_X3_leastApart S_11 p1 p2 v3_2 v4_11)), (0, .ref (ad 0)), (1, .int p1), (2, .int p2), (3, .int v3_2)]) hx hb dX3_tryStrengths_77 hl (k := 5) rfl rfl (by decide) rfl (fun ls hl => ?_)
                refine lv_goto (tgt := 11) hx hb dX3_tryStrengths_80 (by decide) ?_
                have b4_11 : (v4_11 + 1).toInt = v4_11.toInt + 1 := inc_toInt (by omega) (by omega)
                exact ih11 _ (v4_11 + 1) (u2 (u2 (u2 (u2 (u2 S_11 8 (ix 0) (f_X3_leastApart S_11 p1 p2 v3_2 v4_11)) 8 (ix 1) p1) 8 (ix 2) p2) 8 (ix 3) v3_2) 8 (ix 4) v4_11) ⟨hok, (by omega)⟩ (by omega) hG hex11 _ _ w ls (lv_sub hl [2, 3, 4, 5, 0] rfl)
        refine L11 200 _ 0 S_2 ⟨hok, (by omega)⟩ (by omega) rfl (fun S_11e hok hr11 H locs w ls hl => ?_) _ _ w ls (lv_sub hl [1, 2, 3, 4, 0] rfl)
        rw [hr11] at hG
        have okf0 := hok.1
        have okf1 := hok.2.1
        have okf2 := hok.2.2.1
        have okf3 := hok.2.2.2.1
        have okf4 := hok.2.2.2.2.1
        have okf5 := hok.2.2.2.2.2
        refine lv_iinc (v := (v3_2 + 1)) (lv' := [(3, .int (v3_2 + 1)), (0, .ref (ad 0)), (1, .int p1), (2, .int p2)]) hx hb dX3_tryStrengths_83 hl (k := 3) rfl rfl (by decide) rfl (fun ls hl => ?_)
        refine lv_goto (tgt := 2) hx hb dX3_tryStrengths_86 (by decide) ?_
        have b3_2 : (v3_2 + 1).toInt = v3_2.toInt + 1 := inc_toInt (by omega) (by omega)
        exact ih2 _ (v3_2 + 1) S_11e ⟨hok, (by omega)⟩ (by omega) hG hex2 _ _ w ls (lv_sub hl [1, 2, 3, 0] rfl)
  refine L2 200 _ 0 σ ⟨hok, (by omega)⟩ (by omega) rfl (fun S_2e hok hr2 H locs w ls hl => ?_) _ _ w ls (lv_sub hl [1, 2, 3, 0] rfl)
  rw [hr2] at hG
  have okf0 := hok.1
  have okf1 := hok.2.1
  have okf2 := hok.2.2.1
  have okf3 := hok.2.2.2.1
  have okf4 := hok.2.2.2.2.1
  have okf5 := hok.2.2.2.2.2
  exact endWv S hr hlocks w hG dX3_tryStrengths_89
set_option maxHeartbeats 4000000 in
set_option maxRecDepth 100000 in
theorem c_X3_seekNewSmell (l : Launch) (ad : Nat → Nat) (D : va_G) (sz : Nat) (σ : St) (hok : OkC σ) : Met l yX3_seekNewSmell wsX3_seekNewSmell ({ frames := 3, cells := 0, slots := 0, locals := 74 }) (PreW 41 (eC ad) ad D (tyC ad) σ sz ([.ref (ad 0)] : List Value)) (QWv 41 (eC ad) ad D (f_X3_seekNewSmell σ) (CA 41 ad sz)) 0 0 (CA 41 ad sz) := by
  generalize hG : f_X3_seekNewSmell σ = T
  refine headW (cc := cX3_seekNewSmell) (maxL := 3) (ret := none) ([.ref (ad 0)] : List Value) (by decide) rfl (Nat.le_of_ble_eq_true rfl) ?_
  intro p e s m below meth c S hr hlocks hK hN hsz w ls hl
  have S : CallFix p m c cX3_seekNewSmell 3 s ([.ref (ad 0)] : List Value).toArray wsX3_seekNewSmell RX3 := S
  have hx := S.1
  have hb := S.2.1
  have z0 : (0 : Int32).toInt = 0 := by decide
  have z1 : (1 : Int32).toInt = 1 := by decide
  have hl : lv_has ls 3 [(0, .ref (ad 0))] := hl
  have hinX3 : ∀ w ∈ wsX30, w ∈ wsX3_seekNewSmell := (fun _ h => List.mem_cons_of_mem _ (List.mem_append_left _ (List.mem_append_right _ h)))
  have hinX2 : ∀ w ∈ wsX20, w ∈ wsX3_seekNewSmell := (fun _ h => List.mem_cons_of_mem _ (List.mem_append_right _ h))
  have okf0 := hok.1
  have okf1 := hok.2.1
  have okf2 := hok.2.2.1
  have okf3 := hok.2.2.2.1
  have okf4 := hok.2.2.2.2.1
  have okf5 := hok.2.2.2.2.2
  rw [f_X3_seekNewSmell] at hG
  refine lv_iconst (v := 0) hx hb dX3_seekNewSmell_0 (by decide) ?_
  refine lv_istore_n (lv' := [(1, .int 0), (0, .ref (ad 0))]) hx hb dX3_seekNewSmell_1 rfl hl (by decide) rfl (fun ls hl => ?_)
  have L2 : ∀ (n : Nat) (res2 : St), ∀ (v1_2 : Int32), ∀ (S_2 : St), ((OkC S_2) ∧ (0 ≤ v1_2.toInt ∧ v1_2.toInt ≤ 9)) → (9 - v1_2.toInt).toNat < n → (lp_X3_seekNewSmell_2 n v1_2 S_2) = res2 → (∀ (S_2e : St), (OkC S_2e) → res2 = S_2e → ∀ (H : Heap) (locs : List Loc), CW 41 (eC ad) ad D (CA 41 ad sz) s.heap S_2e H locs → ∀ ls : Array Slot, lv_has ls 3 [(0, .ref (ad 0))] → W p l e (headSpec wsX3_seekNewSmell ({ frames := 3, cells := 0, slots := 0, locals := 74 })).room s m ([.ref (ad 0)] : List Value).toArray below meth c H locs 0 0 (MQ below (QWv 41 (eC ad) ad D T (CA 41 ad sz)) ([.ref (ad 0)] : List Value).toArray s 0 0 (CA 41 ad sz)) (F0 m 36 ls [])) → ∀ (H : Heap) (locs : List Loc), CW 41 (eC ad) ad D (CA 41 ad sz) s.heap S_2 H locs → ∀ ls : Array Slot, lv_has ls 3 [(0, .ref (ad 0)), (1, .int v1_2)] → W p l e (headSpec wsX3_seekNewSmell ({ frames := 3, cells := 0, slots := 0, locals := 74 })).room s m ([.ref (ad 0)] : List Value).toArray below meth c H locs 0 0 (MQ below (QWv 41 (eC ad) ad D T (CA 41 ad sz)) ([.ref (ad 0)] : List Value).toArray s 0 0 (CA 41 ad sz)) (F0 m 2 ls []) := by
    intro n
    induction n with
    | zero => intro _ _ _ _ hm; exact absurd hm (Nat.not_lt_zero _)
    | succ n ih2 =>
      intro res2 v1_2 S_2 hI2 hm2 hG hex2 H locs w ls hl
      obtain ⟨hok, i2_1⟩ := id hI2
      have okf0 := hok.1
      have okf1 := hok.2.1
      have okf2 := hok.2.2.1
      have okf3 := hok.2.2.2.1
      have okf4 := hok.2.2.2.2.1
      have okf5 := hok.2.2.2.2.2
      rw [lp_X3_seekNewSmell_2] at hG
      refine lv_iload_n hx hb dX3_seekNewSmell_2 rfl (lv_at hl 1 rfl) ?_
      refine lv_bipush (v := 9) hx hb dX3_seekNewSmell_3 (by decide) ?_
      refine lv_icmp_ge (tgt := 36) hx hb dX3_seekNewSmell_5 (by decide) (fun c5 => ?_) (fun c5 => ?_)
      · have t5 : 9 ≤ v1_2.toInt := qt_le c5
        rw [if_pos c5] at hG
        exact hex2 S_2 hok hG.symm _ _ w ls (lv_sub hl [0] rfl)
      · have t5 : v1_2.toInt < 9 := qt_nle c5
        rw [if_neg c5] at hG
        refine lv_iload_n hx hb dX3_seekNewSmell_8 rfl (lv_at hl 1 rfl) ?_
        refine lv_iconst (v := 1) hx hb dX3_seekNewSmell_9 (by decide) ?_
        refine lv_iadd hx hb dX3_seekNewSmell_10 ?_
        refine lv_istore_n (lv' := [(2, .int (v1_2 + 1)), (0, .ref (ad 0)), (1, .int v1_2)]) hx hb dX3_seekNewSmell_11 rfl hl (by decide) rfl (fun ls hl => ?_)
        have L12 : ∀ (n : Nat) (res12 : St), ∀ (v2_12 : Int32), ∀ (S_12 : St), ((OkC S_12) ∧ (0 ≤ v2_12.toInt ∧ v2_12.toInt ≤ 9)) → (9 - v2_12.toInt).toNat < n → (lp_X3_seekNewSmell_12 v1_2 n v2_12 S_12) = res12 → (∀ (S_12e : St), (OkC S_12e) → res12 = S_12e → ∀ (H : Heap) (locs : List Loc), CW 41 (eC ad) ad D (CA 41 ad sz) s.heap S_12e H locs → ∀ ls : Array Slot, lv_has ls 3 [(0, .ref (ad 0)), (1, .int v1_2)] → W p l e (headSpec wsX3_seekNewSmell ({ frames := 3, cells := 0, slots := 0, locals := 74 })).room s m ([.ref (ad 0)] : List Value).toArray below meth c H locs 0 0 (MQ below (QWv 41 (eC ad) ad D T (CA 41 ad sz)) ([.ref (ad 0)] : List Value).toArray s 0 0 (CA 41 ad sz)) (F0 m 30 ls [])) → ∀ (H : Heap) (locs : List Loc), CW 41 (eC ad) ad D (CA 41 ad sz) s.heap S_12 H locs → ∀ ls : Array Slot, lv_has ls 3 [(0, .ref (ad 0)), (1, .int v1_2), (2, .int v2_12)] → W p l e (headSpec wsX3_seekNewSmell ({ frames := 3, cells := 0, slots := 0, locals := 74 })).room s m ([.ref (ad 0)] : List Value).toArray below meth c H locs 0 0 (MQ below (QWv 41 (eC ad) ad D T (CA 41 ad sz)) ([.ref (ad 0)] : List Value).toArray s 0 0 (CA 41 ad sz)) (F0 m 12 ls []) := by
          intro n
          induction n with
          | zero => intro _ _ _ _ hm; exact absurd hm (Nat.not_lt_zero _)
          | succ n ih12 =>
            intro res12 v2_12 S_12 hI12 hm12 hG hex12 H locs w ls hl
            obtain ⟨hok, i12_1⟩ := id hI12
            have okf0 := hok.1
            have okf1 := hok.2.1
            have okf2 := hok.2.2.1
            have okf3 := hok.2.2.2.1
            have okf4 := hok.2.2.2.2.1
            have okf5 := hok.2.2.2.2.2
            rw [lp_X3_seekNewSmell_12] at hG
            refine lv_iload_n hx hb dX3_seekNewSmell_12 rfl (lv_at hl 2 rfl) ?_
            refine lv_bipush (v := 9) hx hb dX3_seekNewSmell_13 (by decide) ?_
            refine lv_icmp_ge (tgt := 30) hx hb dX3_seekNewSmell_15 (by decide) (fun c15 => ?_) (fun c15 => ?_)
            · have t15 : 9 ≤ v2_12.toInt := qt_le c15
              rw [if_pos c15] at hG
              exact hex12 S_12 hok hG.symm _ _ w ls (lv_sub hl [0, 1] rfl)
            · have t15 : v2_12.toInt < 9 := qt_nle c15
              rw [if_neg c15] at hG
              refine lv_aload_n hx hb dX3_seekNewSmell_18 rfl (lv_at hl 0 rfl) ?_
              refine lv_iload_n hx hb dX3_seekNewSmell_19 rfl (lv_at hl 1 rfl) ?_
              refine lv_iload_n hx hb dX3_seekNewSmell_20 rfl (lv_at hl 2 rfl) ?_
              refine callWv w (va_runV (As := [.int v1_2, .int v2_12]) (rest := []) S (c_X3_tryStrengths l ad D H.size S_12 v1_2 v2_12 hok (by omega) (by omega)) (cwV 2 S.2.2.2.2 gX3_seekNewSmell_X3_tryStrengths rfl rfl rfl ⟨rfl, hd_X3_tryStrengths⟩ ⟨Nat.le_of_ble_eq_true rfl, Nat.le_of_ble_eq_true rfl⟩) (preV hK hN w (k := 0) (by decide) (eC_0 ad _) (q := (RX3, TX3, 14)) rfl) rfl rfl hl.1 rfl (lv_room (Nat.le_of_ble_eq_true rfl)) dX3_seekNewSmell_21 ⟨Nat.zero_le _, Nat.zero_le _⟩) (fun H locs w => ?_)
              have hok : OkC (f_X3_tryStrengths S_12 v1_2 v2_12) := ok_X3_tryStrengths hok
              have okf0 := hok.1
              have okf1 := hok.2.1
              have okf2 := hok.2.2.1
              have okf3 := hok.2.2.2.1
              have okf4 := hok.2.2.2.2.1
              have okf5 := hok.2.2.2.2.2
              refine lv_iinc (v := (v2_12 + 1)) (lv' := [(2, .int (v2_12 + 1)), (0, .ref (ad 0)), (1, .int v1_2)]) hx hb dX3_seekNewSmell_24 hl (k := 2) rfl rfl (by decide) rfl (fun ls hl => ?_)
              refine lv_goto (tgt := 12) hx hb dX3_seekNewSmell_27 (by decide) ?_
              have b2_12 : (v2_12 + 1).toInt = v2_12.toInt + 1 := inc_toInt (by omega) (by omega)
              exact ih12 _ (v2_12 + 1) (f_X3_tryStrengths S_12 v1_2 v2_12) ⟨hok, (by omega)⟩ (by omega) hG hex12 _ _ w ls (lv_sub hl [1, 2, 0] rfl)
        have e12 := inc_toInt (a := v1_2) (by omega) (by omega)
        refine L12 200 _ (v1_2 + 1) S_2 ⟨hok, (by omega)⟩ (by omega) rfl (fun S_12e hok hr12 H locs w ls hl => ?_) _ _ w ls (lv_sub hl [1, 2, 0] rfl)
        rw [hr12] at hG
        have okf0 := hok.1
        have okf1 := hok.2.1
        have okf2 := hok.2.2.1
        have okf3 := hok.2.2.2.1
        have okf4 := hok.2.2.2.2.1
        have okf5 := hok.2.2.2.2.2
        refine lv_iinc (v := (v1_2 + 1)) (lv' := [(1, .int (v1_2 + 1)), (0, .ref (ad 0))]) hx hb dX3_seekNewSmell_30 hl (k := 1) rfl rfl (by decide) rfl (fun ls hl => ?_)
        refine lv_goto (tgt := 2) hx hb dX3_seekNewSmell_33 (by decide) ?_
        have b1_2 : (v1_2 + 1).toInt = v1_2.toInt + 1 := inc_toInt (by omega) (by omega)
        exact ih2 _ (v1_2 + 1) S_12e ⟨hok, (by omega)⟩ (by omega) hG hex2 _ _ w ls (lv_sub hl [1, 0] rfl)
  refine L2 200 _ 0 σ ⟨hok, (by omega)⟩ (by omega) rfl (fun S_2e hok hr2 H locs w ls hl => ?_) _ _ w ls (lv_sub hl [1, 0] rfl)
  rw [hr2] at hG
  have okf0 := hok.1
  have okf1 := hok.2.1
  have okf2 := hok.2.2.1
  have okf3 := hok.2.2.2.1
  have okf4 := hok.2.2.2.2.1
  have okf5 := hok.2.2.2.2.2
  exact endWv S hr hlocks w hG dX3_seekNewSmell_36
set_option maxHeartbeats 4000000 in
set_option maxRecDepth 100000 in
theorem c_X3_fresh (l : Launch) (ad : Nat → Nat) (D : va_G) (sz : Nat) (σ : St) (p1 : Int32) (hok : OkC σ) : Met l yX3_fresh wsX3_fresh ({ frames := 4, cells := 0, slots := 0, locals := 96 }) (PreW 41 (eC ad) ad D (tyC ad) σ sz ([.ref (ad 0), .int p1] : List Value)) (QWi 41 (eC ad) ad D (f_X3_fresh σ p1) (CA 41 ad sz)) 0 0 (CA 41 ad sz) := by
  generalize hG : f_X3_fresh σ p1 = T
  refine headW (cc := cX3_fresh) (maxL := 2) (ret := (some .int)) ([.ref (ad 0), .int p1] : List Value) (by decide) rfl (Nat.le_of_ble_eq_true rfl) ?_
  intro p e s m below meth c S hr hlocks hK hN hsz w ls hl
  have S : CallFix p m c cX3_fresh 2 s ([.ref (ad 0), .int p1] : List Value).toArray wsX3_fresh RX3 := S
  have hx := S.1
  have hb := S.2.1
  have z0 : (0 : Int32).toInt = 0 := by decide
  have z1 : (1 : Int32).toInt = 1 := by decide
  have hl : lv_has ls 2 [(0, .ref (ad 0)), (1, .int p1)] := hl
  have hinX3 : ∀ w ∈ wsX30, w ∈ wsX3_fresh := (fun _ h => List.mem_cons_of_mem _ (List.mem_append_left _ (List.mem_append_right _ h)))
  have hinX2 : ∀ w ∈ wsX20, w ∈ wsX3_fresh := (fun _ h => List.mem_cons_of_mem _ (List.mem_append_right _ h))
  have okf0 := hok.1
  have okf1 := hok.2.1
  have okf2 := hok.2.2.1
  have okf3 := hok.2.2.2.1
  have okf4 := hok.2.2.2.2.1
  have okf5 := hok.2.2.2.2.2
  rw [f_X3_fresh] at hG
  refine lv_iload_n hx hb dX3_fresh_0 rfl (lv_at hl 1 rfl) ?_
  refine lv_if_lt (tgt := 13) hx hb dX3_fresh_1 (by decide) (fun c1 => ?_) (fun c1 => ?_)
  · have t1 : p1.toInt < 0 := qt_lt c1
    rw [if_pos c1] at hG
    refine lv_bipush (v := (-2)) hx hb dX3_fresh_13 (by decide) ?_
    exact endWi S hr hlocks w hG dX3_fresh_15
  · have t1 : 0 ≤ p1.toInt := qt_nlt c1
    rw [if_neg c1] at hG
    refine lv_iload_n hx hb dX3_fresh_4 rfl (lv_at hl 1 rfl) ?_
    refine lv_aload_n hx hb dX3_fresh_5 rfl (lv_at hl 0 rfl) ?_
    refine r_get (C := RX3) (T := TX3) (N := 14) S hK w (k := 0) (by decide) (eC_0 ad _) rfl hinX3 13 (by decide) (List.mem_of_getElem? (i := 1) rfl) rfl dX3_fresh_6 ?_
    refine r_alen S hK w (k := 8) (by decide) (fun f => eC_8 ad f) rfl (v := 5) (by decide) dX3_fresh_9 ?_
    refine lv_icmp_lt (tgt := 16) hx hb dX3_fresh_10 (by decide) (fun c10 => ?_) (fun c10 => ?_)
    · have t10 : p1.toInt < 5 := qt_lt c10
      rw [if_pos c10] at hG
      refine lv_aload_n hx hb dX3_fresh_16 rfl (lv_at hl 0 rfl) ?_
      refine r_get (C := RX3) (T := TX3) (N := 14) S hK w (k := 0) (by decide) (eC_0 ad _) rfl hinX3 4 (by decide) (List.mem_of_getElem? (i := 2) rfl) rfl dX3_fresh_17 ?_
      refine lv_if_ne (tgt := 26) hx hb dX3_fresh_20 (by decide) (fun c20 => ?_) (fun c20 => ?_)
      · have t20 : (σ 0 4).toInt ≠ 0 := qt_ne c20
        rw [if_neg c20] at hG
        refine lv_aload_n hx hb dX3_fresh_26 rfl (lv_at hl 0 rfl) ?_
        refine r_get (C := RX3) (T := TX3) (N := 14) S hK w (k := 0) (by decide) (eC_0 ad _) rfl hinX3 13 (by decide) (List.mem_of_getElem? (i := 1) rfl) rfl dX3_fresh_27 ?_
        refine lv_iconst (v := 0) hx hb dX3_fresh_30 (by decide) ?_
        have g31 : vp_in 0 5 := vpi (by decide) (by decide)
        refine r_iald (cA := ad 100) (N := 5) S hK w (k := 8) (by decide) (fun f => eC_8 ad f) rfl g31 dX3_fresh_31 ?_
        refine lv_iconst (v := (-1)) hx hb dX3_fresh_32 (by decide) ?_
        refine lv_icmp_ne (tgt := 40) hx hb dX3_fresh_33 (by decide) (fun c33 => ?_) (fun c33 => ?_)
        · have t33 : (σ 8 (ix 0)).toInt ≠ -1 := qt_ne c33
          rw [if_neg c33] at hG
          refine lv_aload_n hx hb dX3_fresh_40 rfl (lv_at hl 0 rfl) ?_
          refine r_get (C := RX3) (T := TX3) (N := 14) S hK w (k := 0) (by decide) (eC_0 ad _) rfl hinX3 13 (by decide) (List.mem_of_getElem? (i := 1) rfl) rfl dX3_fresh_41 ?_
          refine lv_iload_n hx hb dX3_fresh_44 rfl (lv_at hl 1 rfl) ?_
          have g45 : vp_in p1 5 := vpi (by omega) (by omega)
          refine r_iald (cA := ad 100) (N := 5) S hK w (k := 8) (by decide) (fun f => eC_8 ad f) rfl g45 dX3_fresh_45 ?_
          exact endWi S hr hlocks w hG dX3_fresh_46
        · have t33 : (σ 8 (ix 0)).toInt = -1 := qt_eq c33
          rw [if_pos c33] at hG
          refine lv_aload_n hx hb dX3_fresh_36 rfl (lv_at hl 0 rfl) ?_
          refine callWv w (va_runV (As := []) (rest := []) S (c_X3_seekNewSmell l ad D s.heap.size σ hok) (cwV 0 S.2.2.2.2 gX3_fresh_X3_seekNewSmell rfl rfl rfl ⟨rfl, hd_X3_seekNewSmell⟩ ⟨Nat.le_of_ble_eq_true rfl, Nat.le_of_ble_eq_true rfl⟩) (preV hK hN w (k := 0) (by decide) (eC_0 ad _) (q := (RX3, TX3, 14)) rfl) rfl rfl hl.1 rfl (lv_room (Nat.le_of_ble_eq_true rfl)) dX3_fresh_37 ⟨Nat.zero_le _, Nat.zero_le _⟩) (fun H locs w => ?_)
          refine lv_aload_n hx hb dX3_fresh_40 rfl (lv_at hl 0 rfl) ?_
          refine r_get (C := RX3) (T := TX3) (N := 14) S hK w (k := 0) (by decide) (eC_0 ad _) rfl hinX3 13 (by decide) (List.mem_of_getElem? (i := 1) rfl) rfl dX3_fresh_41 ?_
          refine lv_iload_n hx hb dX3_fresh_44 rfl (lv_at hl 1 rfl) ?_
          have g45 : vp_in p1 5 := vpi (by omega) (by omega)
          refine r_iald (cA := ad 100) (N := 5) S hK w (k := 8) (by decide) (fun f => eC_8 ad f) rfl g45 dX3_fresh_45 ?_
          exact endWi S hr hlocks w hG dX3_fresh_46
      · have t20 : (σ 0 4).toInt = 0 := qt_eq c20
        rw [if_pos c20] at hG
        refine lv_bipush (v := (-3)) hx hb dX3_fresh_23 (by decide) ?_
        exact endWi S hr hlocks w hG dX3_fresh_25
    · have t10 : 5 ≤ p1.toInt := qt_nlt c10
      rw [if_neg c10] at hG
      refine lv_bipush (v := (-2)) hx hb dX3_fresh_13 (by decide) ?_
      exact endWi S hr hlocks w hG dX3_fresh_15
set_option maxHeartbeats 4000000 in
set_option maxRecDepth 100000 in
theorem c_X3_isDoor (l : Launch) (ad : Nat → Nat) (D : va_G) (sz : Nat) (σ : St) (p1 : Nat) (p2 : Int32) (p3 : Int32) (hp1 : p1 < 4) (hb1 : 0 ≤ p2.toInt ∧ p2.toInt + 9 ≤ 90) : Met l yX3_isDoor wsX3_isDoor ({ frames := 0, cells := 0, slots := 0, locals := 0 }) (PreW 41 (eC ad) ad D (tyC ad) σ sz ([.ref (ad (9 + p1)), .int p2, .int p3] : List Value)) (Q0i (f_X3_isDoor σ p1 p2 p3)) 0 0 N0 := by
  generalize hG : f_X3_isDoor σ p1 p2 p3 = T
  refine headW (cc := cX3_isDoor) (maxL := 5) (ret := (some .boolean)) ([.ref (ad (9 + p1)), .int p2, .int p3] : List Value) (by decide) rfl (Nat.le_of_ble_eq_true rfl) ?_
  intro p e s m below meth c S hr hlocks hK hN hsz w ls hl
  have S : CallFix p m c cX3_isDoor 5 s ([.ref (ad (9 + p1)), .int p2, .int p3] : List Value).toArray wsX3_isDoor RX3 := S
  have hx := S.1
  have hb := S.2.1
  have z0 : (0 : Int32).toInt = 0 := by decide
  have z1 : (1 : Int32).toInt = 1 := by decide
  have hl : lv_has ls 5 [(0, .ref (ad (9 + p1))), (1, .int p2), (2, .int p3)] := hl
  have hinX1 : ∀ w ∈ wsX10, w ∈ wsX3_isDoor := (fun _ h => List.mem_cons_of_mem _ (List.mem_append_right _ h))
  rw [f_X3_isDoor] at hG
  refine lv_iconst (v := 0) hx hb dX3_isDoor_0 (by decide) ?_
  refine lv_istore_n (lv' := [(3, .int 0), (0, .ref (ad (9 + p1))), (1, .int p2), (2, .int p3)]) hx hb dX3_isDoor_1 rfl hl (by decide) rfl (fun ls hl => ?_)
  have L2 : ∀ (n : Nat) (res2 : (Int32) ⊕ (Unit)), ∀ (v3_2 : Int32), ((0 ≤ v3_2.toInt ∧ v3_2.toInt ≤ 9)) → (9 - v3_2.toInt).toNat < n → (lp_X3_isDoor_2 σ p1 p2 p3 n v3_2) = res2 → (∀ r : Int32, res2 = Sum.inl r → r = T) → (res2 = Sum.inr () → ∀ ls : Array Slot, lv_has ls 5 [(2, .int p3)] → W p l e (headSpec wsX3_isDoor ({ frames := 0, cells := 0, slots := 0, locals := 0 })).room s m ([.ref (ad (9 + p1)), .int p2, .int p3] : List Value).toArray below meth c s.heap [] 0 0 (MQ below (Q0i T) ([.ref (ad (9 + p1)), .int p2, .int p3] : List Value).toArray s 0 0 N0) (F0 m 38 ls [])) → ∀ ls : Array Slot, lv_has ls 5 [(0, .ref (ad (9 + p1))), (1, .int p2), (2, .int p3), (3, .int v3_2)] → W p l e (headSpec wsX3_isDoor ({ frames := 0, cells := 0, slots := 0, locals := 0 })).room s m ([.ref (ad (9 + p1)), .int p2, .int p3] : List Value).toArray below meth c s.heap [] 0 0 (MQ below (Q0i T) ([.ref (ad (9 + p1)), .int p2, .int p3] : List Value).toArray s 0 0 N0) (F0 m 2 ls []) := by
    intro n
    induction n with
    | zero => intro _ _ _ hm; exact absurd hm (Nat.not_lt_zero _)
    | succ n ih2 =>
      intro res2 v3_2 hI2 hm2 hG hret2 hex2 ls hl
      have i2_0 := hI2
      rw [lp_X3_isDoor_2] at hG
      refine lv_iload_n hx hb dX3_isDoor_2 rfl (lv_at hl 3 rfl) ?_
      refine lv_bipush (v := 9) hx hb dX3_isDoor_3 (by decide) ?_
      refine lv_icmp_ge (tgt := 38) hx hb dX3_isDoor_5 (by decide) (fun c5 => ?_) (fun c5 => ?_)
      · have t5 : 9 ≤ v3_2.toInt := qt_le c5
        rw [if_pos c5] at hG
        exact hex2  hG.symm ls (lv_sub hl [2] rfl)
      · have t5 : v3_2.toInt < 9 := qt_nle c5
        rw [if_neg c5] at hG
        refine lv_aload_n hx hb dX3_isDoor_8 rfl (lv_at hl 0 rfl) ?_
        refine r_getN (C := RX1) (T := TX1) (N := 4) S hK hN w (k := (9 + p1)) (Nat.lt_of_lt_of_le (Nat.add_lt_add_left hp1 9) (by decide)) (eC_sh ad hp1 _) rfl hinX1 3 (by decide) 2 rfl rfl dX3_isDoor_9 ?_
        refine lv_iload_n hx hb dX3_isDoor_12 rfl (lv_at hl 1 rfl) ?_
        refine lv_iload_n hx hb dX3_isDoor_13 rfl (lv_at hl 3 rfl) ?_
        refine lv_iadd hx hb dX3_isDoor_14 ?_
        have e14 := a_toInt (a := p2) (b := v3_2) (by omega) (by omega)
        have g15 : vp_in (p2 + v3_2) 90 := vpi (by omega) (by omega)
        refine r_iald (cA := ad 100) (N := 90) S hK w (k := (13 + p1)) (Nat.lt_of_lt_of_le (Nat.add_lt_add_left hp1 13) (by decide)) (fun f => eC_sc ad hp1 f) rfl g15 dX3_isDoor_15 ?_
        refine lv_istore (lv' := [(4, .int (σ (13 + p1) (ix (p2 + v3_2)))), (0, .ref (ad (9 + p1))), (1, .int p2), (2, .int p3), (3, .int v3_2)]) hx hb dX3_isDoor_16 hl (by decide) rfl (fun ls hl => ?_)
        refine lv_iload hx hb dX3_isDoor_18 (lv_at hl 0 rfl) ?_
        refine lv_if_lt (tgt := 30) hx hb dX3_isDoor_20 (by decide) (fun c20 => ?_) (fun c20 => ?_)
        · have t20 : (σ (13 + p1) (ix (p2 + v3_2))).toInt < 0 := qt_lt c20
          rw [if_pos c20] at hG
          refine lv_iconst (v := 0) hx hb dX3_isDoor_30 (by decide) ?_
          exact end0z S hr hlocks (Or.inl rfl) (hret2 _ hG.symm) dX3_isDoor_31
        · have t20 : 0 ≤ (σ (13 + p1) (ix (p2 + v3_2))).toInt := qt_nlt c20
          rw [if_neg c20] at hG
          refine lv_iload hx hb dX3_isDoor_23 (lv_at hl 0 rfl) ?_
          refine lv_bipush (v := 99) hx hb dX3_isDoor_25 (by decide) ?_
          refine lv_icmp_le (tgt := 32) hx hb dX3_isDoor_27 (by decide) (fun c27 => ?_) (fun c27 => ?_)
          · have t27 : (σ (13 + p1) (ix (p2 + v3_2))).toInt ≤ 99 := qt_le c27
            rw [if_pos c27] at hG
            refine lv_iinc (v := (v3_2 + 1)) (lv' := [(3, .int (v3_2 + 1)), (4, .int (σ (13 + p1) (ix (p2 + v3_2)))), (0, .ref (ad (9 + p1))), (1, .int p2), (2, .int p3)]) hx hb dX3_isDoor_32 hl (k := 4) rfl rfl (by decide) rfl (fun ls hl => ?_)
            refine lv_goto (tgt := 2) hx hb dX3_isDoor_35 (by decide) ?_
            have b3_2 : (v3_2 + 1).toInt = v3_2.toInt + 1 := inc_toInt (by omega) (by omega)
            exact ih2 _ (v3_2 + 1) (by omega) (by omega) hG hret2 hex2 ls (lv_sub hl [2, 3, 4, 0] rfl)
          · have t27 : 99 < (σ (13 + p1) (ix (p2 + v3_2))).toInt := qt_nle c27
            rw [if_neg c27] at hG
            refine lv_iconst (v := 0) hx hb dX3_isDoor_30 (by decide) ?_
            exact end0z S hr hlocks (Or.inl rfl) (hret2 _ hG.symm) dX3_isDoor_31
  refine L2 200 _ 0 (by omega) (by omega) rfl (fun r hr2 => by rw [hr2] at hG; exact hG) (fun hr2 ls hl => ?_) ls (lv_sub hl [1, 2, 3, 0] rfl)
  rw [hr2] at hG
  dsimp only at hG
  refine lv_iload_n hx hb dX3_isDoor_38 rfl (lv_at hl 0 rfl) ?_
  refine lv_if_lt (tgt := 51) hx hb dX3_isDoor_39 (by decide) (fun c39 => ?_) (fun c39 => ?_)
  · have t39 : p3.toInt < 0 := qt_lt c39
    rw [if_pos c39] at hG
    refine lv_iconst (v := 0) hx hb dX3_isDoor_51 (by decide) ?_
    exact end0z S hr hlocks (Or.inl rfl) hG dX3_isDoor_52
  · have t39 : 0 ≤ p3.toInt := qt_nlt c39
    rw [if_neg c39] at hG
    refine lv_iload_n hx hb dX3_isDoor_42 rfl (lv_at hl 0 rfl) ?_
    refine lv_iconst (v := 3) hx hb dX3_isDoor_43 (by decide) ?_
    refine lv_icmp_gt (tgt := 51) hx hb dX3_isDoor_44 (by decide) (fun c44 => ?_) (fun c44 => ?_)
    · have t44 : 3 < p3.toInt := qt_lt c44
      rw [if_pos c44] at hG
      refine lv_iconst (v := 0) hx hb dX3_isDoor_51 (by decide) ?_
      exact end0z S hr hlocks (Or.inl rfl) hG dX3_isDoor_52
    · have t44 : p3.toInt ≤ 3 := qt_nlt c44
      rw [if_neg c44] at hG
      refine lv_iconst (v := 1) hx hb dX3_isDoor_47 (by decide) ?_
      refine lv_goto (tgt := 52) hx hb dX3_isDoor_48 (by decide) ?_
      exact end0z S hr hlocks (Or.inr rfl) hG dX3_isDoor_52
set_option maxHeartbeats 4000000 in
set_option maxRecDepth 100000 in
theorem c_X3_leftFrom (l : Launch) (ad : Nat → Nat) (D : va_G) (sz : Nat) (σ : St) (p1 : Nat) (p2 : Int32) (p3 : Nat) (p4 : Int32) (hok : OkC σ) (hp1 : p1 < 8) (hp3 : p3 < 4) (hb1 : 0 ≤ p4.toInt ∧ p4.toInt + 9 ≤ 90) : Met l yX3_leftFrom wsX3_leftFrom ({ frames := 2, cells := 0, slots := 0, locals := 48 }) (PreW 41 (eC ad) ad D (tyC ad) σ sz ([.ref (ad 0), .ref (ad (17 + p1)), .int p2, .ref (ad (9 + p3)), .int p4] : List Value)) (Q0i (f_X3_leftFrom σ p1 p2 p3 p4)) 0 0 N0 := by
  generalize hG : f_X3_leftFrom σ p1 p2 p3 p4 = T
  refine headW (cc := cX3_leftFrom) (maxL := 8) (ret := (some .int)) ([.ref (ad 0), .ref (ad (17 + p1)), .int p2, .ref (ad (9 + p3)), .int p4] : List Value) (by decide) rfl (Nat.le_of_ble_eq_true rfl) ?_
  intro p e s m below meth c S hr hlocks hK hN hsz w ls hl
  have S : CallFix p m c cX3_leftFrom 8 s ([.ref (ad 0), .ref (ad (17 + p1)), .int p2, .ref (ad (9 + p3)), .int p4] : List Value).toArray wsX3_leftFrom RX3 := S
  have hx := S.1
  have hb := S.2.1
  have z0 : (0 : Int32).toInt = 0 := by decide
  have z1 : (1 : Int32).toInt = 1 := by decide
  have hl : lv_has ls 8 [(0, .ref (ad 0)), (1, .ref (ad (17 + p1))), (2, .int p2), (3, .ref (ad (9 + p3))), (4, .int p4)] := hl
  have hinX2 : ∀ w ∈ wsX20, w ∈ wsX3_leftFrom := (fun _ h => List.mem_cons_of_mem _ (List.mem_append_left _ (List.mem_append_left _ (List.mem_append_right _ h))))
  have hinX1 : ∀ w ∈ wsX10, w ∈ wsX3_leftFrom := (fun _ h => List.mem_cons_of_mem _ (List.mem_append_left _ (List.mem_append_right _ h)))
  have hinX3 : ∀ w ∈ wsX30, w ∈ wsX3_leftFrom := (fun _ h => List.mem_cons_of_mem _ (List.mem_append_right _ h))
  have okf0 := hok.1
  have okf1 := hok.2.1
  have okf2 := hok.2.2.1
  have okf3 := hok.2.2.2.1
  have okf4 := hok.2.2.2.2.1
  have okf5 := hok.2.2.2.2.2
  rw [f_X3_leftFrom] at hG
  refine lv_iconst (v := 0) hx hb dX3_leftFrom_0 (by decide) ?_
  refine lv_istore (lv' := [(5, .int 0), (0, .ref (ad 0)), (1, .ref (ad (17 + p1))), (2, .int p2), (3, .ref (ad (9 + p3))), (4, .int p4)]) hx hb dX3_leftFrom_1 hl (by decide) rfl (fun ls hl => ?_)
  refine lv_iconst (v := 0) hx hb dX3_leftFrom_3 (by decide) ?_
  refine lv_istore (lv' := [(6, .int 0), (5, .int 0), (0, .ref (ad 0)), (1, .ref (ad (17 + p1))), (2, .int p2), (3, .ref (ad (9 + p3))), (4, .int p4)]) hx hb dX3_leftFrom_4 hl (by decide) rfl (fun ls hl => ?_)
  have L6 : ∀ (n : Nat) (res6 : Int32), ∀ (v5_6 : Int32), ∀ (v6_6 : Int32), ((0 ≤ v6_6.toInt ∧ v6_6.toInt ≤ 9)) → (9 - v6_6.toInt).toNat < n → (lp_X3_leftFrom_6 σ p1 p2 p3 p4 n v5_6 v6_6) = res6 → (∀ (v5_6e : Int32), res6 = v5_6e → ∀ ls : Array Slot, lv_has ls 8 [(0, .ref (ad 0)), (5, .int v5_6e)] → W p l e (headSpec wsX3_leftFrom ({ frames := 2, cells := 0, slots := 0, locals := 48 })).room s m ([.ref (ad 0), .ref (ad (17 + p1)), .int p2, .ref (ad (9 + p3)), .int p4] : List Value).toArray below meth c s.heap [] 0 0 (MQ below (Q0i T) ([.ref (ad 0), .ref (ad (17 + p1)), .int p2, .ref (ad (9 + p3)), .int p4] : List Value).toArray s 0 0 N0) (F0 m 60 ls [])) → ∀ ls : Array Slot, lv_has ls 8 [(0, .ref (ad 0)), (1, .ref (ad (17 + p1))), (2, .int p2), (3, .ref (ad (9 + p3))), (4, .int p4), (5, .int v5_6), (6, .int v6_6)] → W p l e (headSpec wsX3_leftFrom ({ frames := 2, cells := 0, slots := 0, locals := 48 })).room s m ([.ref (ad 0), .ref (ad (17 + p1)), .int p2, .ref (ad (9 + p3)), .int p4] : List Value).toArray below meth c s.heap [] 0 0 (MQ below (Q0i T) ([.ref (ad 0), .ref (ad (17 + p1)), .int p2, .ref (ad (9 + p3)), .int p4] : List Value).toArray s 0 0 N0) (F0 m 6 ls []) := by
    intro n
    induction n with
    | zero => intro _ _ _ _ hm; exact absurd hm (Nat.not_lt_zero _)
    | succ n ih6 =>
      intro res6 v5_6 v6_6 hI6 hm6 hG hex6 ls hl
      have i6_0 := hI6
      rw [lp_X3_leftFrom_6] at hG
      refine lv_iload hx hb dX3_leftFrom_6 (lv_at hl 6 rfl) ?_
      refine lv_bipush (v := 9) hx hb dX3_leftFrom_8 (by decide) ?_
      refine lv_icmp_ge (tgt := 60) hx hb dX3_leftFrom_10 (by decide) (fun c10 => ?_) (fun c10 => ?_)
      · have t10 : 9 ≤ v6_6.toInt := qt_le c10
        rw [if_pos c10] at hG
        exact hex6 v5_6 hG.symm ls (lv_sub hl [0, 5] rfl)
      · have t10 : v6_6.toInt < 9 := qt_nle c10
        rw [if_neg c10] at hG
        refine lv_aload_n hx hb dX3_leftFrom_13 rfl (lv_at hl 0 rfl) ?_
        refine lv_aload_n hx hb dX3_leftFrom_14 rfl (lv_at hl 1 rfl) ?_
        refine lv_iload hx hb dX3_leftFrom_15 (lv_at hl 6 rfl) ?_
        refine lv_bipush (v := 8) hx hb dX3_leftFrom_17 (by decide) ?_
        refine lv_aload_n hx hb dX3_leftFrom_19 rfl (lv_at hl 1 rfl) ?_
        refine r_getN (C := RX2) (T := TX2) (N := 3) S hK hN w (k := (17 + p1)) (Nat.lt_of_lt_of_le (Nat.add_lt_add_left hp1 17) (by decide)) (eC_sg ad hp1 _) rfl hinX2 2 (by decide) 5 rfl rfl dX3_leftFrom_20 ?_
        refine lv_iload hx hb dX3_leftFrom_23 (lv_at hl 6 rfl) ?_
        have g25 : vp_in v6_6 9 := vpi (by omega) (by omega)
        refine r_iald (cA := ad 100) (N := 9) S hK w (k := (25 + p1)) (Nat.lt_of_lt_of_le (Nat.add_lt_add_left hp1 25) (by decide)) (fun f => eC_st ad hp1 f) rfl g25 dX3_leftFrom_25 ?_
        refine lv_imul hx hb dX3_leftFrom_26 ?_
        refine lv_iload_n hx hb dX3_leftFrom_27 rfl (lv_at hl 2 rfl) ?_
        refine call0i (va_runV (As := [.ref (ad (17 + p1)), .int v6_6, .int (8 * (σ (25 + p1) (ix v6_6))), .int p2]) (rest := []) S (c_X3_fade l ad D s.heap.size σ p1 v6_6 (8 * (σ (25 + p1) (ix v6_6))) p2 hok hp1 (by omega)) (cwV 4 S.2.2.2.2 gX3_leftFrom_X3_fade rfl rfl rfl ⟨rfl, hd_X3_fade⟩ ⟨Nat.le_of_ble_eq_true rfl, Nat.le_of_ble_eq_true rfl⟩) (preV hK hN w (k := 0) (by decide) (eC_0 ad _) (q := (RX3, TX3, 14)) rfl) rfl rfl hl.1 rfl (lv_room (Nat.le_of_ble_eq_true rfl)) dX3_leftFrom_28 ⟨Nat.zero_le _, Nat.zero_le _⟩) ?_
        refine lv_istore (lv' := [(7, .int (f_X3_fade σ p1 v6_6 (8 * (σ (25 + p1) (ix v6_6))) p2)), (0, .ref (ad 0)), (1, .ref (ad (17 + p1))), (2, .int p2), (3, .ref (ad (9 + p3))), (4, .int p4), (5, .int v5_6), (6, .int v6_6)]) hx hb dX3_leftFrom_31 hl (by decide) rfl (fun ls hl => ?_)
        refine lv_iload hx hb dX3_leftFrom_33 (lv_at hl 6 rfl) ?_
        refine lv_iload hx hb dX3_leftFrom_35 (lv_at hl 0 rfl) ?_
        refine lv_aload_n hx hb dX3_leftFrom_37 rfl (lv_at hl 4 rfl) ?_
        refine r_getN (C := RX1) (T := TX1) (N := 4) S hK hN w (k := (9 + p3)) (Nat.lt_of_lt_of_le (Nat.add_lt_add_left hp3 9) (by decide)) (eC_sh ad hp3 _) rfl hinX1 3 (by decide) 2 rfl rfl dX3_leftFrom_38 ?_
        refine lv_iload hx hb dX3_leftFrom_41 (lv_at hl 5 rfl) ?_
        refine lv_iload hx hb dX3_leftFrom_43 (lv_at hl 7 rfl) ?_
        refine lv_iadd hx hb dX3_leftFrom_45 ?_
        have e45 := a_toInt (a := p4) (b := v6_6) (by omega) (by omega)
        have g46 : vp_in (p4 + v6_6) 90 := vpi (by omega) (by omega)
        refine r_iald (cA := ad 100) (N := 90) S hK w (k := (13 + p3)) (Nat.lt_of_lt_of_le (Nat.add_lt_add_left hp3 13) (by decide)) (fun f => eC_sc ad hp3 f) rfl g46 dX3_leftFrom_46 ?_
        refine lv_isub hx hb dX3_leftFrom_47 ?_
        refine r_abs S hl.1 (List.mem_of_getElem? (i := 1) rfl) (List.mem_of_getElem? (i := 2) rfl) (List.mem_of_getElem? (i := 3) rfl) (List.mem_of_getElem? (i := 4) rfl) ⟨Nat.le_of_ble_eq_true rfl, Nat.le_of_ble_eq_true rfl, Nat.zero_le _, Nat.zero_le _⟩ dX3_leftFrom_48 ?_
        refine lv_iadd hx hb dX3_leftFrom_51 ?_
        refine lv_istore (lv' := [(5, .int (v5_6 + (jabs ((f_X3_fade σ p1 v6_6 (8 * (σ (25 + p1) (ix v6_6))) p2) - (σ (13 + p3) (ix (p4 + v6_6))))))), (7, .int (f_X3_fade σ p1 v6_6 (8 * (σ (25 + p1) (ix v6_6))) p2)), (0, .ref (ad 0)), (1, .ref (ad (17 + p1))), (2, .int p2), (3, .ref (ad (9 + p3))), (4, .int p4), (6, .int v6_6)]) hx hb dX3_leftFrom_52 hl (by decide) rfl (fun ls hl => ?_)
        refine lv_iinc (v := (v6_6 + 1)) (lv' := [(6, .int (v6_6 + 1)), (5, .int (v5_6 + (jabs ((f_X3_fade σ p1 v6_6 (8 * (σ (25 + p1) (ix v6_6))) p2) - (σ (13 + p3) (ix (p4 + v6_6))))))), (7, .int (f_X3_fade σ p1 v6_6 (8 * (σ (25 + p1) (ix v6_6))) p2)), (0, .ref (ad 0)), (1, .ref (ad (17 + p1))), (2, .int p2), (3, .ref (ad (9 + p3))), (4, .int p4)]) hx hb dX3_leftFrom_54 hl (k := 7) rfl rfl (by decide) rfl (fun ls hl => ?_)
        refine lv_goto (tgt := 6) hx hb dX3_leftFrom_57 (by decide) ?_
        have b6_6 : (v6_6 + 1).toInt = v6_6.toInt + 1 := inc_toInt (by omega) (by omega)
        exact ih6 _ (v5_6 + (jabs ((f_X3_fade σ p1 v6_6 (8 * (σ (25 + p1) (ix v6_6))) p2) - (σ (13 + p3) (ix (p4 + v6_6)))))) (v6_6 + 1) (by omega) (by omega) hG hex6 ls (lv_sub hl [3, 4, 5, 6, 7, 1, 0] rfl)
  refine L6 200 _ 0 0 (by omega) (by omega) rfl (fun v5_6e hr6 ls hl => ?_) ls (lv_sub hl [2, 3, 4, 5, 6, 1, 0] rfl)
  rw [hr6] at hG
  refine lv_iload hx hb dX3_leftFrom_60 (lv_at hl 1 rfl) ?_
  exact end0i S hr hlocks hG dX3_leftFrom_62
