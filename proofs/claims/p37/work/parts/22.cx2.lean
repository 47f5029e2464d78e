set_option maxHeartbeats 4000000 in
set_option maxRecDepth 100000 in
theorem c_X3_countHours (l : Launch) (ad : Nat → Nat) (D : va_G) (sz : Nat) (σ : St) (p1 : Int32) (p2 : Nat) (p3 : Int32) (hok : OkC σ) (hp2 : p2 < 4) (hb1 : 0 ≤ p3.toInt ∧ p3.toInt + 9 ≤ 90) : Met l yX3_countHours wsX3_countHours ({ frames := 3, cells := 0, slots := 0, locals := 75 }) (PreW 41 (eC ad) ad D (tyC ad) σ sz ([.ref (ad 0), .int p1, .ref (ad (9 + p2)), .int p3] : List Value)) (QWi 41 (eC ad) ad D (f_X3_countHours σ p1 p2 p3) (CA 41 ad sz)) 0 0 (CA 41 ad sz) := by
  generalize hG : f_X3_countHours σ p1 p2 p3 = T
  refine headW (cc := cX3_countHours) (maxL := 7) (ret := (some .int)) ([.ref (ad 0), .int p1, .ref (ad (9 + p2)), .int p3] : List Value) (by decide) rfl (Nat.le_of_ble_eq_true rfl) ?_
  intro p e s m below meth c S hr hlocks hK hN hsz w ls hl
  have S : CallFix p m c cX3_countHours 7 s ([.ref (ad 0), .int p1, .ref (ad (9 + p2)), .int p3] : List Value).toArray wsX3_countHours RX3 := S
  have hx := S.1
  have hb := S.2.1
  have z0 : (0 : Int32).toInt = 0 := by decide
  have z1 : (1 : Int32).toInt = 1 := by decide
  have hl : lv_has ls 7 [(0, .ref (ad 0)), (1, .int p1), (2, .ref (ad (9 + p2))), (3, .int p3)] := hl
  have hinX3 : ∀ w ∈ wsX30, w ∈ wsX3_countHours := (fun _ h => List.mem_cons_of_mem _ (List.mem_append_left _ (List.mem_append_left _ (List.mem_append_right _ h))))
  have hinX2 : ∀ w ∈ wsX20, w ∈ wsX3_countHours := (fun _ h => List.mem_cons_of_mem _ (List.mem_append_left _ (List.mem_append_right _ h)))
  have hinX1 : ∀ w ∈ wsX10, w ∈ wsX3_countHours := (fun _ h => List.mem_cons_of_mem _ (List.mem_append_right _ h))
  have okf0 := hok.1
  have okf1 := hok.2.1
  have okf2 := hok.2.2.1
  have okf3 := hok.2.2.2.1
  have okf4 := hok.2.2.2.2.1
  have okf5 := hok.2.2.2.2.2
  rw [f_X3_countHours] at hG
  refine lv_iconst (v := 0) hx hb dX3_countHours_0 (by decide) ?_
  refine lv_istore (lv' := [(4, .int 0), (0, .ref (ad 0)), (1, .int p1), (2, .ref (ad (9 + p2))), (3, .int p3)]) hx hb dX3_countHours_1 hl (by decide) rfl (fun ls hl => ?_)
  refine lv_iconst (v := 0) hx hb dX3_countHours_3 (by decide) ?_
  refine lv_istore (lv' := [(5, .int 0), (4, .int 0), (0, .ref (ad 0)), (1, .int p1), (2, .ref (ad (9 + p2))), (3, .int p3)]) hx hb dX3_countHours_4 hl (by decide) rfl (fun ls hl => ?_)
  have L6 : ∀ (n : Nat) (res6 : Int32 × St), ∀ (v4_6 : Int32), ∀ (v5_6 : Int32), ∀ (S_6 : St), ((OkC S_6) ∧ (0 ≤ v5_6.toInt ∧ v5_6.toInt ≤ 8)) → (8 - v5_6.toInt).toNat < n → (lp_X3_countHours_6 p1 p2 p3 n v4_6 v5_6 S_6) = res6 → (∀ (v4_6e : Int32), ∀ (S_6e : St), (OkC S_6e) → res6 = (v4_6e, S_6e) → ∀ (H : Heap) (locs : List Loc), CW 41 (eC ad) ad D (CA 41 ad sz) s.heap S_6e H locs → ∀ ls : Array Slot, lv_has ls 7 [(0, .ref (ad 0)), (4, .int v4_6e)] → W p l e (headSpec wsX3_countHours ({ frames := 3, cells := 0, slots := 0, locals := 75 })).room s m ([.ref (ad 0), .int p1, .ref (ad (9 + p2)), .int p3] : List Value).toArray below meth c H locs 0 0 (MQ below (QWi 41 (eC ad) ad D T (CA 41 ad sz)) ([.ref (ad 0), .int p1, .ref (ad (9 + p2)), .int p3] : List Value).toArray s 0 0 (CA 41 ad sz)) (F0 m 95 ls [])) → ∀ (H : Heap) (locs : List Loc), CW 41 (eC ad) ad D (CA 41 ad sz) s.heap S_6 H locs → ∀ ls : Array Slot, lv_has ls 7 [(0, .ref (ad 0)), (1, .int p1), (2, .ref (ad (9 + p2))), (3, .int p3), (4, .int v4_6), (5, .int v5_6)] → W p l e (headSpec wsX3_countHours ({ frames := 3, cells := 0, slots := 0, locals := 75 })).room s m ([.ref (ad 0), .int p1, .ref (ad (9 + p2)), .int p3] : List Value).toArray below meth c H locs 0 0 (MQ below (QWi 41 (eC ad) ad D T (CA 41 ad sz)) ([.ref (ad 0), .int p1, .ref (ad (9 + p2)), .int p3] : List Value).toArray s 0 0 (CA 41 ad sz)) (F0 m 6 ls []) := by
    intro n
    induction n with
    | zero => intro _ _ _ _ _ hm; exact absurd hm (Nat.not_lt_zero _)
    | succ n ih6 =>
      intro res6 v4_6 v5_6 S_6 hI6 hm6 hG hex6 H locs w ls hl
      obtain ⟨hok, i6_1⟩ := id hI6
      have okf0 := hok.1
      have okf1 := hok.2.1
      have okf2 := hok.2.2.1
      have okf3 := hok.2.2.2.1
      have okf4 := hok.2.2.2.2.1
      have okf5 := hok.2.2.2.2.2
      rw [lp_X3_countHours_6] at hG
      refine lv_iload hx hb dX3_countHours_6 (lv_at hl 5 rfl) ?_
      refine lv_aload_n hx hb dX3_countHours_8 rfl (lv_at hl 0 rfl) ?_
      refine r_get (C := RX3) (T := TX3) (N := 14) S hK w (k := 0) (by decide) (eC_0 ad _) rfl hinX3 4 (by decide) (List.mem_of_getElem? (i := 1) rfl) rfl dX3_countHours_9 ?_
      refine lv_icmp_ge (tgt := 95) hx hb dX3_countHours_12 (by decide) (fun c12 => ?_) (fun c12 => ?_)
      · have t12 : (S_6 0 4).toInt ≤ v5_6.toInt := qt_le c12
        rw [if_pos c12] at hG
        exact hex6 v4_6 S_6 hok hG.symm _ _ w ls (lv_sub hl [0, 4] rfl)
      · have t12 : v5_6.toInt < (S_6 0 4).toInt := qt_nle c12
        rw [if_neg c12] at hG
        refine lv_aload_n hx hb dX3_countHours_15 rfl (lv_at hl 0 rfl) ?_
        refine r_get (C := RX3) (T := TX3) (N := 14) S hK w (k := 0) (by decide) (eC_0 ad _) rfl hinX3 12 (by decide) (List.mem_of_getElem? (i := 2) rfl) rfl dX3_countHours_16 ?_
        refine lv_iload hx hb dX3_countHours_19 (lv_at hl 5 rfl) ?_
        refine lv_iconst (v := 0) hx hb dX3_countHours_21 (by decide) ?_
        have g22 : vp_in v5_6 8 := vpi (by omega) (by omega)
        refine r_iast (cA := ad 100) (N := 8) S hK w (k := 7) (by decide) (fun f => eC_7 ad f) rfl g22 dX3_countHours_22 (fun H locs w => ?_)
        have hok : OkC (u2 S_6 7 (ix v5_6) 0) := okC_scr (show scrC 7 by unfold scrC; omega) hok
        have okf0 := hok.1
        have okf1 := hok.2.1
        have okf2 := hok.2.2.1
        have okf3 := hok.2.2.2.1
        have okf4 := hok.2.2.2.2.1
        have okf5 := hok.2.2.2.2.2
        refine lv_iconst (v := 0) hx hb dX3_countHours_23 (by decide) ?_
        refine lv_istore (lv' := [(6, .int 0), (0, .ref (ad 0)), (1, .int p1), (2, .ref (ad (9 + p2))), (3, .int p3), (4, .int v4_6), (5, .int v5_6)]) hx hb dX3_countHours_24 hl (by decide) rfl (fun ls hl => ?_)
        have L26 : ∀ (n : Nat) (res26 : St), ∀ (v6_26 : Int32), ∀ (S_26 : St), ((OkC S_26) ∧ (0 ≤ v6_26.toInt ∧ v6_26.toInt ≤ 10)) → (10 - v6_26.toInt).toNat < n → (lp_X3_countHours_26 p1 p2 p3 v4_6 v5_6 n v6_26 S_26) = res26 → (∀ (S_26e : St), (OkC S_26e) → res26 = S_26e → ∀ (H : Heap) (locs : List Loc), CW 41 (eC ad) ad D (CA 41 ad sz) s.heap S_26e H locs → ∀ ls : Array Slot, lv_has ls 7 [(0, .ref (ad 0)), (1, .int p1), (2, .ref (ad (9 + p2))), (3, .int p3), (4, .int v4_6), (5, .int v5_6)] → W p l e (headSpec wsX3_countHours ({ frames := 3, cells := 0, slots := 0, locals := 75 })).room s m ([.ref (ad 0), .int p1, .ref (ad (9 + p2)), .int p3] : List Value).toArray below meth c H locs 0 0 (MQ below (QWi 41 (eC ad) ad D T (CA 41 ad sz)) ([.ref (ad 0), .int p1, .ref (ad (9 + p2)), .int p3] : List Value).toArray s 0 0 (CA 41 ad sz)) (F0 m 77 ls [])) → ∀ (H : Heap) (locs : List Loc), CW 41 (eC ad) ad D (CA 41 ad sz) s.heap S_26 H locs → ∀ ls : Array Slot, lv_has ls 7 [(0, .ref (ad 0)), (1, .int p1), (2, .ref (ad (9 + p2))), (3, .int p3), (4, .int v4_6), (5, .int v5_6), (6, .int v6_26)] → W p l e (headSpec wsX3_countHours ({ frames := 3, cells := 0, slots := 0, locals := 75 })).room s m ([.ref (ad 0), .int p1, .ref (ad (9 + p2)), .int p3] : List Value).toArray below meth c H locs 0 0 (MQ below (QWi 41 (eC ad) ad D T (CA 41 ad sz)) ([.ref (ad 0), .int p1, .ref (ad (9 + p2)), .int p3] : List Value).toArray s 0 0 (CA 41 ad sz)) (F0 m 26 ls []) := by
          intro n
          induction n with
          | zero => intro _ _ _ _ hm; exact absurd hm (Nat.not_lt_zero _)
          | succ n ih26 =>
            intro res26 v6_26 S_26 hI26 hm26 hG hex26 H locs w ls hl
            obtain ⟨hok, i26_1⟩ := id hI26
            have okf0 := hok.1
            have okf1 := hok.2.1
            have okf2 := hok.2.2.1
            have okf3 := hok.2.2.2.1
            have okf4 := hok.2.2.2.2.1
            have okf5 := hok.2.2.2.2.2
            rw [lp_X3_countHours_26] at hG
            refine lv_iload hx hb dX3_countHours_26 (lv_at hl 6 rfl) ?_
            refine lv_bipush (v := 10) hx hb dX3_countHours_28 (by decide) ?_
            refine lv_icmp_ge (tgt := 77) hx hb dX3_countHours_30 (by decide) (fun c30 => ?_) (fun c30 => ?_)
            · have t30 : 10 ≤ v6_26.toInt := qt_le c30
              rw [if_pos c30] at hG
              exact hex26 S_26 hok hG.symm _ _ w ls (lv_sub hl [0, 1, 2, 3, 4, 5] rfl)
            · have t30 : v6_26.toInt < 10 := qt_nle c30
              rw [if_neg c30] at hG
              refine lv_aload_n hx hb dX3_countHours_33 rfl (lv_at hl 0 rfl) ?_
              refine lv_aload_n hx hb dX3_countHours_34 rfl (lv_at hl 0 rfl) ?_
              refine r_get (C := RX3) (T := TX3) (N := 14) S hK w (k := 0) (by decide) (eC_0 ad _) rfl hinX3 1 (by decide) (List.mem_of_getElem? (i := 3) rfl) rfl dX3_countHours_35 ?_
              refine lv_iload hx hb dX3_countHours_38 (lv_at hl 5 rfl) ?_
              have g40 : vp_in v5_6 8 := vpi (by omega) (by omega)
              refine r_aald S hK w (k := 2) (by decide) (eC_2 ad _) (t0 := 2) rfl g40 dX3_countHours_40 ?_
              refine lv_iload hx hb dX3_countHours_41 (lv_at hl 6 rfl) ?_
              refine lv_iload hx hb dX3_countHours_43 (lv_at hl 6 rfl) ?_
              refine lv_iload_n hx hb dX3_countHours_45 rfl (lv_at hl 1 rfl) ?_
              refine lv_imul hx hb dX3_countHours_46 ?_
              refine lv_iadd hx hb dX3_countHours_47 ?_
              refine lv_aload_n hx hb dX3_countHours_48 rfl (lv_at hl 2 rfl) ?_
              refine lv_iload_n hx hb dX3_countHours_49 rfl (lv_at hl 3 rfl) ?_
              refine call0i (va_runV (As := [.ref (ad (17 + (ix v5_6))), .int (v6_26 + (v6_26 * p1)), .ref (ad (9 + p2)), .int p3]) (rest := []) S (c_X3_leftFrom l ad D H.size S_26 (ix v5_6) (v6_26 + (v6_26 * p1)) p2 p3 hok (vpl g40) hp2 (by omega)) (cwV 4 S.2.2.2.2 gX3_countHours_X3_leftFrom rfl rfl rfl ⟨rfl, hd_X3_leftFrom⟩ ⟨Nat.le_of_ble_eq_true rfl, Nat.le_of_ble_eq_true rfl⟩) (preV hK hN w (k := 0) (by decide) (eC_0 ad _) (q := (RX3, TX3, 14)) rfl) rfl rfl hl.1 rfl (lv_room (Nat.le_of_ble_eq_true rfl)) dX3_countHours_50 ⟨Nat.zero_le _, Nat.zero_le _⟩) ?_
              refine lv_aload_n hx hb dX3_countHours_53 rfl (lv_at hl 0 rfl) ?_
              refine r_get (C := RX3) (T := TX3) (N := 14) S hK w (k := 0) (by decide) (eC_0 ad _) rfl hinX3 7 (by decide) (List.mem_of_getElem? (i := 4) rfl) rfl dX3_countHours_54 ?_
              refine lv_icmp_gt (tgt := 71) hx hb dX3_countHours_57 (by decide) (fun c57 => ?_) (fun c57 => ?_)
              · have t57 : (S_26 0 7).toInt < (f_X3_leftFrom S_26 (ix v5_6) (v6_26 + (v6_26 * p1)) p2 p3).toInt := qt_lt c57
                rw [if_pos c57] at hG
                refine lv_iinc (v := (v6_26 + 1)) (lv' := [(6, .int (v6_26 + 1)), (0, .ref (ad 0)), (1, .int p1), (2, .ref (ad (9 + p2))), (3, .int p3), (4, .int v4_6), (5, .int v5_6)]) hx hb dX3_countHours_71 hl (k := 6) rfl rfl (by decide) rfl (fun ls hl => ?_)
                refine lv_goto (tgt := 26) hx hb dX3_countHours_74 (by decide) ?_
                have b6_26 : (v6_26 + 1).toInt = v6_26.toInt + 1 := inc_toInt (by omega) (by omega)
                exact ih26 _ (v6_26 + 1) S_26 ⟨hok, (by omega)⟩ (by omega) hG hex26 _ _ w ls (lv_sub hl [1, 2, 3, 4, 5, 6, 0] rfl)
              · have t57 : (f_X3_leftFrom S_26 (ix v5_6) (v6_26 + (v6_26 * p1)) p2 p3).toInt ≤ (S_26 0 7).toInt := qt_nlt c57
                rw [if_neg c57] at hG
                refine lv_aload_n hx hb dX3_countHours_60 rfl (lv_at hl 0 rfl) ?_
                refine r_get (C := RX3) (T := TX3) (N := 14) S hK w (k := 0) (by decide) (eC_0 ad _) rfl hinX3 12 (by decide) (List.mem_of_getElem? (i := 2) rfl) rfl dX3_countHours_61 ?_
                refine lv_iload hx hb dX3_countHours_64 (lv_at hl 5 rfl) ?_
                refine lv_dup2_11 hx hb dX3_countHours_66 rfl rfl ?_
                have g67 : vp_in v5_6 8 := vpi (by omega) (by omega)
                refine r_iald (cA := ad 100) (N := 8) S hK w (k := 7) (by decide) (fun f => eC_7 ad f) rfl g67 dX3_countHours_67 ?_
                refine lv_iconst (v := 1) hx hb dX3_countHours_68 (by decide) ?_
                refine lv_iadd hx hb dX3_countHours_69 ?_
                have g70 : vp_in v5_6 8 := vpi (by omega) (by omega)
                refine r_iast (cA := ad 100) (N := 8) S hK w (k := 7) (by decide) (fun f => eC_7 ad f) rfl g70 dX3_countHours_70 (fun H locs w => ?_)
                have hok : OkC (u2 S_26 7 (ix v5_6) ((S_26 7 (ix v5_6)) + 1)) := okC_scr (show scrC 7 by unfold scrC; omega) hok
                have okf0 := hok.1
                have okf1 := hok.2.1
                have okf2 := hok.2.2.1
                have okf3 := hok.2.2.2.1
                have okf4 := hok.2.2.2.2.1
                have okf5 := hok.2.2.2.2.2
                refine lv_iinc (v := (v6_26 + 1)) (lv' := [(6, .int (v6_26 + 1)), (0, .ref (ad 0)), (1, .int p1), (2, .ref (ad (9 + p2))), (3, .int p3), (4, .int v4_6), (5, .int v5_6)]) hx hb dX3_countHours_71 hl (k := 6) rfl rfl (by decide) rfl (fun ls hl => ?_)
                refine lv_goto (tgt := 26) hx hb dX3_countHours_74 (by decide) ?_
                have b6_26 : (v6_26 + 1).toInt = v6_26.toInt + 1 := inc_toInt (by omega) (by omega)
                exact ih26 _ (v6_26 + 1) (u2 S_26 7 (ix v5_6) ((S_26 7 (ix v5_6)) + 1)) ⟨hok, (by omega)⟩ (by omega) hG hex26 _ _ w ls (lv_sub hl [1, 2, 3, 4, 5, 6, 0] rfl)
        refine L26 200 _ 0 (u2 S_6 7 (ix v5_6) 0) ⟨hok, (by omega)⟩ (by omega) rfl (fun S_26e hok hr26 H locs w ls hl => ?_) _ _ w ls (lv_sub hl [1, 2, 3, 4, 5, 6, 0] rfl)
        rw [hr26] at hG
        have okf0 := hok.1
        have okf1 := hok.2.1
        have okf2 := hok.2.2.1
        have okf3 := hok.2.2.2.1
        have okf4 := hok.2.2.2.2.1
        have okf5 := hok.2.2.2.2.2
        refine lv_iload hx hb dX3_countHours_77 (lv_at hl 4 rfl) ?_
        refine lv_aload_n hx hb dX3_countHours_79 rfl (lv_at hl 0 rfl) ?_
        refine r_get (C := RX3) (T := TX3) (N := 14) S hK w (k := 0) (by decide) (eC_0 ad _) rfl hinX3 12 (by decide) (List.mem_of_getElem? (i := 2) rfl) rfl dX3_countHours_80 ?_
        refine lv_iload hx hb dX3_countHours_83 (lv_at hl 5 rfl) ?_
        have g85 : vp_in v5_6 8 := vpi (by omega) (by omega)
        refine r_iald (cA := ad 100) (N := 8) S hK w (k := 7) (by decide) (fun f => eC_7 ad f) rfl g85 dX3_countHours_85 ?_
        refine lv_iadd hx hb dX3_countHours_86 ?_
        refine lv_istore (lv' := [(4, .int (v4_6 + (S_26e 7 (ix v5_6)))), (0, .ref (ad 0)), (1, .int p1), (2, .ref (ad (9 + p2))), (3, .int p3), (5, .int v5_6)]) hx hb dX3_countHours_87 hl (by decide) rfl (fun ls hl => ?_)
        refine lv_iinc (v := (v5_6 + 1)) (lv' := [(5, .int (v5_6 + 1)), (4, .int (v4_6 + (S_26e 7 (ix v5_6)))), (0, .ref (ad 0)), (1, .int p1), (2, .ref (ad (9 + p2))), (3, .int p3)]) hx hb dX3_countHours_89 hl (k := 5) rfl rfl (by decide) rfl (fun ls hl => ?_)
        refine lv_goto (tgt := 6) hx hb dX3_countHours_92 (by decide) ?_
        have b5_6 : (v5_6 + 1).toInt = v5_6.toInt + 1 := inc_toInt (by omega) (by omega)
        exact ih6 _ (v4_6 + (S_26e 7 (ix v5_6))) (v5_6 + 1) S_26e ⟨hok, (by omega)⟩ (by omega) hG hex6 _ _ w ls (lv_sub hl [2, 3, 4, 5, 1, 0] rfl)
  refine L6 200 _ 0 0 σ ⟨hok, (by omega)⟩ (by omega) rfl (fun v4_6e S_6e hok hr6 H locs w ls hl => ?_) _ _ w ls (lv_sub hl [2, 3, 4, 5, 1, 0] rfl)
  rw [hr6] at hG
  dsimp only at hG
  have okf0 := hok.1
  have okf1 := hok.2.1
  have okf2 := hok.2.2.1
  have okf3 := hok.2.2.2.1
  have okf4 := hok.2.2.2.2.1
  have okf5 := hok.2.2.2.2.2
  refine lv_iload hx hb dX3_countHours_95 (lv_at hl 1 rfl) ?_
  exact endWi S hr hlocks w hG dX3_countHours_97
set_option maxHeartbeats 4000000 in
set_option maxRecDepth 100000 in
theorem c_X3_ofShare (l : Launch) (p1 : Int32) (p2 : Int32) (p3 : Int32) (hb1 : p2.toInt ≤ 100) : Met l yX3_ofShare wsX3_ofShare ({ frames := 0, cells := 0, slots := 0, locals := 0 }) (Pre0 ([.int p1, .int p2, .int p3] : List Value)) (Q0i (f_X3_ofShare p1 p2 p3)) 0 0 N0 := by
  generalize hG : f_X3_ofShare p1 p2 p3 = T
  refine head0 (cc := cX3_ofShare) (maxL := 5) (ret := (some .int)) ([.int p1, .int p2, .int p3] : List Value) (by decide) rfl (Nat.le_of_ble_eq_true rfl) ?_
  intro p e s m below meth c S hr hlocks ls hl
  have S : CallFix p m c cX3_ofShare 5 s ([.int p1, .int p2, .int p3] : List Value).toArray wsX3_ofShare RX3 := S
  have hx := S.1
  have hb := S.2.1
  have z0 : (0 : Int32).toInt = 0 := by decide
  have z1 : (1 : Int32).toInt = 1 := by decide
  have hl : lv_has ls 5 [(0, .int p1), (1, .int p2), (2, .int p3)] := hl
  rw [f_X3_ofShare] at hG
  refine lv_iload_n hx hb dX3_ofShare_0 rfl (lv_at hl 2 rfl) ?_
  have J1_9 : ∀ (k0_1_9 : Int32), (match (lp_X3_ofShare_13 p1 p2 k0_1_9 200 p2) with | Sum.inl r => r | Sum.inr _ => k0_1_9) = T → ∀ ls : Array Slot, lv_has ls 5 [(0, .int p1), (1, .int p2)] → W p l e (headSpec wsX3_ofShare ({ frames := 0, cells := 0, slots := 0, locals := 0 })).room s m ([.int p1, .int p2, .int p3] : List Value).toArray below meth c s.heap [] 0 0 (MQ below (Q0i T) ([.int p1, .int p2, .int p3] : List Value).toArray s 0 0 N0) (F0 m 9 ls [.int k0_1_9]) := by
    intro k0_1_9 hG ls hl
    refine lv_istore_n (lv' := [(3, .int k0_1_9), (0, .int p1), (1, .int p2)]) hx hb dX3_ofShare_9 rfl hl (by decide) rfl (fun ls hl => ?_)
    refine lv_iload_n hx hb dX3_ofShare_10 rfl (lv_at hl 2 rfl) ?_
    refine lv_istore (lv' := [(4, .int p2), (3, .int k0_1_9), (0, .int p1), (1, .int p2)]) hx hb dX3_ofShare_11 hl (by decide) rfl (fun ls hl => ?_)
    have L13 : ∀ (n : Nat) (res13 : (Int32) ⊕ (Unit)), ∀ (v4_13 : Int32), ((v4_13.toInt ≤ 100)) → v4_13.toInt.toNat < n → (lp_X3_ofShare_13 p1 p2 k0_1_9 n v4_13) = res13 → (∀ r : Int32, res13 = Sum.inl r → r = T) → (res13 = Sum.inr () → ∀ ls : Array Slot, lv_has ls 5 [(3, .int k0_1_9)] → W p l e (headSpec wsX3_ofShare ({ frames := 0, cells := 0, slots := 0, locals := 0 })).room s m ([.int p1, .int p2, .int p3] : List Value).toArray below meth c s.heap [] 0 0 (MQ below (Q0i T) ([.int p1, .int p2, .int p3] : List Value).toArray s 0 0 N0) (F0 m 44 ls [])) → ∀ ls : Array Slot, lv_has ls 5 [(0, .int p1), (1, .int p2), (3, .int k0_1_9), (4, .int v4_13)] → W p l e (headSpec wsX3_ofShare ({ frames := 0, cells := 0, slots := 0, locals := 0 })).room s m ([.int p1, .int p2, .int p3] : List Value).toArray below meth c s.heap [] 0 0 (MQ below (Q0i T) ([.int p1, .int p2, .int p3] : List Value).toArray s 0 0 N0) (F0 m 13 ls []) := by
      intro n
      induction n with
      | zero => intro _ _ _ hm; exact absurd hm (Nat.not_lt_zero _)
      | succ n ih13 =>
        intro res13 v4_13 hI13 hm13 hG hret13 hex13 ls hl
        have i13_0 := hI13
        rw [lp_X3_ofShare_13] at hG
        refine lv_iload hx hb dX3_ofShare_13 (lv_at hl 3 rfl) ?_
        refine lv_iconst (v := 1) hx hb dX3_ofShare_15 (by decide) ?_
        refine lv_icmp_le (tgt := 44) hx hb dX3_ofShare_16 (by decide) (fun c16 => ?_) (fun c16 => ?_)
        · have t16 : v4_13.toInt ≤ 1 := qt_le c16
          rw [if_pos c16] at hG
          exact hex13  hG.symm ls (lv_sub hl [2] rfl)
        · have t16 : 1 < v4_13.toInt := qt_nle c16
          rw [if_neg c16] at hG
          refine lv_iload_n hx hb dX3_ofShare_19 rfl (lv_at hl 0 rfl) ?_
          refine lv_iload hx hb dX3_ofShare_20 (lv_at hl 3 rfl) ?_
          refine lv_irem hx hb dX3_ofShare_22 (by intro q; rw [q] at t16; revert t16; decide) ?_
          refine lv_if_ne (tgt := 38) hx hb dX3_ofShare_23 (by decide) (fun c23 => ?_) (fun c23 => ?_)
          · have t23 : (p1 - (p1 / v4_13) * v4_13).toInt ≠ 0 := qt_ne c23
            rw [if_neg c23] at hG
            refine lv_iinc (v := (v4_13 + (-1))) (lv' := [(4, .int (v4_13 + (-1))), (0, .int p1), (1, .int p2), (3, .int k0_1_9)]) hx hb dX3_ofShare_38 hl (k := 3) rfl rfl (by decide) rfl (fun ls hl => ?_)
            refine lv_goto (tgt := 13) hx hb dX3_ofShare_41 (by decide) ?_
            have b4 := dec_toInt (a := v4_13) (by omega) (by omega)
            exact ih13 _ (v4_13 + (-1)) (by omega) (by omega) hG hret13 hex13 ls (lv_sub hl [1, 2, 3, 0] rfl)
          · have t23 : (p1 - (p1 / v4_13) * v4_13).toInt = 0 := qt_eq c23
            rw [if_pos c23] at hG
            refine lv_iload_n hx hb dX3_ofShare_26 rfl (lv_at hl 1 rfl) ?_
            refine lv_iload hx hb dX3_ofShare_27 (lv_at hl 3 rfl) ?_
            refine lv_irem hx hb dX3_ofShare_29 (by intro q; rw [q] at t16; revert t16; decide) ?_
            refine lv_if_ne (tgt := 38) hx hb dX3_ofShare_30 (by decide) (fun c30 => ?_) (fun c30 => ?_)
            · have t30 : (p2 - (p2 / v4_13) * v4_13).toInt ≠ 0 := qt_ne c30
              rw [if_neg c30] at hG
              refine lv_iinc (v := (v4_13 + (-1))) (lv' := [(4, .int (v4_13 + (-1))), (0, .int p1), (1, .int p2), (3, .int k0_1_9)]) hx hb dX3_ofShare_38 hl (k := 3) rfl rfl (by decide) rfl (fun ls hl => ?_)
              refine lv_goto (tgt := 13) hx hb dX3_ofShare_41 (by decide) ?_
              have b4 := dec_toInt (a := v4_13) (by omega) (by omega)
              exact ih13 _ (v4_13 + (-1)) (by omega) (by omega) hG hret13 hex13 ls (lv_sub hl [1, 2, 3, 0] rfl)
            · have t30 : (p2 - (p2 / v4_13) * v4_13).toInt = 0 := qt_eq c30
              rw [if_pos c30] at hG
              refine lv_iload_n hx hb dX3_ofShare_33 rfl (lv_at hl 2 rfl) ?_
              refine lv_iload hx hb dX3_ofShare_34 (lv_at hl 3 rfl) ?_
              refine lv_idiv hx hb dX3_ofShare_36 (by intro q; rw [q] at t16; revert t16; decide) ?_
              exact end0i S hr hlocks (hret13 _ hG.symm) dX3_ofShare_37
    refine L13 200 _ p2 (by omega) (by omega) rfl (fun r hr13 => by rw [hr13] at hG; exact hG) (fun hr13 ls hl => ?_) ls (lv_sub hl [2, 3, 1, 0] rfl)
    rw [hr13] at hG
    dsimp only at hG
    refine lv_iload_n hx hb dX3_ofShare_44 rfl (lv_at hl 0 rfl) ?_
    exact end0i S hr hlocks hG dX3_ofShare_45
  refine lv_if_ne (tgt := 8) hx hb dX3_ofShare_1 (by decide) (fun c1 => ?_) (fun c1 => ?_)
  · have t1 : p3.toInt ≠ 0 := qt_ne c1
    simp only [if_neg c1] at hG
    refine lv_iload_n hx hb dX3_ofShare_8 rfl (lv_at hl 1 rfl) ?_
    exact J1_9 p2 hG ls (lv_sub hl [0, 1] rfl)
  · have t1 : p3.toInt = 0 := qt_eq c1
    simp only [if_pos c1] at hG
    refine lv_iload_n hx hb dX3_ofShare_4 rfl (lv_at hl 0 rfl) ?_
    refine lv_goto (tgt := 9) hx hb dX3_ofShare_5 (by decide) ?_
    exact J1_9 p1 hG ls (lv_sub hl [0, 1] rfl)
set_option maxHeartbeats 4000000 in
set_option maxRecDepth 100000 in
theorem c_X3_odds (l : Launch) (ad : Nat → Nat) (D : va_G) (sz : Nat) (σ : St) (p1 : Int32) (p2 : Int32) (p3 : Int32) (p4 : Int32) (p5 : Int32) (p6 : Int32) (hok : OkC σ) : Met l yX3_odds wsX3_odds ({ frames := 4, cells := 0, slots := 0, locals := 101 }) (PreW 41 (eC ad) ad D (tyC ad) σ sz ([.ref (ad 0), .int p1, .int p2, .int p3, .int p4, .int p5, .int p6] : List Value)) (QWl 41 (eC ad) ad D (f_X3_odds σ p1 p2 p3 p4 p5 p6) (CA 41 ad sz)) 0 0 (CA 41 ad sz) := by
  generalize hG : f_X3_odds σ p1 p2 p3 p4 p5 p6 = T
  refine headW (cc := cX3_odds) (maxL := 8) (ret := (some .long)) ([.ref (ad 0), .int p1, .int p2, .int p3, .int p4, .int p5, .int p6] : List Value) (by decide) rfl (Nat.le_of_ble_eq_true rfl) ?_
  intro p e s m below meth c S hr hlocks hK hN hsz w ls hl
  have S : CallFix p m c cX3_odds 8 s ([.ref (ad 0), .int p1, .int p2, .int p3, .int p4, .int p5, .int p6] : List Value).toArray wsX3_odds RX3 := S
  have hx := S.1
  have hb := S.2.1
  have z0 : (0 : Int32).toInt = 0 := by decide
  have z1 : (1 : Int32).toInt = 1 := by decide
  have hl : lv_has ls 8 [(0, .ref (ad 0)), (1, .int p1), (2, .int p2), (3, .int p3), (4, .int p4), (5, .int p5), (6, .int p6)] := hl
  have hinX3 : ∀ w ∈ wsX30, w ∈ wsX3_odds := (fun _ h => List.mem_cons_of_mem _ (List.mem_append_left _ (List.mem_append_left _ (List.mem_append_right _ h))))
  have hinX1 : ∀ w ∈ wsX10, w ∈ wsX3_odds := (fun _ h => List.mem_cons_of_mem _ (List.mem_append_left _ (List.mem_append_right _ h)))
  have hinX2 : ∀ w ∈ wsX20, w ∈ wsX3_odds := (fun _ h => List.mem_cons_of_mem _ (List.mem_append_right _ h))
  have okf0 := hok.1
  have okf1 := hok.2.1
  have okf2 := hok.2.2.1
  have okf3 := hok.2.2.2.1
  have okf4 := hok.2.2.2.2.1
  have okf5 := hok.2.2.2.2.2
  rw [f_X3_odds] at hG
  refine lv_aload_n hx hb dX3_odds_0 rfl (lv_at hl 0 rfl) ?_
  refine lv_iconst (v := 0) hx hb dX3_odds_1 (by decide) ?_
  refine r_put (C := RX3) (T := TX3) (N := 14) S hK w (k := 0) (by decide) (eC_0 ad _) rfl hinX3 tyX3 tyX3_ok nmX3 9 (by decide) (List.mem_of_getElem? (i := 1) rfl) rfl (x := 0) (ty := .int) (by decide +kernel) rfl rfl (by show _ < List.length _; exact Nat.le_of_ble_eq_true rfl) (sO ad _ _ 9 (by decide)) dX3_odds_2 (fun H locs w => ?_)
  have hok : OkC (u2 σ 0 9 0) := okC_obj (by decide) hok
  have okf0 := hok.1
  have okf1 := hok.2.1
  have okf2 := hok.2.2.1
  have okf3 := hok.2.2.2.1
  have okf4 := hok.2.2.2.2.1
  have okf5 := hok.2.2.2.2.2
  refine lv_aload_n hx hb dX3_odds_5 rfl (lv_at hl 0 rfl) ?_
  refine lv_iload_n hx hb dX3_odds_6 rfl (lv_at hl 1 rfl) ?_
  refine call0i (va_runV (As := [.int p1]) (rest := []) S (c_X3_isSign l ad D H.size (u2 σ 0 9 0) p1) (cwV 1 S.2.2.2.2 gX3_odds_X3_isSign rfl rfl rfl ⟨rfl, hd_X3_isSign⟩ ⟨Nat.le_of_ble_eq_true rfl, Nat.le_of_ble_eq_true rfl⟩) (preV hK hN w (k := 0) (by decide) (eC_0 ad _) (q := (RX3, TX3, 14)) rfl) rfl rfl hl.1 rfl (lv_room (Nat.le_of_ble_eq_true rfl)) dX3_odds_7 ⟨Nat.zero_le _, Nat.zero_le _⟩) ?_
  refine lv_if_eq (tgt := 28) hx hb dX3_odds_10 (by decide) (fun c10 => ?_) (fun c10 => ?_)
  · rw [if_pos c10] at hG
    refine lv_ldc2 hx hb S.2.2.2.1 (S.2.2.2.2 _ (List.mem_of_getElem? (i := 3) rfl)) dX3_odds_28 ?_
    exact endWl S hr hlocks w hG dX3_odds_31
  · have t10 := bf_isSign_n c10
    rw [if_neg c10] at hG
    refine lv_aload_n hx hb dX3_odds_13 rfl (lv_at hl 0 rfl) ?_
    refine lv_iload_n hx hb dX3_odds_14 rfl (lv_at hl 3 rfl) ?_
    refine lv_iload hx hb dX3_odds_15 (lv_at hl 4 rfl) ?_
    refine lv_iload hx hb dX3_odds_17 (lv_at hl 5 rfl) ?_
    refine lv_ldc2 hx hb S.2.2.2.1 (S.2.2.2.2 _ (List.mem_of_getElem? (i := 2) rfl)) dX3_odds_19 ?_
    have ok3 := okf3
    refine callWi w (va_runV (As := [.int p3, .int p4, .int p5, .long 9]) (rest := []) S (c_X3_spanRefusal l ad D H.size (u2 σ 0 9 0) p3 p4 p5 9) (cwV 4 S.2.2.2.2 gX3_odds_X3_spanRefusal rfl rfl rfl ⟨rfl, hd_X3_spanRefusal⟩ ⟨Nat.le_of_ble_eq_true rfl, Nat.le_of_ble_eq_true rfl⟩) (preV hK hN w (k := 0) (by decide) (eC_0 ad _) (q := (RX3, TX3, 14)) rfl) rfl rfl hl.1 rfl (lv_room (Nat.le_of_ble_eq_true rfl)) dX3_odds_22 ⟨Nat.zero_le _, Nat.zero_le _⟩) (fun H locs w => ?_)
    have hok : OkC ((f_X3_spanRefusal (u2 σ 0 9 0) p3 p4 p5 9).2) := ok_X3_spanRefusal hok
    have okf0 := hok.1
    have okf1 := hok.2.1
    have okf2 := hok.2.2.1
    have okf3 := hok.2.2.2.1
    have okf4 := hok.2.2.2.2.1
    have okf5 := hok.2.2.2.2.2
    refine lv_if_eq (tgt := 32) hx hb dX3_odds_25 (by decide) (fun c25 => ?_) (fun c25 => ?_)
    · have t25 : ((f_X3_spanRefusal (u2 σ 0 9 0) p3 p4 p5 9).1).toInt = 0 := qt_eq c25
      rw [if_pos c25] at hG
      have z := sp_z c25
      have z9 : (9 : Int64).toInt = 9 := by decide
      have z3 := ok3 (ix p3) (vpl (vpi (by omega) (by omega)))
      refine lv_aload_n hx hb dX3_odds_32 rfl (lv_at hl 0 rfl) ?_
      refine r_get (C := RX3) (T := TX3) (N := 14) S hK w (k := 0) (by decide) (eC_0 ad _) rfl hinX3 0 (by decide) (List.mem_of_getElem? (i := 4) rfl) rfl dX3_odds_33 ?_
      refine lv_iload_n hx hb dX3_odds_36 rfl (lv_at hl 3 rfl) ?_
      have g37 : vp_in p3 4 := vpi (by omega) (by omega)
      refine r_aald S hK w (k := 1) (by decide) (eC_1 ad _) (t0 := 1) rfl g37 dX3_odds_37 ?_
      refine lv_iload hx hb dX3_odds_38 (lv_at hl 5 rfl) ?_
      refine lv_iload_n hx hb dX3_odds_40 rfl (lv_at hl 2 rfl) ?_
      refine call0i (va_runS (As := [.ref (ad (9 + (ix p3))), .int p5, .int p2]) (rest := []) S (c_X3_isDoor l ad D H.size ((f_X3_spanRefusal (u2 σ 0 9 0) p3 p4 p5 9).2) (ix p3) p5 p2 (vpl g37) (by omega)) (va_cwS 3 S.2.2.2.2 gX3_odds_X3_isDoor rfl rfl rfl hd_X3_isDoor ⟨Nat.le_of_ble_eq_true rfl, Nat.le_of_ble_eq_true rfl⟩) (preS hK hN w) rfl rfl hl.1 rfl (lv_room (Nat.le_of_ble_eq_true rfl)) dX3_odds_41 ⟨Nat.zero_le _, Nat.zero_le _⟩) ?_
      refine lv_if_eq (tgt := 58) hx hb dX3_odds_44 (by decide) (fun c44 => ?_) (fun c44 => ?_)
      · rw [if_pos c44] at hG
        refine lv_ldc2 hx hb S.2.2.2.1 (S.2.2.2.2 _ (List.mem_of_getElem? (i := 3) rfl)) dX3_odds_58 ?_
        exact endWl S hr hlocks w hG dX3_odds_61
      · rw [if_neg c44] at hG
        refine lv_iload hx hb dX3_odds_47 (lv_at hl 6 rfl) ?_
        refine lv_if_lt (tgt := 58) hx hb dX3_odds_49 (by decide) (fun c49 => ?_) (fun c49 => ?_)
        · have t49 : p6.toInt < 0 := qt_lt c49
          rw [if_pos c49] at hG
          refine lv_ldc2 hx hb S.2.2.2.1 (S.2.2.2.2 _ (List.mem_of_getElem? (i := 3) rfl)) dX3_odds_58 ?_
          exact endWl S hr hlocks w hG dX3_odds_61
        · have t49 : 0 ≤ p6.toInt := qt_nlt c49
          rw [if_neg c49] at hG
          refine lv_iload hx hb dX3_odds_52 (lv_at hl 6 rfl) ?_
          refine lv_iconst (v := 1) hx hb dX3_odds_54 (by decide) ?_
          refine lv_icmp_le (tgt := 62) hx hb dX3_odds_55 (by decide) (fun c55 => ?_) (fun c55 => ?_)
          · have t55 : p6.toInt ≤ 1 := qt_le c55
            rw [if_pos c55] at hG
            refine lv_aload_n hx hb dX3_odds_62 rfl (lv_at hl 0 rfl) ?_
            refine lv_iload_n hx hb dX3_odds_63 rfl (lv_at hl 2 rfl) ?_
            refine lv_aload_n hx hb dX3_odds_64 rfl (lv_at hl 0 rfl) ?_
            refine r_get (C := RX3) (T := TX3) (N := 14) S hK w (k := 0) (by decide) (eC_0 ad _) rfl hinX3 0 (by decide) (List.mem_of_getElem? (i := 4) rfl) rfl dX3_odds_65 ?_
            refine lv_iload_n hx hb dX3_odds_68 rfl (lv_at hl 3 rfl) ?_
            have g69 : vp_in p3 4 := vpi (by omega) (by omega)
            refine r_aald S hK w (k := 1) (by decide) (eC_1 ad _) (t0 := 1) rfl g69 dX3_odds_69 ?_
            refine lv_iload hx hb dX3_odds_70 (lv_at hl 5 rfl) ?_
            have z7 := fun (q : Nat) (a b : Int32) => ch_le (q := q) (a := a) (b := b) hok
            refine callWi w (va_runV (As := [.int p2, .ref (ad (9 + (ix p3))), .int p5]) (rest := []) S (c_X3_countHours l ad D H.size ((f_X3_spanRefusal (u2 σ 0 9 0) p3 p4 p5 9).2) p2 (ix p3) p5 hok (vpl g69) (by omega)) (cwV 3 S.2.2.2.2 gX3_odds_X3_countHours rfl rfl rfl ⟨rfl, hd_X3_countHours⟩ ⟨Nat.le_of_ble_eq_true rfl, Nat.le_of_ble_eq_true rfl⟩) (preV hK hN w (k := 0) (by decide) (eC_0 ad _) (q := (RX3, TX3, 14)) rfl) rfl rfl hl.1 rfl (lv_room (Nat.le_of_ble_eq_true rfl)) dX3_odds_72 ⟨Nat.zero_le _, Nat.zero_le _⟩) (fun H locs w => ?_)
            refine lv_istore (lv' := [(7, .int ((f_X3_countHours ((f_X3_spanRefusal (u2 σ 0 9 0) p3 p4 p5 9).2) p2 (ix p3) p5).1)), (0, .ref (ad 0)), (1, .int p1), (2, .int p2), (3, .int p3), (4, .int p4), (5, .int p5), (6, .int p6)]) hx hb dX3_odds_75 hl (by decide) rfl (fun ls hl => ?_)
            refine lv_iload hx hb dX3_odds_77 (lv_at hl 0 rfl) ?_
            refine lv_if_ne (tgt := 86) hx hb dX3_odds_79 (by decide) (fun c79 => ?_) (fun c79 => ?_)
            · have t79 : ((f_X3_countHours ((f_X3_spanRefusal (u2 σ 0 9 0) p3 p4 p5 9).2) p2 (ix p3) p5).1).toInt ≠ 0 := qt_ne c79
              rw [if_neg c79] at hG
              refine lv_aload_n hx hb dX3_odds_86 rfl (lv_at hl 1 rfl) ?_
              refine r_get (C := RX3) (T := TX3) (N := 14) S hK w (k := 0) (by decide) (eC_0 ad _) rfl hinX3 12 (by decide) (List.mem_of_getElem? (i := 5) rfl) rfl dX3_odds_87 ?_
              refine lv_iload_n hx hb dX3_odds_90 rfl (lv_at hl 2 rfl) ?_
              have g91 : vp_in p1 8 := vpi (by omega) (by omega)
              refine r_iald (cA := ad 100) (N := 8) S hK w (k := 7) (by decide) (fun f => eC_7 ad f) rfl g91 dX3_odds_91 ?_
              refine lv_iload hx hb dX3_odds_92 (lv_at hl 0 rfl) ?_
              refine lv_iload hx hb dX3_odds_94 (lv_at hl 7 rfl) ?_
              refine call0i (va_runS (As := [.int (((f_X3_countHours ((f_X3_spanRefusal (u2 σ 0 9 0) p3 p4 p5 9).2) p2 (ix p3) p5).2) 7 (ix p1)), .int ((f_X3_countHours ((f_X3_spanRefusal (u2 σ 0 9 0) p3 p4 p5 9).2) p2 (ix p3) p5).1), .int p6]) (rest := []) S (c_X3_ofShare l (((f_X3_countHours ((f_X3_spanRefusal (u2 σ 0 9 0) p3 p4 p5 9).2) p2 (ix p3) p5).2) 7 (ix p1)) ((f_X3_countHours ((f_X3_spanRefusal (u2 σ 0 9 0) p3 p4 p5 9).2) p2 (ix p3) p5).1) p6 (z7 _ _ _).2) (va_cwS 3 S.2.2.2.2 gX3_odds_X3_ofShare rfl rfl rfl hd_X3_ofShare ⟨Nat.le_of_ble_eq_true rfl, Nat.le_of_ble_eq_true rfl⟩) pre0S rfl rfl hl.1 rfl (lv_room (Nat.le_of_ble_eq_true rfl)) dX3_odds_96 ⟨Nat.zero_le _, Nat.zero_le _⟩) ?_
              refine lv_i2l hx hb dX3_odds_99 rfl ?_
              exact endWl S hr hlocks w hG dX3_odds_100
            · have t79 : ((f_X3_countHours ((f_X3_spanRefusal (u2 σ 0 9 0) p3 p4 p5 9).2) p2 (ix p3) p5).1).toInt = 0 := qt_eq c79
              rw [if_pos c79] at hG
              refine lv_ldc2 hx hb S.2.2.2.1 (S.2.2.2.2 _ (List.mem_of_getElem? (i := 3) rfl)) dX3_odds_82 ?_
              exact endWl S hr hlocks w hG dX3_odds_85
          · have t55 : 1 < p6.toInt := qt_nle c55
            rw [if_neg c55] at hG
            refine lv_ldc2 hx hb S.2.2.2.1 (S.2.2.2.2 _ (List.mem_of_getElem? (i := 3) rfl)) dX3_odds_58 ?_
            exact endWl S hr hlocks w hG dX3_odds_61
    · have t25 : ((f_X3_spanRefusal (u2 σ 0 9 0) p3 p4 p5 9).1).toInt ≠ 0 := qt_ne c25
      rw [if_neg c25] at hG
      refine lv_ldc2 hx hb S.2.2.2.1 (S.2.2.2.2 _ (List.mem_of_getElem? (i := 3) rfl)) dX3_odds_28 ?_
      exact endWl S hr hlocks w hG dX3_odds_31
set_option maxHeartbeats 4000000 in
set_option maxRecDepth 100000 in
theorem c_X3_who (l : Launch) (ad : Nat → Nat) (D : va_G) (sz : Nat) (σ : St) (p1 : Int32) (p2 : Int32) (p3 : Int32) (p4 : Int32) (hok : OkC σ) : Met l yX3_who wsX3_who ({ frames := 4, cells := 0, slots := 0, locals := 101 }) (PreW 41 (eC ad) ad D (tyC ad) σ sz ([.ref (ad 0), .int p1, .int p2, .int p3, .int p4] : List Value)) (QWi 41 (eC ad) ad D (f_X3_who σ p1 p2 p3 p4) (CA 41 ad sz)) 0 0 (CA 41 ad sz) := by
  generalize hG : f_X3_who σ p1 p2 p3 p4 = T
  refine headW (cc := cX3_who) (maxL := 9) (ret := (some .int)) ([.ref (ad 0), .int p1, .int p2, .int p3, .int p4] : List Value) (by decide) rfl (Nat.le_of_ble_eq_true rfl) ?_
  intro p e s m below meth c S hr hlocks hK hN hsz w ls hl
  have S : CallFix p m c cX3_who 9 s ([.ref (ad 0), .int p1, .int p2, .int p3, .int p4] : List Value).toArray wsX3_who RX3 := S
  have hx := S.1
  have hb := S.2.1
  have z0 : (0 : Int32).toInt = 0 := by decide
  have z1 : (1 : Int32).toInt = 1 := by decide
  have hl : lv_has ls 9 [(0, .ref (ad 0)), (1, .int p1), (2, .int p2), (3, .int p3), (4, .int p4)] := hl
  have hinX3 : ∀ w ∈ wsX30, w ∈ wsX3_who := (fun _ h => List.mem_cons_of_mem _ (List.mem_append_left _ (List.mem_append_left _ (List.mem_append_right _ h))))
  have hinX1 : ∀ w ∈ wsX10, w ∈ wsX3_who := (fun _ h => List.mem_cons_of_mem _ (List.mem_append_left _ (List.mem_append_right _ h)))
  have hinX2 : ∀ w ∈ wsX20, w ∈ wsX3_who := (fun _ h => List.mem_cons_of_mem _ (List.mem_append_right _ h))
  have okf0 := hok.1
  have okf1 := hok.2.1
  have okf2 := hok.2.2.1
  have okf3 := hok.2.2.2.1
  have okf4 := hok.2.2.2.2.1
  have okf5 := hok.2.2.2.2.2
  rw [f_X3_who] at hG
  refine lv_aload_n hx hb dX3_who_0 rfl (lv_at hl 0 rfl) ?_
  refine lv_iload_n hx hb dX3_who_1 rfl (lv_at hl 2 rfl) ?_
  refine lv_iload_n hx hb dX3_who_2 rfl (lv_at hl 3 rfl) ?_
  refine lv_iload hx hb dX3_who_3 (lv_at hl 4 rfl) ?_
  refine lv_ldc2 hx hb S.2.2.2.1 (S.2.2.2.2 _ (List.mem_of_getElem? (i := 1) rfl)) dX3_who_5 ?_
  have ok3 := okf3
  refine callWi w (va_runV (As := [.int p2, .int p3, .int p4, .long 9]) (rest := []) S (c_X3_spanRefusal l ad D s.heap.size σ p2 p3 p4 9) (cwV 4 S.2.2.2.2 gX3_who_X3_spanRefusal rfl rfl rfl ⟨rfl, hd_X3_spanRefusal⟩ ⟨Nat.le_of_ble_eq_true rfl, Nat.le_of_ble_eq_true rfl⟩) (preV hK hN w (k := 0) (by decide) (eC_0 ad _) (q := (RX3, TX3, 14)) rfl) rfl rfl hl.1 rfl (lv_room (Nat.le_of_ble_eq_true rfl)) dX3_who_8 ⟨Nat.zero_le _, Nat.zero_le _⟩) (fun H locs w => ?_)
  have hok : OkC ((f_X3_spanRefusal σ p2 p3 p4 9).2) := ok_X3_spanRefusal hok
  have okf0 := hok.1
  have okf1 := hok.2.1
  have okf2 := hok.2.2.1
  have okf3 := hok.2.2.2.1
  have okf4 := hok.2.2.2.2.1
  have okf5 := hok.2.2.2.2.2
  refine lv_istore (lv' := [(5, .int ((f_X3_spanRefusal σ p2 p3 p4 9).1)), (0, .ref (ad 0)), (1, .int p1), (2, .int p2), (3, .int p3), (4, .int p4)]) hx hb dX3_who_11 hl (by decide) rfl (fun ls hl => ?_)
  refine lv_iload hx hb dX3_who_13 (lv_at hl 0 rfl) ?_
  refine lv_if_eq (tgt := 21) hx hb dX3_who_15 (by decide) (fun c15 => ?_) (fun c15 => ?_)
  · have t15 : ((f_X3_spanRefusal σ p2 p3 p4 9).1).toInt = 0 := qt_eq c15
    rw [if_pos c15] at hG
    have z := sp_z c15
    have z9 : (9 : Int64).toInt = 9 := by decide
    have z3 := ok3 (ix p2) (vpl (vpi (by omega) (by omega)))
    refine lv_aload_n hx hb dX3_who_21 rfl (lv_at hl 1 rfl) ?_
    refine r_get (C := RX3) (T := TX3) (N := 14) S hK w (k := 0) (by decide) (eC_0 ad _) rfl hinX3 0 (by decide) (List.mem_of_getElem? (i := 2) rfl) rfl dX3_who_22 ?_
    refine lv_iload_n hx hb dX3_who_25 rfl (lv_at hl 3 rfl) ?_
    have g26 : vp_in p2 4 := vpi (by omega) (by omega)
    refine r_aald S hK w (k := 1) (by decide) (eC_1 ad _) (t0 := 1) rfl g26 dX3_who_26 ?_
    refine lv_iload hx hb dX3_who_27 (lv_at hl 5 rfl) ?_
    refine lv_iload_n hx hb dX3_who_29 rfl (lv_at hl 2 rfl) ?_
    refine call0i (va_runS (As := [.ref (ad (9 + (ix p2))), .int p4, .int p1]) (rest := []) S (c_X3_isDoor l ad D H.size ((f_X3_spanRefusal σ p2 p3 p4 9).2) (ix p2) p4 p1 (vpl g26) (by omega)) (va_cwS 3 S.2.2.2.2 gX3_who_X3_isDoor rfl rfl rfl hd_X3_isDoor ⟨Nat.le_of_ble_eq_true rfl, Nat.le_of_ble_eq_true rfl⟩) (preS hK hN w) rfl rfl hl.1 rfl (lv_room (Nat.le_of_ble_eq_true rfl)) dX3_who_30 ⟨Nat.zero_le _, Nat.zero_le _⟩) ?_
    refine lv_if_ne (tgt := 39) hx hb dX3_who_33 (by decide) (fun c33 => ?_) (fun c33 => ?_)
    · rw [if_neg c33] at hG
      refine lv_aload_n hx hb dX3_who_39 rfl (lv_at hl 1 rfl) ?_
      refine lv_iload_n hx hb dX3_who_40 rfl (lv_at hl 2 rfl) ?_
      refine lv_aload_n hx hb dX3_who_41 rfl (lv_at hl 1 rfl) ?_
      refine r_get (C := RX3) (T := TX3) (N := 14) S hK w (k := 0) (by decide) (eC_0 ad _) rfl hinX3 0 (by decide) (List.mem_of_getElem? (i := 2) rfl) rfl dX3_who_42 ?_
      refine lv_iload_n hx hb dX3_who_45 rfl (lv_at hl 3 rfl) ?_
      have g46 : vp_in p2 4 := vpi (by omega) (by omega)
      refine r_aald S hK w (k := 1) (by decide) (eC_1 ad _) (t0 := 1) rfl g46 dX3_who_46 ?_
      refine lv_iload hx hb dX3_who_47 (lv_at hl 5 rfl) ?_
      refine callWi w (va_runV (As := [.int p1, .ref (ad (9 + (ix p2))), .int p4]) (rest := []) S (c_X3_countHours l ad D H.size ((f_X3_spanRefusal σ p2 p3 p4 9).2) p1 (ix p2) p4 hok (vpl g46) (by omega)) (cwV 3 S.2.2.2.2 gX3_who_X3_countHours rfl rfl rfl ⟨rfl, hd_X3_countHours⟩ ⟨Nat.le_of_ble_eq_true rfl, Nat.le_of_ble_eq_true rfl⟩) (preV hK hN w (k := 0) (by decide) (eC_0 ad _) (q := (RX3, TX3, 14)) rfl) rfl rfl hl.1 rfl (lv_room (Nat.le_of_ble_eq_true rfl)) dX3_who_49 ⟨Nat.zero_le _, Nat.zero_le _⟩) (fun H locs w => ?_)
      have hok : OkC ((f_X3_countHours ((f_X3_spanRefusal σ p2 p3 p4 9).2) p1 (ix p2) p4).2) := ok_X3_countHours hok
      have okf0 := hok.1
      have okf1 := hok.2.1
      have okf2 := hok.2.2.1
      have okf3 := hok.2.2.2.1
      have okf4 := hok.2.2.2.2.1
      have okf5 := hok.2.2.2.2.2
      refine lv_pop hx hb dX3_who_52 rfl ?_
      refine lv_bipush (v := (-9)) hx hb dX3_who_53 (by decide) ?_
      refine lv_istore (lv' := [(6, .int (-9)), (5, .int ((f_X3_spanRefusal σ p2 p3 p4 9).1)), (0, .ref (ad 0)), (1, .int p1), (2, .int p2), (3, .int p3), (4, .int p4)]) hx hb dX3_who_55 hl (by decide) rfl (fun ls hl => ?_)
      refine lv_iconst (v := 0) hx hb dX3_who_57 (by decide) ?_
      refine lv_istore (lv' := [(7, .int 0), (6, .int (-9)), (5, .int ((f_X3_spanRefusal σ p2 p3 p4 9).1)), (0, .ref (ad 0)), (1, .int p1), (2, .int p2), (3, .int p3), (4, .int p4)]) hx hb dX3_who_58 hl (by decide) rfl (fun ls hl => ?_)
      refine lv_iconst (v := 0) hx hb dX3_who_60 (by decide) ?_
      refine lv_istore (lv' := [(8, .int 0), (7, .int 0), (6, .int (-9)), (5, .int ((f_X3_spanRefusal σ p2 p3 p4 9).1)), (0, .ref (ad 0)), (1, .int p1), (2, .int p2), (3, .int p3), (4, .int p4)]) hx hb dX3_who_61 hl (by decide) rfl (fun ls hl => ?_)
      have L63 : ∀ (n : Nat) (res63 : Int32), ∀ (v6_63 : Int32), ∀ (v7_63 : Int32), ∀ (v8_63 : Int32), ((0 ≤ v8_63.toInt ∧ v8_63.toInt ≤ 8)) → (8 - v8_63.toInt).toNat < n → (lp_X3_who_63 ((f_X3_countHours ((f_X3_spanRefusal σ p2 p3 p4 9).2) p1 (ix p2) p4).2) n v6_63 v7_63 v8_63) = res63 → (∀ (v6_63e : Int32), res63 = v6_63e → ∀ (H : Heap) (locs : List Loc), CW 41 (eC ad) ad D (CA 41 ad sz) s.heap ((f_X3_countHours ((f_X3_spanRefusal σ p2 p3 p4 9).2) p1 (ix p2) p4).2) H locs → ∀ ls : Array Slot, lv_has ls 9 [(0, .ref (ad 0)), (6, .int v6_63e)] → W p l e (headSpec wsX3_who ({ frames := 4, cells := 0, slots := 0, locals := 101 })).room s m ([.ref (ad 0), .int p1, .int p2, .int p3, .int p4] : List Value).toArray below meth c H locs 0 0 (MQ below (QWi 41 (eC ad) ad D T (CA 41 ad sz)) ([.ref (ad 0), .int p1, .int p2, .int p3, .int p4] : List Value).toArray s 0 0 (CA 41 ad sz)) (F0 m 103 ls [])) → ∀ (H : Heap) (locs : List Loc), CW 41 (eC ad) ad D (CA 41 ad sz) s.heap ((f_X3_countHours ((f_X3_spanRefusal σ p2 p3 p4 9).2) p1 (ix p2) p4).2) H locs → ∀ ls : Array Slot, lv_has ls 9 [(0, .ref (ad 0)), (6, .int v6_63), (7, .int v7_63), (8, .int v8_63)] → W p l e (headSpec wsX3_who ({ frames := 4, cells := 0, slots := 0, locals := 101 })).room s m ([.ref (ad 0), .int p1, .int p2, .int p3, .int p4] : List Value).toArray below meth c H locs 0 0 (MQ below (QWi 41 (eC ad) ad D T (CA 41 ad sz)) ([.ref (ad 0), .int p1, .int p2, .int p3, .int p4] : List Value).toArray s 0 0 (CA 41 ad sz)) (F0 m 63 ls []) := by
        intro n
        induction n with
        | zero => intro _ _ _ _ _ hm; exact absurd hm (Nat.not_lt_zero _)
        | succ n ih63 =>
          intro res63 v6_63 v7_63 v8_63 hI63 hm63 hG hex63 H locs w ls hl
          have i63_0 := hI63
          rw [lp_X3_who_63] at hG
          refine lv_iload hx hb dX3_who_63 (lv_at hl 3 rfl) ?_
          refine lv_aload_n hx hb dX3_who_65 rfl (lv_at hl 0 rfl) ?_
          refine r_get (C := RX3) (T := TX3) (N := 14) S hK w (k := 0) (by decide) (eC_0 ad _) rfl hinX3 4 (by decide) (List.mem_of_getElem? (i := 3) rfl) rfl dX3_who_66 ?_
          refine lv_icmp_ge (tgt := 103) hx hb dX3_who_69 (by decide) (fun c69 => ?_) (fun c69 => ?_)
          · have t69 : (((f_X3_countHours ((f_X3_spanRefusal σ p2 p3 p4 9).2) p1 (ix p2) p4).2) 0 4).toInt ≤ v8_63.toInt := qt_le c69
            rw [if_pos c69] at hG
            exact hex63 v6_63 hG.symm _ _ w ls (lv_sub hl [0, 1] rfl)
          · have t69 : v8_63.toInt < (((f_X3_countHours ((f_X3_spanRefusal σ p2 p3 p4 9).2) p1 (ix p2) p4).2) 0 4).toInt := qt_nle c69
            rw [if_neg c69] at hG
            refine lv_aload_n hx hb dX3_who_72 rfl (lv_at hl 0 rfl) ?_
            refine r_get (C := RX3) (T := TX3) (N := 14) S hK w (k := 0) (by decide) (eC_0 ad _) rfl hinX3 12 (by decide) (List.mem_of_getElem? (i := 4) rfl) rfl dX3_who_73 ?_
            refine lv_iload hx hb dX3_who_76 (lv_at hl 3 rfl) ?_
            have g78 : vp_in v8_63 8 := vpi (by omega) (by omega)
            refine r_iald (cA := ad 100) (N := 8) S hK w (k := 7) (by decide) (fun f => eC_7 ad f) rfl g78 dX3_who_78 ?_
            refine lv_iload hx hb dX3_who_79 (lv_at hl 2 rfl) ?_
            refine lv_icmp_le (tgt := 97) hx hb dX3_who_81 (by decide) (fun c81 => ?_) (fun c81 => ?_)
            · have t81 : (((f_X3_countHours ((f_X3_spanRefusal σ p2 p3 p4 9).2) p1 (ix p2) p4).2) 7 (ix v8_63)).toInt ≤ v7_63.toInt := qt_le c81
              rw [if_pos c81] at hG
              refine lv_iinc (v := (v8_63 + 1)) (lv' := [(8, .int (v8_63 + 1)), (0, .ref (ad 0)), (6, .int v6_63), (7, .int v7_63)]) hx hb dX3_who_97 hl (k := 3) rfl rfl (by decide) rfl (fun ls hl => ?_)
              refine lv_goto (tgt := 63) hx hb dX3_who_100 (by decide) ?_
              have b8_63 : (v8_63 + 1).toInt = v8_63.toInt + 1 := inc_toInt (by omega) (by omega)
              exact ih63 _ v6_63 v7_63 (v8_63 + 1) (by omega) (by omega) hG hex63 _ _ w ls (lv_sub hl [1, 2, 3, 0] rfl)
            · have t81 : v7_63.toInt < (((f_X3_countHours ((f_X3_spanRefusal σ p2 p3 p4 9).2) p1 (ix p2) p4).2) 7 (ix v8_63)).toInt := qt_nle c81
              rw [if_neg c81] at hG
              refine lv_aload_n hx hb dX3_who_84 rfl (lv_at hl 0 rfl) ?_
              refine r_get (C := RX3) (T := TX3) (N := 14) S hK w (k := 0) (by decide) (eC_0 ad _) rfl hinX3 12 (by decide) (List.mem_of_getElem? (i := 4) rfl) rfl dX3_who_85 ?_
              refine lv_iload hx hb dX3_who_88 (lv_at hl 3 rfl) ?_
              have g90 : vp_in v8_63 8 := vpi (by omega) (by omega)
              refine r_iald (cA := ad 100) (N := 8) S hK w (k := 7) (by decide) (fun f => eC_7 ad f) rfl g90 dX3_who_90 ?_
              refine lv_istore (lv' := [(7, .int (((f_X3_countHours ((f_X3_spanRefusal σ p2 p3 p4 9).2) p1 (ix p2) p4).2) 7 (ix v8_63))), (0, .ref (ad 0)), (6, .int v6_63), (8, .int v8_63)]) hx hb dX3_who_91 hl (by decide) rfl (fun ls hl => ?_)
              refine lv_iload hx hb dX3_who_93 (lv_at hl 3 rfl) ?_
              refine lv_istore (lv' := [(6, .int v8_63), (7, .int (((f_X3_countHours ((f_X3_spanRefusal σ p2 p3 p4 9).2) p1 (ix p2) p4).2) 7 (ix v8_63))), (0, .ref (ad 0)), (8, .int v8_63)]) hx hb dX3_who_95 hl (by decide) rfl (fun ls hl => ?_)
              refine lv_iinc (v := (v8_63 + 1)) (lv' := [(8, .int (v8_63 + 1)), (6, .int v8_63), (7, .int (((f_X3_countHours ((f_X3_spanRefusal σ p2 p3 p4 9).2) p1 (ix p2) p4).2) 7 (ix v8_63))), (0, .ref (ad 0))]) hx hb dX3_who_97 hl (k := 3) rfl rfl (by decide) rfl (fun ls hl => ?_)
              refine lv_goto (tgt := 63) hx hb dX3_who_100 (by decide) ?_
              have b8_63 : (v8_63 + 1).toInt = v8_63.toInt + 1 := inc_toInt (by omega) (by omega)
              exact ih63 _ v8_63 (((f_X3_countHours ((f_X3_spanRefusal σ p2 p3 p4 9).2) p1 (ix p2) p4).2) 7 (ix v8_63)) (v8_63 + 1) (by omega) (by omega) hG hex63 _ _ w ls (lv_sub hl [3, 1, 2, 0] rfl)
      refine L63 200 _ (-9) 0 0 (by omega) (by omega) rfl (fun v6_63e hr63 H locs w ls hl => ?_) _ _ w ls (lv_sub hl [4, 2, 1, 0] rfl)
      rw [hr63] at hG
      refine lv_iload hx hb dX3_who_103 (lv_at hl 1 rfl) ?_
      exact endWi S hr hlocks w hG dX3_who_105
    · rw [if_pos c33] at hG
      refine lv_bipush (v := (-2)) hx hb dX3_who_36 (by decide) ?_
      exact endWi S hr hlocks w hG dX3_who_38
  · have t15 : ((f_X3_spanRefusal σ p2 p3 p4 9).1).toInt ≠ 0 := qt_ne c15
    rw [if_neg c15] at hG
    refine lv_iload hx hb dX3_who_18 (lv_at hl 0 rfl) ?_
    exact endWi S hr hlocks w hG dX3_who_20
set_option maxHeartbeats 4000000 in
set_option maxRecDepth 100000 in
theorem c_X3_sheet (l : Launch) (ad : Nat → Nat) (D : va_G) (sz : Nat) (σ : St) (p1 : Int32) (p2 : Int32) (p3 : Int32) : Met l yX3_sheet wsX3_sheet ({ frames := 2, cells := 0, slots := 0, locals := 45 }) (PreW 41 (eC ad) ad D (tyC ad) σ sz ([.ref (ad 0), .int p1, .int p2, .int p3] : List Value)) (QWi 41 (eC ad) ad D (f_X3_sheet σ p1 p2 p3) (CA 41 ad sz)) 0 0 (CA 41 ad sz) := by
  generalize hG : f_X3_sheet σ p1 p2 p3 = T
  refine headW (cc := cX3_sheet) (maxL := 4) (ret := (some .int)) ([.ref (ad 0), .int p1, .int p2, .int p3] : List Value) (by decide) rfl (Nat.le_of_ble_eq_true rfl) ?_
  intro p e s m below meth c S hr hlocks hK hN hsz w ls hl
  have S : CallFix p m c cX3_sheet 4 s ([.ref (ad 0), .int p1, .int p2, .int p3] : List Value).toArray wsX3_sheet RX3 := S
  have hx := S.1
  have hb := S.2.1
  have z0 : (0 : Int32).toInt = 0 := by decide
  have z1 : (1 : Int32).toInt = 1 := by decide
  have hl : lv_has ls 4 [(0, .ref (ad 0)), (1, .int p1), (2, .int p2), (3, .int p3)] := hl
  have hinX3 : ∀ w ∈ wsX30, w ∈ wsX3_sheet := (fun _ h => List.mem_cons_of_mem _ (List.mem_append_left _ (List.mem_append_right _ h)))
  have hinX1 : ∀ w ∈ wsX10, w ∈ wsX3_sheet := (fun _ h => List.mem_cons_of_mem _ (List.mem_append_right _ h))
  rw [f_X3_sheet] at hG
  refine lv_iload_n hx hb dX3_sheet_0 rfl (lv_at hl 1 rfl) ?_
  refine call0i (va_runS (As := [.int p1]) (rest := []) S (c_X3_isSheet l p1) (va_cwS 1 S.2.2.2.2 gX3_sheet_X3_isSheet rfl rfl rfl hd_X3_isSheet ⟨Nat.le_of_ble_eq_true rfl, Nat.le_of_ble_eq_true rfl⟩) pre0S rfl rfl hl.1 rfl (lv_room (Nat.le_of_ble_eq_true rfl)) dX3_sheet_1 ⟨Nat.zero_le _, Nat.zero_le _⟩) ?_
  refine lv_if_ne (tgt := 13) hx hb dX3_sheet_4 (by decide) (fun c4 => ?_) (fun c4 => ?_)
  · have t4 := bf_isSheet_n c4
    rw [if_neg c4] at hG
    refine lv_iload_n hx hb dX3_sheet_13 rfl (lv_at hl 2 rfl) ?_
    refine call0i (va_runS (As := [.int p2]) (rest := []) S (c_X3_isLane l p2) (va_cwS 1 S.2.2.2.2 gX3_sheet_X3_isLane rfl rfl rfl hd_X3_isLane ⟨Nat.le_of_ble_eq_true rfl, Nat.le_of_ble_eq_true rfl⟩) pre0S rfl rfl hl.1 rfl (lv_room (Nat.le_of_ble_eq_true rfl)) dX3_sheet_14 ⟨Nat.zero_le _, Nat.zero_le _⟩) ?_
    refine lv_if_eq (tgt := 26) hx hb dX3_sheet_17 (by decide) (fun c17 => ?_) (fun c17 => ?_)
    · rw [if_pos c17] at hG
      refine lv_aload_n hx hb dX3_sheet_26 rfl (lv_at hl 0 rfl) ?_
      refine lv_bipush (v := (-2)) hx hb dX3_sheet_27 (by decide) ?_
      refine callWi w (va_runV (As := [.int (-2)]) (rest := []) S (c_X3_refused l ad D s.heap.size σ (-2)) (cwV 1 S.2.2.2.2 gX3_sheet_X3_refused rfl rfl rfl ⟨rfl, hd_X3_refused⟩ ⟨Nat.le_of_ble_eq_true rfl, Nat.le_of_ble_eq_true rfl⟩) (preV hK hN w (k := 0) (by decide) (eC_0 ad _) (q := (RX3, TX3, 14)) rfl) rfl rfl hl.1 rfl (lv_room (Nat.le_of_ble_eq_true rfl)) dX3_sheet_29 ⟨Nat.zero_le _, Nat.zero_le _⟩) (fun H locs w => ?_)
      exact endWi S hr hlocks w hG dX3_sheet_32
    · rw [if_neg c17] at hG
      refine lv_iload_n hx hb dX3_sheet_20 rfl (lv_at hl 3 rfl) ?_
      refine lv_bipush (v := 90) hx hb dX3_sheet_21 (by decide) ?_
      refine lv_icmp_le (tgt := 33) hx hb dX3_sheet_23 (by decide) (fun c23 => ?_) (fun c23 => ?_)
      · have t23 : p3.toInt ≤ 90 := qt_le c23
        rw [if_pos c23] at hG
        refine lv_iload_n hx hb dX3_sheet_33 rfl (lv_at hl 3 rfl) ?_
        refine lv_if_ge (tgt := 43) hx hb dX3_sheet_34 (by decide) (fun c34 => ?_) (fun c34 => ?_)
        · have t34 : 0 ≤ p3.toInt := qt_le c34
          rw [if_pos c34] at hG
          refine lv_aload_n hx hb dX3_sheet_43 rfl (lv_at hl 0 rfl) ?_
          refine lv_iconst (v := 0) hx hb dX3_sheet_44 (by decide) ?_
          refine r_put (C := RX3) (T := TX3) (N := 14) S hK w (k := 0) (by decide) (eC_0 ad _) rfl hinX3 tyX3 tyX3_ok nmX3 9 (by decide) (List.mem_of_getElem? (i := 1) rfl) rfl (x := 0) (ty := .int) (by decide +kernel) rfl rfl (by show _ < List.length _; exact Nat.le_of_ble_eq_true rfl) (sO ad _ _ 9 (by decide)) dX3_sheet_45 (fun H locs w => ?_)
          refine lv_aload_n hx hb dX3_sheet_48 rfl (lv_at hl 0 rfl) ?_
          refine r_get (C := RX3) (T := TX3) (N := 14) S hK w (k := 0) (by decide) (eC_0 ad _) rfl hinX3 0 (by decide) (List.mem_of_getElem? (i := 2) rfl) rfl dX3_sheet_49 ?_
          refine lv_iload_n hx hb dX3_sheet_52 rfl (lv_at hl 1 rfl) ?_
          have g53 : vp_in p1 4 := vpi (by omega) (by omega)
          refine r_aald S hK w (k := 1) (by decide) (eC_1 ad _) (t0 := 1) rfl g53 dX3_sheet_53 ?_
          refine lv_iload_n hx hb dX3_sheet_54 rfl (lv_at hl 2 rfl) ?_
          refine lv_iload_n hx hb dX3_sheet_55 rfl (lv_at hl 3 rfl) ?_
          refine callWv w (va_runVN (As := [.int p2, .int p3]) (rest := []) S (c_X1_renew l ad D H.size (u2 σ 0 9 0) (ix p1) p2 p3 (vpl g53)) ⟨va_cnB 2 S.2.2.2.2 gX3_sheet_X1_renew_n247 rfl rfl rfl (hN.m 4 rfl) (S.2.2.2.2 _ (List.mem_of_getElem? (i := 19) rfl)) hd_X1_renew ⟨Nat.le_of_ble_eq_true rfl, Nat.le_of_ble_eq_true rfl⟩, S.2.2.2.2 _ (List.mem_of_getElem? (i := 18) rfl), S.2.2.2.2 _ (List.mem_of_getElem? (i := 20) rfl)⟩ (preV hK hN w (k := (9 + (ix p1))) (Nat.lt_of_lt_of_le (Nat.add_lt_add_left (vpl g53) 9) (by decide)) (eC_sh ad (vpl g53) _) (q := (RX1, TX1, 4)) rfl) rfl rfl hl.1 rfl (lv_room (Nat.le_of_ble_eq_true rfl)) dX3_sheet_56 ⟨Nat.zero_le _, Nat.zero_le _⟩) (fun H locs w => ?_)
          refine lv_iconst (v := 1) hx hb dX3_sheet_59 (by decide) ?_
          exact endWi S hr hlocks w hG dX3_sheet_60
        · have t34 : p3.toInt < 0 := qt_nle c34
          rw [if_neg c34] at hG
          refine lv_aload_n hx hb dX3_sheet_37 rfl (lv_at hl 0 rfl) ?_
          refine lv_iconst (v := 4) hx hb dX3_sheet_38 (by decide) ?_
          refine callWi w (va_runV (As := [.int 4]) (rest := []) S (c_X3_faulted l ad D s.heap.size σ 4) (cwV 1 S.2.2.2.2 gX3_sheet_X3_faulted rfl rfl rfl ⟨rfl, hd_X3_faulted⟩ ⟨Nat.le_of_ble_eq_true rfl, Nat.le_of_ble_eq_true rfl⟩) (preV hK hN w (k := 0) (by decide) (eC_0 ad _) (q := (RX3, TX3, 14)) rfl) rfl rfl hl.1 rfl (lv_room (Nat.le_of_ble_eq_true rfl)) dX3_sheet_39 ⟨Nat.zero_le _, Nat.zero_le _⟩) (fun H locs w => ?_)
          exact endWi S hr hlocks w hG dX3_sheet_42
      · have t23 : 90 < p3.toInt := qt_nle c23
        rw [if_neg c23] at hG
        refine lv_aload_n hx hb dX3_sheet_26 rfl (lv_at hl 0 rfl) ?_
        refine lv_bipush (v := (-2)) hx hb dX3_sheet_27 (by decide) ?_
        refine callWi w (va_runV (As := [.int (-2)]) (rest := []) S (c_X3_refused l ad D s.heap.size σ (-2)) (cwV 1 S.2.2.2.2 gX3_sheet_X3_refused rfl rfl rfl ⟨rfl, hd_X3_refused⟩ ⟨Nat.le_of_ble_eq_true rfl, Nat.le_of_ble_eq_true rfl⟩) (preV hK hN w (k := 0) (by decide) (eC_0 ad _) (q := (RX3, TX3, 14)) rfl) rfl rfl hl.1 rfl (lv_room (Nat.le_of_ble_eq_true rfl)) dX3_sheet_29 ⟨Nat.zero_le _, Nat.zero_le _⟩) (fun H locs w => ?_)
        exact endWi S hr hlocks w hG dX3_sheet_32
  · rw [if_pos c4] at hG
    refine lv_aload_n hx hb dX3_sheet_7 rfl (lv_at hl 0 rfl) ?_
    refine lv_iconst (v := (-1)) hx hb dX3_sheet_8 (by decide) ?_
    refine callWi w (va_runV (As := [.int (-1)]) (rest := []) S (c_X3_refused l ad D s.heap.size σ (-1)) (cwV 1 S.2.2.2.2 gX3_sheet_X3_refused rfl rfl rfl ⟨rfl, hd_X3_refused⟩ ⟨Nat.le_of_ble_eq_true rfl, Nat.le_of_ble_eq_true rfl⟩) (preV hK hN w (k := 0) (by decide) (eC_0 ad _) (q := (RX3, TX3, 14)) rfl) rfl rfl hl.1 rfl (lv_room (Nat.le_of_ble_eq_true rfl)) dX3_sheet_9 ⟨Nat.zero_le _, Nat.zero_le _⟩) (fun H locs w => ?_)
    exact endWi S hr hlocks w hG dX3_sheet_12
set_option maxHeartbeats 4000000 in
set_option maxRecDepth 100000 in
theorem c_X3_put (l : Launch) (ad : Nat → Nat) (D : va_G) (sz : Nat) (σ : St) (p1 : Int32) (p2 : Int32) (p3 : Int32) (hok : OkC σ) : Met l yX3_put wsX3_put ({ frames := 1, cells := 0, slots := 0, locals := 23 }) (PreW 41 (eC ad) ad D (tyC ad) σ sz ([.ref (ad 0), .int p1, .int p2, .int p3] : List Value)) (QWi 41 (eC ad) ad D (f_X3_put σ p1 p2 p3) (CA 41 ad sz)) 0 0 (CA 41 ad sz) := by
  generalize hG : f_X3_put σ p1 p2 p3 = T
  refine headW (cc := cX3_put) (maxL := 5) (ret := (some .int)) ([.ref (ad 0), .int p1, .int p2, .int p3] : List Value) (by decide) rfl (Nat.le_of_ble_eq_true rfl) ?_
  intro p e s m below meth c S hr hlocks hK hN hsz w ls hl
  have S : CallFix p m c cX3_put 5 s ([.ref (ad 0), .int p1, .int p2, .int p3] : List Value).toArray wsX3_put RX3 := S
  have hx := S.1
  have hb := S.2.1
  have z0 : (0 : Int32).toInt = 0 := by decide
  have z1 : (1 : Int32).toInt = 1 := by decide
  have hl : lv_has ls 5 [(0, .ref (ad 0)), (1, .int p1), (2, .int p2), (3, .int p3)] := hl
  have hinX3 : ∀ w ∈ wsX30, w ∈ wsX3_put := (fun _ h => List.mem_cons_of_mem _ (List.mem_append_left _ (List.mem_append_right _ h)))
  have hinX1 : ∀ w ∈ wsX10, w ∈ wsX3_put := (fun _ h => List.mem_cons_of_mem _ (List.mem_append_right _ h))
  have okf0 := hok.1
  have okf1 := hok.2.1
  have okf2 := hok.2.2.1
  have okf3 := hok.2.2.2.1
  have okf4 := hok.2.2.2.2.1
  have okf5 := hok.2.2.2.2.2
  rw [f_X3_put] at hG
  refine lv_iload_n hx hb dX3_put_0 rfl (lv_at hl 1 rfl) ?_
  refine call0i (va_runS (As := [.int p1]) (rest := []) S (c_X3_isSheet l p1) (va_cwS 1 S.2.2.2.2 gX3_put_X3_isSheet rfl rfl rfl hd_X3_isSheet ⟨Nat.le_of_ble_eq_true rfl, Nat.le_of_ble_eq_true rfl⟩) pre0S rfl rfl hl.1 rfl (lv_room (Nat.le_of_ble_eq_true rfl)) dX3_put_1 ⟨Nat.zero_le _, Nat.zero_le _⟩) ?_
  refine lv_if_ne (tgt := 13) hx hb dX3_put_4 (by decide) (fun c4 => ?_) (fun c4 => ?_)
  · have t4 := bf_isSheet_n c4
    rw [if_neg c4] at hG
    refine lv_aload_n hx hb dX3_put_13 rfl (lv_at hl 0 rfl) ?_
    refine r_get (C := RX3) (T := TX3) (N := 14) S hK w (k := 0) (by decide) (eC_0 ad _) rfl hinX3 0 (by decide) (List.mem_of_getElem? (i := 1) rfl) rfl dX3_put_14 ?_
    refine lv_iload_n hx hb dX3_put_17 rfl (lv_at hl 1 rfl) ?_
    have g18 : vp_in p1 4 := vpi (by omega) (by omega)
    refine r_aald S hK w (k := 1) (by decide) (eC_1 ad _) (t0 := 1) rfl g18 dX3_put_18 ?_
    refine lv_astore (lv' := [(4, .ref (ad (9 + (ix p1)))), (0, .ref (ad 0)), (1, .int p1), (2, .int p2), (3, .int p3)]) hx hb dX3_put_19 hl (by decide) rfl (fun ls hl => ?_)
    refine lv_aload hx hb dX3_put_21 (lv_at hl 0 rfl) ?_
    refine r_getN (C := RX1) (T := TX1) (N := 4) S hK hN w (k := (9 + (ix p1))) (Nat.lt_of_lt_of_le (Nat.add_lt_add_left (vpl g18) 9) (by decide)) (eC_sh ad (vpl g18) _) rfl hinX1 0 (by decide) 0 rfl rfl dX3_put_23 ?_
    refine lv_if_ne (tgt := 35) hx hb dX3_put_26 (by decide) (fun c26 => ?_) (fun c26 => ?_)
    · have t26 : (σ (9 + (ix p1)) 0).toInt ≠ 0 := qt_ne c26
      rw [if_neg c26] at hG
      refine lv_aload hx hb dX3_put_35 (lv_at hl 0 rfl) ?_
      refine lv_iload_n hx hb dX3_put_37 rfl (lv_at hl 3 rfl) ?_
      refine lv_lconst (v := 1) hx hb dX3_put_38 (by decide) ?_
      refine call0i (va_runVN (As := [.int p2, .long 1]) (rest := []) S (c_X1_lacks l ad D s.heap.size σ (ix p1) p2 1 (vpl g18)) ⟨va_cnB 2 S.2.2.2.2 gX3_put_X1_lacks_n254 rfl rfl rfl (hN.m 3 rfl) (S.2.2.2.2 _ (List.mem_of_getElem? (i := 16) rfl)) hd_X1_lacks ⟨Nat.le_of_ble_eq_true rfl, Nat.le_of_ble_eq_true rfl⟩, S.2.2.2.2 _ (List.mem_of_getElem? (i := 15) rfl), S.2.2.2.2 _ (List.mem_of_getElem? (i := 17) rfl)⟩ (preV hK hN w (k := (9 + (ix p1))) (Nat.lt_of_lt_of_le (Nat.add_lt_add_left (vpl g18) 9) (by decide)) (eC_sh ad (vpl g18) _) (q := (RX1, TX1, 4)) rfl) rfl rfl hl.1 rfl (lv_room (Nat.le_of_ble_eq_true rfl)) dX3_put_39 ⟨Nat.zero_le _, Nat.zero_le _⟩) ?_
      refine lv_if_eq (tgt := 51) hx hb dX3_put_42 (by decide) (fun c42 => ?_) (fun c42 => ?_)
      · have t42 := bf_lacks_z c42
        rw [if_pos c42] at hG
        have z1 : (1 : Int64).toInt = 1 := by decide
        have z3 := okf3 (ix p1) (vpl g18)
        refine lv_aload_n hx hb dX3_put_51 rfl (lv_at hl 1 rfl) ?_
        refine lv_iconst (v := 0) hx hb dX3_put_52 (by decide) ?_
        refine r_put (C := RX3) (T := TX3) (N := 14) S hK w (k := 0) (by decide) (eC_0 ad _) rfl hinX3 tyX3 tyX3_ok nmX3 9 (by decide) (List.mem_of_getElem? (i := 2) rfl) rfl (x := 0) (ty := .int) (by decide +kernel) rfl rfl (by show _ < List.length _; exact Nat.le_of_ble_eq_true rfl) (sO ad _ _ 9 (by decide)) dX3_put_53 (fun H locs w => ?_)
        have hok : OkC (u2 σ 0 9 0) := okC_obj (by decide) hok
        have okf0 := hok.1
        have okf1 := hok.2.1
        have okf2 := hok.2.2.1
        have okf3 := hok.2.2.2.1
        have okf4 := hok.2.2.2.2.1
        have okf5 := hok.2.2.2.2.2
        refine lv_aload hx hb dX3_put_56 (lv_at hl 0 rfl) ?_
        refine r_getN (C := RX1) (T := TX1) (N := 4) S hK hN w (k := (9 + (ix p1))) (Nat.lt_of_lt_of_le (Nat.add_lt_add_left (vpl g18) 9) (by decide)) (eC_sh ad (vpl g18) _) rfl hinX1 3 (by decide) 2 rfl rfl dX3_put_58 ?_
        refine lv_iload_n hx hb dX3_put_61 rfl (lv_at hl 3 rfl) ?_
        refine lv_aload hx hb dX3_put_62 (lv_at hl 0 rfl) ?_
        refine lv_iload_n hx hb dX3_put_64 rfl (lv_at hl 4 rfl) ?_
        refine call0i (va_runVN (As := [.int p3]) (rest := [.int p2, .ref (ad (13 + (ix p1)))]) S (c_X1_cut l ad D H.size (u2 σ 0 9 0) (ix p1) p3 (vpl g18)) ⟨va_cnB 1 S.2.2.2.2 gX3_put_X1_cut_n258 rfl rfl rfl (hN.m 5 rfl) (S.2.2.2.2 _ (List.mem_of_getElem? (i := 16) rfl)) hd_X1_cut ⟨Nat.le_of_ble_eq_true rfl, Nat.le_of_ble_eq_true rfl⟩, S.2.2.2.2 _ (List.mem_of_getElem? (i := 20) rfl), S.2.2.2.2 _ (List.mem_of_getElem? (i := 21) rfl)⟩ (preV hK hN w (k := (9 + (ix p1))) (Nat.lt_of_lt_of_le (Nat.add_lt_add_left (vpl g18) 9) (by decide)) (eC_sh ad (vpl g18) _) (q := (RX1, TX1, 4)) rfl) rfl rfl hl.1 rfl (lv_room (Nat.le_of_ble_eq_true rfl)) dX3_put_65 ⟨Nat.zero_le _, Nat.zero_le _⟩) ?_
        have g68 : vp_in p2 90 := vpi (by omega) (by omega)
        refine r_iast (cA := ad 100) (N := 90) S hK w (k := (13 + (ix p1))) (Nat.lt_of_lt_of_le (Nat.add_lt_add_left (vpl g18) 13) (by decide)) (fun f => eC_sc ad (vpl g18) f) rfl g68 dX3_put_68 (fun H locs w => ?_)
        have hok : OkC (u2 (u2 σ 0 9 0) (13 + (ix p1)) (ix p2) (f_X1_cut (u2 σ 0 9 0) (ix p1) p3)) := okC_scr (show scrC (13 + (ix p1)) by have h9 := (vpl g18); unfold scrC; omega) hok
        have okf0 := hok.1
        have okf1 := hok.2.1
        have okf2 := hok.2.2.1
        have okf3 := hok.2.2.2.1
        have okf4 := hok.2.2.2.2.1
        have okf5 := hok.2.2.2.2.2
        refine lv_iconst (v := 1) hx hb dX3_put_69 (by decide) ?_
        exact endWi S hr hlocks w hG dX3_put_70
      · rw [if_neg c42] at hG
        refine lv_aload_n hx hb dX3_put_45 rfl (lv_at hl 1 rfl) ?_
        refine lv_iconst (v := 3) hx hb dX3_put_46 (by decide) ?_
        refine callWi w (va_runV (As := [.int 3]) (rest := []) S (c_X3_faulted l ad D s.heap.size σ 3) (cwV 1 S.2.2.2.2 gX3_put_X3_faulted rfl rfl rfl ⟨rfl, hd_X3_faulted⟩ ⟨Nat.le_of_ble_eq_true rfl, Nat.le_of_ble_eq_true rfl⟩) (preV hK hN w (k := 0) (by decide) (eC_0 ad _) (q := (RX3, TX3, 14)) rfl) rfl rfl hl.1 rfl (lv_room (Nat.le_of_ble_eq_true rfl)) dX3_put_47 ⟨Nat.zero_le _, Nat.zero_le _⟩) (fun H locs w => ?_)
        exact endWi S hr hlocks w hG dX3_put_50
    · have t26 : (σ (9 + (ix p1)) 0).toInt = 0 := qt_eq c26
      rw [if_pos c26] at hG
      refine lv_aload_n hx hb dX3_put_29 rfl (lv_at hl 1 rfl) ?_
      refine lv_iconst (v := 1) hx hb dX3_put_30 (by decide) ?_
      refine callWi w (va_runV (As := [.int 1]) (rest := []) S (c_X3_faulted l ad D s.heap.size σ 1) (cwV 1 S.2.2.2.2 gX3_put_X3_faulted rfl rfl rfl ⟨rfl, hd_X3_faulted⟩ ⟨Nat.le_of_ble_eq_true rfl, Nat.le_of_ble_eq_true rfl⟩) (preV hK hN w (k := 0) (by decide) (eC_0 ad _) (q := (RX3, TX3, 14)) rfl) rfl rfl hl.1 rfl (lv_room (Nat.le_of_ble_eq_true rfl)) dX3_put_31 ⟨Nat.zero_le _, Nat.zero_le _⟩) (fun H locs w => ?_)
      exact endWi S hr hlocks w hG dX3_put_34
  · rw [if_pos c4] at hG
    refine lv_aload_n hx hb dX3_put_7 rfl (lv_at hl 0 rfl) ?_
    refine lv_iconst (v := (-1)) hx hb dX3_put_8 (by decide) ?_
    refine callWi w (va_runV (As := [.int (-1)]) (rest := []) S (c_X3_refused l ad D s.heap.size σ (-1)) (cwV 1 S.2.2.2.2 gX3_put_X3_refused rfl rfl rfl ⟨rfl, hd_X3_refused⟩ ⟨Nat.le_of_ble_eq_true rfl, Nat.le_of_ble_eq_true rfl⟩) (preV hK hN w (k := 0) (by decide) (eC_0 ad _) (q := (RX3, TX3, 14)) rfl) rfl rfl hl.1 rfl (lv_room (Nat.le_of_ble_eq_true rfl)) dX3_put_9 ⟨Nat.zero_le _, Nat.zero_le _⟩) (fun H locs w => ?_)
    exact endWi S hr hlocks w hG dX3_put_12
set_option maxHeartbeats 4000000 in
set_option maxRecDepth 100000 in
theorem c_X3_cell (l : Launch) (ad : Nat → Nat) (D : va_G) (sz : Nat) (σ : St) (p1 : Int32) (p2 : Int32) (p3 : Int32) (hok : OkC σ) : Met l yX3_cell wsX3_cell ({ frames := 2, cells := 0, slots := 0, locals := 49 }) (PreW 41 (eC ad) ad D (tyC ad) σ sz ([.ref (ad 0), .int p1, .int p2, .int p3] : List Value)) (QWl 41 (eC ad) ad D (f_X3_cell σ p1 p2 p3) (CA 41 ad sz)) 0 0 (CA 41 ad sz) := by
  generalize hG : f_X3_cell σ p1 p2 p3 = T
  refine headW (cc := cX3_cell) (maxL := 4) (ret := (some .long)) ([.ref (ad 0), .int p1, .int p2, .int p3] : List Value) (by decide) rfl (Nat.le_of_ble_eq_true rfl) ?_
  intro p e s m below meth c S hr hlocks hK hN hsz w ls hl
  have S : CallFix p m c cX3_cell 4 s ([.ref (ad 0), .int p1, .int p2, .int p3] : List Value).toArray wsX3_cell RX3 := S
  have hx := S.1
  have hb := S.2.1
  have z0 : (0 : Int32).toInt = 0 := by decide
  have z1 : (1 : Int32).toInt = 1 := by decide
  have hl : lv_has ls 4 [(0, .ref (ad 0)), (1, .int p1), (2, .int p2), (3, .int p3)] := hl
  have hinX3 : ∀ w ∈ wsX30, w ∈ wsX3_cell := (fun _ h => List.mem_cons_of_mem _ (List.mem_append_left _ (List.mem_append_right _ h)))
  have hinX1 : ∀ w ∈ wsX10, w ∈ wsX3_cell := (fun _ h => List.mem_cons_of_mem _ (List.mem_append_right _ h))
  have okf0 := hok.1
  have okf1 := hok.2.1
  have okf2 := hok.2.2.1
  have okf3 := hok.2.2.2.1
  have okf4 := hok.2.2.2.2.1
  have okf5 := hok.2.2.2.2.2
  rw [f_X3_cell] at hG
  refine lv_aload_n hx hb dX3_cell_0 rfl (lv_at hl 0 rfl) ?_
  refine lv_iload_n hx hb dX3_cell_1 rfl (lv_at hl 1 rfl) ?_
  refine lv_iload_n hx hb dX3_cell_2 rfl (lv_at hl 3 rfl) ?_
  refine lv_iload_n hx hb dX3_cell_3 rfl (lv_at hl 2 rfl) ?_
  refine lv_lconst (v := 1) hx hb dX3_cell_4 (by decide) ?_
  have ok3 := okf3
  refine callWi w (va_runV (As := [.int p1, .int p3, .int p2, .long 1]) (rest := []) S (c_X3_spanRefusal l ad D s.heap.size σ p1 p3 p2 1) (cwV 4 S.2.2.2.2 gX3_cell_X3_spanRefusal rfl rfl rfl ⟨rfl, hd_X3_spanRefusal⟩ ⟨Nat.le_of_ble_eq_true rfl, Nat.le_of_ble_eq_true rfl⟩) (preV hK hN w (k := 0) (by decide) (eC_0 ad _) (q := (RX3, TX3, 14)) rfl) rfl rfl hl.1 rfl (lv_room (Nat.le_of_ble_eq_true rfl)) dX3_cell_5 ⟨Nat.zero_le _, Nat.zero_le _⟩) (fun H locs w => ?_)
  have hok : OkC ((f_X3_spanRefusal σ p1 p3 p2 1).2) := ok_X3_spanRefusal hok
  have okf0 := hok.1
  have okf1 := hok.2.1
  have okf2 := hok.2.2.1
  have okf3 := hok.2.2.2.1
  have okf4 := hok.2.2.2.2.1
  have okf5 := hok.2.2.2.2.2
  refine lv_if_eq (tgt := 15) hx hb dX3_cell_8 (by decide) (fun c8 => ?_) (fun c8 => ?_)
  · have t8 : ((f_X3_spanRefusal σ p1 p3 p2 1).1).toInt = 0 := qt_eq c8
    rw [if_pos c8] at hG
    have z := sp_z c8
    have z1 : (1 : Int64).toInt = 1 := by decide
    have z3 := ok3 (ix p1) (vpl (vpi (by omega) (by omega)))
    refine lv_aload_n hx hb dX3_cell_15 rfl (lv_at hl 0 rfl) ?_
    refine r_get (C := RX3) (T := TX3) (N := 14) S hK w (k := 0) (by decide) (eC_0 ad _) rfl hinX3 0 (by decide) (List.mem_of_getElem? (i := 2) rfl) rfl dX3_cell_16 ?_
    refine lv_iload_n hx hb dX3_cell_19 rfl (lv_at hl 1 rfl) ?_
    have g20 : vp_in p1 4 := vpi (by omega) (by omega)
    refine r_aald S hK w (k := 1) (by decide) (eC_1 ad _) (t0 := 1) rfl g20 dX3_cell_20 ?_
    refine r_getN (C := RX1) (T := TX1) (N := 4) S hK hN w (k := (9 + (ix p1))) (Nat.lt_of_lt_of_le (Nat.add_lt_add_left (vpl g20) 9) (by decide)) (eC_sh ad (vpl g20) _) rfl hinX1 3 (by decide) 2 rfl rfl dX3_cell_21 ?_
    refine lv_iload_n hx hb dX3_cell_24 rfl (lv_at hl 2 rfl) ?_
    have g25 : vp_in p2 90 := vpi (by omega) (by omega)
    refine r_iald (cA := ad 100) (N := 90) S hK w (k := (13 + (ix p1))) (Nat.lt_of_lt_of_le (Nat.add_lt_add_left (vpl g20) 13) (by decide)) (fun f => eC_sc ad (vpl g20) f) rfl g25 dX3_cell_25 ?_
    refine lv_i2l hx hb dX3_cell_26 rfl ?_
    exact endWl S hr hlocks w hG dX3_cell_27
  · have t8 : ((f_X3_spanRefusal σ p1 p3 p2 1).1).toInt ≠ 0 := qt_ne c8
    rw [if_neg c8] at hG
    refine lv_ldc2 hx hb S.2.2.2.1 (S.2.2.2.2 _ (List.mem_of_getElem? (i := 1) rfl)) dX3_cell_11 ?_
    exact endWl S hr hlocks w hG dX3_cell_14
set_option maxHeartbeats 4000000 in
set_option maxRecDepth 100000 in
theorem c_X3_fault (l : Launch) (ad : Nat → Nat) (D : va_G) (sz : Nat) (σ : St) : Met l yX3_fault wsX3_fault ({ frames := 0, cells := 0, slots := 0, locals := 0 }) (PreW 41 (eC ad) ad D (tyC ad) σ sz ([.ref (ad 0)] : List Value)) (Q0i (f_X3_fault σ)) 0 0 N0 := by
  generalize hG : f_X3_fault σ = T
  refine headW (cc := cX3_fault) (maxL := 1) (ret := (some .int)) ([.ref (ad 0)] : List Value) (by decide) rfl (Nat.le_of_ble_eq_true rfl) ?_
  intro p e s m below meth c S hr hlocks hK hN hsz w ls hl
  have S : CallFix p m c cX3_fault 1 s ([.ref (ad 0)] : List Value).toArray wsX3_fault RX3 := S
  have hx := S.1
  have hb := S.2.1
  have z0 : (0 : Int32).toInt = 0 := by decide
  have z1 : (1 : Int32).toInt = 1 := by decide
  have hl : lv_has ls 1 [(0, .ref (ad 0))] := hl
  have hinX3 : ∀ w ∈ wsX30, w ∈ wsX3_fault := (fun _ h => List.mem_cons_of_mem _ (List.mem_append_right _ h))
  rw [f_X3_fault] at hG
  refine lv_aload_n hx hb dX3_fault_0 rfl (lv_at hl 0 rfl) ?_
  refine r_get (C := RX3) (T := TX3) (N := 14) S hK w (k := 0) (by decide) (eC_0 ad _) rfl hinX3 9 (by decide) (List.mem_of_getElem? (i := 1) rfl) rfl dX3_fault_1 ?_
  exact end0i S hr hlocks hG dX3_fault_4
