set_option maxHeartbeats 4000000 in
set_option maxRecDepth 100000 in
theorem c_X3_ofPaper (l : Launch) (ad : Nat → Nat) (D : va_G) (sz : Nat) (σ : St) (p1 : Int32) (p2 : Int32) (hok : OkC σ) : Met l yX3_ofPaper wsX3_ofPaper ({ frames := 1, cells := 0, slots := 0, locals := 21 }) (PreW 41 (eC ad) ad D (tyC ad) σ sz ([.ref (ad 0), .int p1, .int p2] : List Value)) (Q0i (f_X3_ofPaper σ p1 p2)) 0 0 N0 := by
  generalize hG : f_X3_ofPaper σ p1 p2 = T
  refine headW (cc := cX3_ofPaper) (maxL := 4) (ret := (some .int)) ([.ref (ad 0), .int p1, .int p2] : List Value) (by decide) rfl (Nat.le_of_ble_eq_true rfl) ?_
  intro p e s m below meth c S hr hlocks hK hN hsz w ls hl
  have S : CallFix p m c cX3_ofPaper 4 s ([.ref (ad 0), .int p1, .int p2] : List Value).toArray wsX3_ofPaper RX3 := S
  have hx := S.1
  have hb := S.2.1
  have z0 : (0 : Int32).toInt = 0 := by decide
  have z1 : (1 : Int32).toInt = 1 := by decide
  have hl : lv_has ls 4 [(0, .ref (ad 0)), (1, .int p1), (2, .int p2)] := hl
  have hinX3 : ∀ w ∈ wsX30, w ∈ wsX3_ofPaper := (fun _ h => List.mem_cons_of_mem _ (List.mem_append_left _ (List.mem_append_right _ h)))
  have hinX0 : ∀ w ∈ wsX00, w ∈ wsX3_ofPaper := (fun _ h => List.mem_cons_of_mem _ (List.mem_append_right _ h))
  have okf0 := hok.1
  have okf1 := hok.2.1
  have okf2 := hok.2.2.1
  have okf3 := hok.2.2.2.1
  have okf4 := hok.2.2.2.2.1
  have okf5 := hok.2.2.2.2.2
  rw [f_X3_ofPaper] at hG
  refine lv_aload_n hx hb dX3_ofPaper_0 rfl (lv_at hl 0 rfl) ?_
  refine lv_iload_n hx hb dX3_ofPaper_1 rfl (lv_at hl 1 rfl) ?_
  refine call0i (va_runV (As := [.int p1]) (rest := []) S (c_X3_isPaper l ad D s.heap.size σ p1) (cwV 1 S.2.2.2.2 gX3_ofPaper_X3_isPaper rfl rfl rfl ⟨rfl, hd_X3_isPaper⟩ ⟨Nat.le_of_ble_eq_true rfl, Nat.le_of_ble_eq_true rfl⟩) (preV hK hN w (k := 0) (by decide) (eC_0 ad _) (q := (RX3, TX3, 14)) rfl) rfl rfl hl.1 rfl (lv_room (Nat.le_of_ble_eq_true rfl)) dX3_ofPaper_2 ⟨Nat.zero_le _, Nat.zero_le _⟩) ?_
  refine lv_if_ne (tgt := 10) hx hb dX3_ofPaper_5 (by decide) (fun c5 => ?_) (fun c5 => ?_)
  · have t5 := bf_isPaper_n c5
    rw [if_neg c5] at hG
    refine lv_aload_n hx hb dX3_ofPaper_10 rfl (lv_at hl 0 rfl) ?_
    refine r_get (C := RX3) (T := TX3) (N := 14) S hK w (k := 0) (by decide) (eC_0 ad _) rfl hinX3 2 (by decide) (List.mem_of_getElem? (i := 1) rfl) rfl dX3_ofPaper_11 ?_
    refine lv_iload_n hx hb dX3_ofPaper_14 rfl (lv_at hl 1 rfl) ?_
    have g15 : vp_in p1 8 := vpi (by omega) (by omega)
    refine r_aald S hK w (k := 3) (by decide) (eC_3 ad _) (t0 := 3) rfl g15 dX3_ofPaper_15 ?_
    refine lv_astore_n (lv' := [(3, .ref (ad (33 + (ix p1)))), (0, .ref (ad 0)), (1, .int p1), (2, .int p2)]) hx hb dX3_ofPaper_16 rfl hl (by decide) rfl (fun ls hl => ?_)
    refine lv_iload_n hx hb dX3_ofPaper_17 rfl (lv_at hl 3 rfl) ?_
    by_cases c18_0 : p2 = 0
    · rw [if_pos c18_0] at hG
      refine lv_tableIn (tgt := 56) hx hb dX3_ofPaper_18 (by rw [c18_0]; decide) (by rw [c18_0]; decide) (off := 38) (by rw [c18_0]; decide) (by decide) ?_
      refine lv_aload_n hx hb dX3_ofPaper_56 rfl (lv_at hl 0 rfl) ?_
      refine r_getN (C := RX0) (T := TX0) (N := 6) S hK hN w (k := (33 + (ix p1))) (Nat.lt_of_lt_of_le (Nat.add_lt_add_left (vpl g15) 33) (by decide)) (eC_pa ad (vpl g15) _) rfl hinX0 0 (by decide) 6 rfl rfl dX3_ofPaper_57 ?_
      exact end0i S hr hlocks hG dX3_ofPaper_60
    rw [if_neg c18_0] at hG
    by_cases c18_1 : p2 = 1
    · rw [if_pos c18_1] at hG
      refine lv_tableIn (tgt := 61) hx hb dX3_ofPaper_18 (by rw [c18_1]; decide) (by rw [c18_1]; decide) (off := 43) (by rw [c18_1]; decide) (by decide) ?_
      refine lv_aload_n hx hb dX3_ofPaper_61 rfl (lv_at hl 0 rfl) ?_
      refine r_getN (C := RX0) (T := TX0) (N := 6) S hK hN w (k := (33 + (ix p1))) (Nat.lt_of_lt_of_le (Nat.add_lt_add_left (vpl g15) 33) (by decide)) (eC_pa ad (vpl g15) _) rfl hinX0 1 (by decide) 7 rfl rfl dX3_ofPaper_62 ?_
      exact end0i S hr hlocks hG dX3_ofPaper_65
    rw [if_neg c18_1] at hG
    by_cases c18_2 : p2 = 2
    · rw [if_pos c18_2] at hG
      refine lv_tableIn (tgt := 66) hx hb dX3_ofPaper_18 (by rw [c18_2]; decide) (by rw [c18_2]; decide) (off := 48) (by rw [c18_2]; decide) (by decide) ?_
      refine lv_aload_n hx hb dX3_ofPaper_66 rfl (lv_at hl 0 rfl) ?_
      refine r_getN (C := RX0) (T := TX0) (N := 6) S hK hN w (k := (33 + (ix p1))) (Nat.lt_of_lt_of_le (Nat.add_lt_add_left (vpl g15) 33) (by decide)) (eC_pa ad (vpl g15) _) rfl hinX0 2 (by decide) 8 rfl rfl dX3_ofPaper_67 ?_
      exact end0i S hr hlocks hG dX3_ofPaper_70
    rw [if_neg c18_2] at hG
    by_cases c18_3 : p2 = 3
    · rw [if_pos c18_3] at hG
      refine lv_tableIn (tgt := 71) hx hb dX3_ofPaper_18 (by rw [c18_3]; decide) (by rw [c18_3]; decide) (off := 53) (by rw [c18_3]; decide) (by decide) ?_
      refine lv_aload_n hx hb dX3_ofPaper_71 rfl (lv_at hl 0 rfl) ?_
      refine r_getN (C := RX0) (T := TX0) (N := 6) S hK hN w (k := (33 + (ix p1))) (Nat.lt_of_lt_of_le (Nat.add_lt_add_left (vpl g15) 33) (by decide)) (eC_pa ad (vpl g15) _) rfl hinX0 3 (by decide) 9 rfl rfl dX3_ofPaper_72 ?_
      exact end0i S hr hlocks hG dX3_ofPaper_75
    rw [if_neg c18_3] at hG
    by_cases c18_4 : p2 = 4
    · rw [if_pos c18_4] at hG
      refine lv_tableIn (tgt := 76) hx hb dX3_ofPaper_18 (by rw [c18_4]; decide) (by rw [c18_4]; decide) (off := 58) (by rw [c18_4]; decide) (by decide) ?_
      refine lv_aload_n hx hb dX3_ofPaper_76 rfl (lv_at hl 0 rfl) ?_
      refine r_getN (C := RX0) (T := TX0) (N := 6) S hK hN w (k := (33 + (ix p1))) (Nat.lt_of_lt_of_le (Nat.add_lt_add_left (vpl g15) 33) (by decide)) (eC_pa ad (vpl g15) _) rfl hinX0 4 (by decide) 10 rfl rfl dX3_ofPaper_77 ?_
      exact end0i S hr hlocks hG dX3_ofPaper_80
    rw [if_neg c18_4] at hG
    by_cases c18_5 : p2 = 5
    · rw [if_pos c18_5] at hG
      refine lv_tableIn (tgt := 81) hx hb dX3_ofPaper_18 (by rw [c18_5]; decide) (by rw [c18_5]; decide) (off := 63) (by rw [c18_5]; decide) (by decide) ?_
      refine lv_aload_n hx hb dX3_ofPaper_81 rfl (lv_at hl 0 rfl) ?_
      refine r_getN (C := RX0) (T := TX0) (N := 6) S hK hN w (k := (33 + (ix p1))) (Nat.lt_of_lt_of_le (Nat.add_lt_add_left (vpl g15) 33) (by decide)) (eC_pa ad (vpl g15) _) rfl hinX0 5 (by decide) 11 rfl rfl dX3_ofPaper_82 ?_
      exact end0i S hr hlocks hG dX3_ofPaper_85
    rw [if_neg c18_5] at hG
    have y18_0 : p2.toInt ≠ 0 := qt_ne c18_0
    have y18_1 : p2.toInt ≠ 1 := qt_ne c18_1
    have y18_2 : p2.toInt ≠ 2 := qt_ne c18_2
    have y18_3 : p2.toInt ≠ 3 := qt_ne c18_3
    have y18_4 : p2.toInt ≠ 4 := qt_ne c18_4
    have y18_5 : p2.toInt ≠ 5 := qt_ne c18_5
    refine lv_tableOut (tgt := 86) hx hb dX3_ofPaper_18 (by omega) (by decide) ?_
    refine lv_bipush (v := (-2)) hx hb dX3_ofPaper_86 (by decide) ?_
    exact end0i S hr hlocks hG dX3_ofPaper_88
  · rw [if_pos c5] at hG
    refine lv_iconst (v := (-1)) hx hb dX3_ofPaper_8 (by decide) ?_
    exact end0i S hr hlocks hG dX3_ofPaper_9
set_option maxHeartbeats 4000000 in
set_option maxRecDepth 100000 in
theorem c_X3_isWashed (l : Launch) (ad : Nat → Nat) (D : va_G) (sz : Nat) (σ : St) (p1 : Nat) (p2 : Int32) (hp1 : p1 < 8) : Met l yX3_isWashed wsX3_isWashed ({ frames := 0, cells := 0, slots := 0, locals := 0 }) (PreW 41 (eC ad) ad D (tyC ad) σ sz ([.ref (ad (33 + p1)), .int p2] : List Value)) (Q0i (f_X3_isWashed σ p1 p2)) 0 0 N0 := by
  generalize hG : f_X3_isWashed σ p1 p2 = T
  refine headW (cc := cX3_isWashed) (maxL := 2) (ret := (some .boolean)) ([.ref (ad (33 + p1)), .int p2] : List Value) (by decide) rfl (Nat.le_of_ble_eq_true rfl) ?_
  intro p e s m below meth c S hr hlocks hK hN hsz w ls hl
  have S : CallFix p m c cX3_isWashed 2 s ([.ref (ad (33 + p1)), .int p2] : List Value).toArray wsX3_isWashed RX3 := S
  have hx := S.1
  have hb := S.2.1
  have z0 : (0 : Int32).toInt = 0 := by decide
  have z1 : (1 : Int32).toInt = 1 := by decide
  have hl : lv_has ls 2 [(0, .ref (ad (33 + p1))), (1, .int p2)] := hl
  have hinX0 : ∀ w ∈ wsX00, w ∈ wsX3_isWashed := (fun _ h => List.mem_cons_of_mem _ (List.mem_append_right _ h))
  rw [f_X3_isWashed] at hG
  refine lv_aload_n hx hb dX3_isWashed_0 rfl (lv_at hl 0 rfl) ?_
  refine r_getN (C := RX0) (T := TX0) (N := 6) S hK hN w (k := (33 + p1)) (Nat.lt_of_lt_of_le (Nat.add_lt_add_left hp1 33) (by decide)) (eC_pa ad hp1 _) rfl hinX0 4 (by decide) 10 rfl rfl dX3_isWashed_1 ?_
  refine lv_iload_n hx hb dX3_isWashed_4 rfl (lv_at hl 1 rfl) ?_
  refine lv_ishr hx hb dX3_isWashed_5 ?_
  refine lv_iconst (v := 1) hx hb dX3_isWashed_6 (by decide) ?_
  refine lv_iand hx hb dX3_isWashed_7 ?_
  refine lv_if_eq (tgt := 15) hx hb dX3_isWashed_8 (by decide) (fun c8 => ?_) (fun c8 => ?_)
  · have t8 : (((σ (33 + p1) 4) >>> (p2 &&& 31)) &&& 1).toInt = 0 := qt_eq c8
    rw [if_pos c8] at hG
    refine lv_iconst (v := 0) hx hb dX3_isWashed_15 (by decide) ?_
    exact end0z S hr hlocks (Or.inl rfl) hG dX3_isWashed_16
  · have t8 : (((σ (33 + p1) 4) >>> (p2 &&& 31)) &&& 1).toInt ≠ 0 := qt_ne c8
    rw [if_neg c8] at hG
    refine lv_iconst (v := 1) hx hb dX3_isWashed_11 (by decide) ?_
    refine lv_goto (tgt := 16) hx hb dX3_isWashed_12 (by decide) ?_
    exact end0z S hr hlocks (Or.inr rfl) hG dX3_isWashed_16
set_option maxHeartbeats 4000000 in
set_option maxRecDepth 100000 in
theorem c_X3_fadedInk (l : Launch) (ad : Nat → Nat) (D : va_G) (sz : Nat) (σ : St) (p1 : Nat) (p2 : Int32) (p3 : Int32) (hok : OkC σ) (hp1 : p1 < 8) (hsm : 0 ≤ p2.toInt ∧ p2.toInt < 9) : Met l yX3_fadedInk wsX3_fadedInk ({ frames := 2, cells := 0, slots := 0, locals := 48 }) (PreW 41 (eC ad) ad D (tyC ad) σ sz ([.ref (ad 0), .ref (ad (17 + p1)), .int p2, .int p3] : List Value)) (Q0i (f_X3_fadedInk σ p1 p2 p3)) 0 0 N0 := by
  generalize hG : f_X3_fadedInk σ p1 p2 p3 = T
  refine headW (cc := cX3_fadedInk) (maxL := 4) (ret := (some .int)) ([.ref (ad 0), .ref (ad (17 + p1)), .int p2, .int p3] : List Value) (by decide) rfl (Nat.le_of_ble_eq_true rfl) ?_
  intro p e s m below meth c S hr hlocks hK hN hsz w ls hl
  have S : CallFix p m c cX3_fadedInk 4 s ([.ref (ad 0), .ref (ad (17 + p1)), .int p2, .int p3] : List Value).toArray wsX3_fadedInk RX3 := S
  have hx := S.1
  have hb := S.2.1
  have z0 : (0 : Int32).toInt = 0 := by decide
  have z1 : (1 : Int32).toInt = 1 := by decide
  have hl : lv_has ls 4 [(0, .ref (ad 0)), (1, .ref (ad (17 + p1))), (2, .int p2), (3, .int p3)] := hl
  have hinX2 : ∀ w ∈ wsX20, w ∈ wsX3_fadedInk := (fun _ h => List.mem_cons_of_mem _ (List.mem_append_left _ (List.mem_append_right _ h)))
  have hinX3 : ∀ w ∈ wsX30, w ∈ wsX3_fadedInk := (fun _ h => List.mem_cons_of_mem _ (List.mem_append_right _ h))
  have okf0 := hok.1
  have okf1 := hok.2.1
  have okf2 := hok.2.2.1
  have okf3 := hok.2.2.2.1
  have okf4 := hok.2.2.2.2.1
  have okf5 := hok.2.2.2.2.2
  rw [f_X3_fadedInk] at hG
  refine lv_aload_n hx hb dX3_fadedInk_0 rfl (lv_at hl 0 rfl) ?_
  refine lv_aload_n hx hb dX3_fadedInk_1 rfl (lv_at hl 1 rfl) ?_
  refine lv_iload_n hx hb dX3_fadedInk_2 rfl (lv_at hl 2 rfl) ?_
  refine lv_iconst (v := 4) hx hb dX3_fadedInk_3 (by decide) ?_
  refine lv_aload_n hx hb dX3_fadedInk_4 rfl (lv_at hl 1 rfl) ?_
  refine r_getN (C := RX2) (T := TX2) (N := 3) S hK hN w (k := (17 + p1)) (Nat.lt_of_lt_of_le (Nat.add_lt_add_left hp1 17) (by decide)) (eC_sg ad hp1 _) rfl hinX2 2 (by decide) 5 rfl rfl dX3_fadedInk_5 ?_
  refine lv_iload_n hx hb dX3_fadedInk_8 rfl (lv_at hl 2 rfl) ?_
  have g9 : vp_in p2 9 := vpi (by omega) (by omega)
  refine r_iald (cA := ad 100) (N := 9) S hK w (k := (25 + p1)) (Nat.lt_of_lt_of_le (Nat.add_lt_add_left hp1 25) (by decide)) (fun f => eC_st ad hp1 f) rfl g9 dX3_fadedInk_9 ?_
  refine lv_imul hx hb dX3_fadedInk_10 ?_
  refine lv_iload_n hx hb dX3_fadedInk_11 rfl (lv_at hl 3 rfl) ?_
  refine call0i (va_runV (As := [.ref (ad (17 + p1)), .int p2, .int (4 * (σ (25 + p1) (ix p2))), .int p3]) (rest := []) S (c_X3_fade l ad D s.heap.size σ p1 p2 (4 * (σ (25 + p1) (ix p2))) p3 hok hp1 (by omega)) (cwV 4 S.2.2.2.2 gX3_fadedInk_X3_fade rfl rfl rfl ⟨rfl, hd_X3_fade⟩ ⟨Nat.le_of_ble_eq_true rfl, Nat.le_of_ble_eq_true rfl⟩) (preV hK hN w (k := 0) (by decide) (eC_0 ad _) (q := (RX3, TX3, 14)) rfl) rfl rfl hl.1 rfl (lv_room (Nat.le_of_ble_eq_true rfl)) dX3_fadedInk_12 ⟨Nat.zero_le _, Nat.zero_le _⟩) ?_
  exact end0i S hr hlocks hG dX3_fadedInk_15
set_option maxHeartbeats 4000000 in
set_option maxRecDepth 100000 in
theorem c_X3_smellOf (l : Launch) (ad : Nat → Nat) (D : va_G) (sz : Nat) (σ : St) (p1 : Nat) (p2 : Int32) (p3 : Int32) (hok : OkC σ) (hp1 : p1 < 8) (hsm : 0 ≤ p2.toInt ∧ p2.toInt < 9) : Met l yX3_smellOf wsX3_smellOf ({ frames := 3, cells := 0, slots := 0, locals := 71 }) (PreW 41 (eC ad) ad D (tyC ad) σ sz ([.ref (ad 0), .ref (ad (33 + p1)), .int p2, .int p3] : List Value)) (Q0i (f_X3_smellOf σ p1 p2 p3)) 0 0 N0 := by
  generalize hG : f_X3_smellOf σ p1 p2 p3 = T
  refine headW (cc := cX3_smellOf) (maxL := 6) (ret := (some .int)) ([.ref (ad 0), .ref (ad (33 + p1)), .int p2, .int p3] : List Value) (by decide) rfl (Nat.le_of_ble_eq_true rfl) ?_
  intro p e s m below meth c S hr hlocks hK hN hsz w ls hl
  have S : CallFix p m c cX3_smellOf 6 s ([.ref (ad 0), .ref (ad (33 + p1)), .int p2, .int p3] : List Value).toArray wsX3_smellOf RX3 := S
  have hx := S.1
  have hb := S.2.1
  have z0 : (0 : Int32).toInt = 0 := by decide
  have z1 : (1 : Int32).toInt = 1 := by decide
  have hl : lv_has ls 6 [(0, .ref (ad 0)), (1, .ref (ad (33 + p1))), (2, .int p2), (3, .int p3)] := hl
  have hinX0 : ∀ w ∈ wsX00, w ∈ wsX3_smellOf := (fun _ h => List.mem_cons_of_mem _ (List.mem_append_left _ (List.mem_append_left _ (List.mem_append_right _ h))))
  have hinX3 : ∀ w ∈ wsX30, w ∈ wsX3_smellOf := (fun _ h => List.mem_cons_of_mem _ (List.mem_append_left _ (List.mem_append_right _ h)))
  have hinX2 : ∀ w ∈ wsX20, w ∈ wsX3_smellOf := (fun _ h => List.mem_cons_of_mem _ (List.mem_append_right _ h))
  have okf0 := hok.1
  have okf1 := hok.2.1
  have okf2 := hok.2.2.1
  have okf3 := hok.2.2.2.1
  have okf4 := hok.2.2.2.2.1
  have okf5 := hok.2.2.2.2.2
  rw [f_X3_smellOf] at hG
  refine lv_aload_n hx hb dX3_smellOf_0 rfl (lv_at hl 1 rfl) ?_
  refine lv_iload_n hx hb dX3_smellOf_1 rfl (lv_at hl 2 rfl) ?_
  refine call0i (va_runS (As := [.ref (ad (33 + p1)), .int p2]) (rest := []) S (c_X3_isWashed l ad D s.heap.size σ p1 p2 hp1) (va_cwS 2 S.2.2.2.2 gX3_smellOf_X3_isWashed rfl rfl rfl hd_X3_isWashed ⟨Nat.le_of_ble_eq_true rfl, Nat.le_of_ble_eq_true rfl⟩) (preS hK hN w) rfl rfl hl.1 rfl (lv_room (Nat.le_of_ble_eq_true rfl)) dX3_smellOf_2 ⟨Nat.zero_le _, Nat.zero_le _⟩) ?_
  refine lv_if_eq (tgt := 13) hx hb dX3_smellOf_5 (by decide) (fun c5 => ?_) (fun c5 => ?_)
  · rw [if_pos c5] at hG
    refine lv_iload_n hx hb dX3_smellOf_13 rfl (lv_at hl 3 rfl) ?_
    refine lv_aload_n hx hb dX3_smellOf_14 rfl (lv_at hl 1 rfl) ?_
    refine r_getN (C := RX0) (T := TX0) (N := 6) S hK hN w (k := (33 + p1)) (Nat.lt_of_lt_of_le (Nat.add_lt_add_left hp1 33) (by decide)) (eC_pa ad hp1 _) rfl hinX0 2 (by decide) 8 rfl rfl dX3_smellOf_15 ?_
    refine lv_isub hx hb dX3_smellOf_18 ?_
    refine lv_istore (lv' := [(4, .int (p3 - (σ (33 + p1) 2))), (0, .ref (ad 0)), (1, .ref (ad (33 + p1))), (2, .int p2), (3, .int p3)]) hx hb dX3_smellOf_19 hl (by decide) rfl (fun ls hl => ?_)
    refine lv_aload_n hx hb dX3_smellOf_21 rfl (lv_at hl 1 rfl) ?_
    refine lv_aload_n hx hb dX3_smellOf_22 rfl (lv_at hl 1 rfl) ?_
    refine r_get (C := RX3) (T := TX3) (N := 14) S hK w (k := 0) (by decide) (eC_0 ad _) rfl hinX3 1 (by decide) (List.mem_of_getElem? (i := 1) rfl) rfl dX3_smellOf_23 ?_
    refine lv_aload_n hx hb dX3_smellOf_26 rfl (lv_at hl 2 rfl) ?_
    refine r_getN (C := RX0) (T := TX0) (N := 6) S hK hN w (k := (33 + p1)) (Nat.lt_of_lt_of_le (Nat.add_lt_add_left hp1 33) (by decide)) (eC_pa ad hp1 _) rfl hinX0 0 (by decide) 6 rfl rfl dX3_smellOf_27 ?_
    have g30 : vp_in (σ (33 + p1) 0) 8 := (okf4 p1 hp1).1
    refine r_aald S hK w (k := 2) (by decide) (eC_2 ad _) (t0 := 2) rfl g30 dX3_smellOf_30 ?_
    refine lv_iload_n hx hb dX3_smellOf_31 rfl (lv_at hl 3 rfl) ?_
    refine lv_iload hx hb dX3_smellOf_32 (lv_at hl 0 rfl) ?_
    refine call0i (va_runV (As := [.ref (ad (17 + (ix (σ (33 + p1) 0)))), .int p2, .int (p3 - (σ (33 + p1) 2))]) (rest := []) S (c_X3_fadedInk l ad D s.heap.size σ (ix (σ (33 + p1) 0)) p2 (p3 - (σ (33 + p1) 2)) hok (vpl g30) (by omega)) (cwV 3 S.2.2.2.2 gX3_smellOf_X3_fadedInk rfl rfl rfl ⟨rfl, hd_X3_fadedInk⟩ ⟨Nat.le_of_ble_eq_true rfl, Nat.le_of_ble_eq_true rfl⟩) (preV hK hN w (k := 0) (by decide) (eC_0 ad _) (q := (RX3, TX3, 14)) rfl) rfl rfl hl.1 rfl (lv_room (Nat.le_of_ble_eq_true rfl)) dX3_smellOf_34 ⟨Nat.zero_le _, Nat.zero_le _⟩) ?_
    refine lv_aload_n hx hb dX3_smellOf_37 rfl (lv_at hl 1 rfl) ?_
    refine lv_aload_n hx hb dX3_smellOf_38 rfl (lv_at hl 1 rfl) ?_
    refine r_get (C := RX3) (T := TX3) (N := 14) S hK w (k := 0) (by decide) (eC_0 ad _) rfl hinX3 1 (by decide) (List.mem_of_getElem? (i := 1) rfl) rfl dX3_smellOf_39 ?_
    refine lv_aload_n hx hb dX3_smellOf_42 rfl (lv_at hl 2 rfl) ?_
    refine r_getN (C := RX0) (T := TX0) (N := 6) S hK hN w (k := (33 + p1)) (Nat.lt_of_lt_of_le (Nat.add_lt_add_left hp1 33) (by decide)) (eC_pa ad hp1 _) rfl hinX0 1 (by decide) 7 rfl rfl dX3_smellOf_43 ?_
    have g46 : vp_in (σ (33 + p1) 1) 8 := (okf4 p1 hp1).2
    refine r_aald S hK w (k := 2) (by decide) (eC_2 ad _) (t0 := 2) rfl g46 dX3_smellOf_46 ?_
    refine lv_iload_n hx hb dX3_smellOf_47 rfl (lv_at hl 3 rfl) ?_
    refine lv_iload hx hb dX3_smellOf_48 (lv_at hl 0 rfl) ?_
    refine call0i (va_runV (As := [.ref (ad (17 + (ix (σ (33 + p1) 1)))), .int p2, .int (p3 - (σ (33 + p1) 2))]) (rest := [.int (f_X3_fadedInk σ (ix (σ (33 + p1) 0)) p2 (p3 - (σ (33 + p1) 2)))]) S (c_X3_fadedInk l ad D s.heap.size σ (ix (σ (33 + p1) 1)) p2 (p3 - (σ (33 + p1) 2)) hok (vpl g46) (by omega)) (cwV 3 S.2.2.2.2 gX3_smellOf_X3_fadedInk rfl rfl rfl ⟨rfl, hd_X3_fadedInk⟩ ⟨Nat.le_of_ble_eq_true rfl, Nat.le_of_ble_eq_true rfl⟩) (preV hK hN w (k := 0) (by decide) (eC_0 ad _) (q := (RX3, TX3, 14)) rfl) rfl rfl hl.1 rfl (lv_room (Nat.le_of_ble_eq_true rfl)) dX3_smellOf_50 ⟨Nat.zero_le _, Nat.zero_le _⟩) ?_
    refine lv_iadd hx hb dX3_smellOf_53 ?_
    refine lv_istore (lv' := [(5, .int ((f_X3_fadedInk σ (ix (σ (33 + p1) 0)) p2 (p3 - (σ (33 + p1) 2))) + (f_X3_fadedInk σ (ix (σ (33 + p1) 1)) p2 (p3 - (σ (33 + p1) 2))))), (4, .int (p3 - (σ (33 + p1) 2))), (0, .ref (ad 0)), (1, .ref (ad (33 + p1))), (2, .int p2), (3, .int p3)]) hx hb dX3_smellOf_54 hl (by decide) rfl (fun ls hl => ?_)
    refine lv_iconst (v := 0) hx hb dX3_smellOf_56 (by decide) ?_
    refine lv_iload hx hb dX3_smellOf_57 (lv_at hl 0 rfl) ?_
    refine lv_aload_n hx hb dX3_smellOf_59 rfl (lv_at hl 3 rfl) ?_
    refine r_getN (C := RX0) (T := TX0) (N := 6) S hK hN w (k := (33 + p1)) (Nat.lt_of_lt_of_le (Nat.add_lt_add_left hp1 33) (by decide)) (eC_pa ad hp1 _) rfl hinX0 3 (by decide) 9 rfl rfl dX3_smellOf_60 ?_
    refine lv_isub hx hb dX3_smellOf_63 ?_
    refine r_max S hl.1 (List.mem_of_getElem? (i := 2) rfl) (List.mem_of_getElem? (i := 3) rfl) (List.mem_of_getElem? (i := 4) rfl) (List.mem_of_getElem? (i := 5) rfl) ⟨Nat.le_of_ble_eq_true rfl, Nat.le_of_ble_eq_true rfl, Nat.zero_le _, Nat.zero_le _⟩ dX3_smellOf_64 ?_
    refine lv_aload_n hx hb dX3_smellOf_67 rfl (lv_at hl 3 rfl) ?_
    refine r_getN (C := RX0) (T := TX0) (N := 6) S hK hN w (k := (33 + p1)) (Nat.lt_of_lt_of_le (Nat.add_lt_add_left hp1 33) (by decide)) (eC_pa ad hp1 _) rfl hinX0 5 (by decide) 11 rfl rfl dX3_smellOf_68 ?_
    refine lv_iadd hx hb dX3_smellOf_71 ?_
    exact end0i S hr hlocks hG dX3_smellOf_72
  · rw [if_neg c5] at hG
    refine lv_aload_n hx hb dX3_smellOf_8 rfl (lv_at hl 1 rfl) ?_
    refine r_getN (C := RX0) (T := TX0) (N := 6) S hK hN w (k := (33 + p1)) (Nat.lt_of_lt_of_le (Nat.add_lt_add_left hp1 33) (by decide)) (eC_pa ad hp1 _) rfl hinX0 5 (by decide) 11 rfl rfl dX3_smellOf_9 ?_
    exact end0i S hr hlocks hG dX3_smellOf_12
set_option maxHeartbeats 4000000 in
set_option maxRecDepth 100000 in
theorem c_X3_smells (l : Launch) (ad : Nat → Nat) (D : va_G) (sz : Nat) (σ : St) (p1 : Int32) (p2 : Int32) (p3 : Int32) (hok : OkC σ) : Met l yX3_smells wsX3_smells ({ frames := 4, cells := 0, slots := 0, locals := 96 }) (PreW 41 (eC ad) ad D (tyC ad) σ sz ([.ref (ad 0), .int p1, .int p2, .int p3] : List Value)) (Q0i (f_X3_smells σ p1 p2 p3)) 0 0 N0 := by
  generalize hG : f_X3_smells σ p1 p2 p3 = T
  refine headW (cc := cX3_smells) (maxL := 4) (ret := (some .int)) ([.ref (ad 0), .int p1, .int p2, .int p3] : List Value) (by decide) rfl (Nat.le_of_ble_eq_true rfl) ?_
  intro p e s m below meth c S hr hlocks hK hN hsz w ls hl
  have S : CallFix p m c cX3_smells 4 s ([.ref (ad 0), .int p1, .int p2, .int p3] : List Value).toArray wsX3_smells RX3 := S
  have hx := S.1
  have hb := S.2.1
  have z0 : (0 : Int32).toInt = 0 := by decide
  have z1 : (1 : Int32).toInt = 1 := by decide
  have hl : lv_has ls 4 [(0, .ref (ad 0)), (1, .int p1), (2, .int p2), (3, .int p3)] := hl
  have hinX3 : ∀ w ∈ wsX30, w ∈ wsX3_smells := (fun _ h => List.mem_cons_of_mem _ (List.mem_append_left _ (List.mem_append_left _ (List.mem_append_right _ h))))
  have hinX0 : ∀ w ∈ wsX00, w ∈ wsX3_smells := (fun _ h => List.mem_cons_of_mem _ (List.mem_append_left _ (List.mem_append_right _ h)))
  have hinX2 : ∀ w ∈ wsX20, w ∈ wsX3_smells := (fun _ h => List.mem_cons_of_mem _ (List.mem_append_right _ h))
  have okf0 := hok.1
  have okf1 := hok.2.1
  have okf2 := hok.2.2.1
  have okf3 := hok.2.2.2.1
  have okf4 := hok.2.2.2.2.1
  have okf5 := hok.2.2.2.2.2
  rw [f_X3_smells] at hG
  refine lv_aload_n hx hb dX3_smells_0 rfl (lv_at hl 0 rfl) ?_
  refine lv_iload_n hx hb dX3_smells_1 rfl (lv_at hl 1 rfl) ?_
  refine call0i (va_runV (As := [.int p1]) (rest := []) S (c_X3_isPaper l ad D s.heap.size σ p1) (cwV 1 S.2.2.2.2 gX3_smells_X3_isPaper rfl rfl rfl ⟨rfl, hd_X3_isPaper⟩ ⟨Nat.le_of_ble_eq_true rfl, Nat.le_of_ble_eq_true rfl⟩) (preV hK hN w (k := 0) (by decide) (eC_0 ad _) (q := (RX3, TX3, 14)) rfl) rfl rfl hl.1 rfl (lv_room (Nat.le_of_ble_eq_true rfl)) dX3_smells_2 ⟨Nat.zero_le _, Nat.zero_le _⟩) ?_
  refine lv_if_eq (tgt := 15) hx hb dX3_smells_5 (by decide) (fun c5 => ?_) (fun c5 => ?_)
  · rw [if_pos c5] at hG
    refine lv_iconst (v := (-1)) hx hb dX3_smells_15 (by decide) ?_
    exact end0i S hr hlocks hG dX3_smells_16
  · have t5 := bf_isPaper_n c5
    rw [if_neg c5] at hG
    refine lv_iload_n hx hb dX3_smells_8 rfl (lv_at hl 2 rfl) ?_
    refine call0i (va_runS (As := [.int p2]) (rest := []) S (c_X3_isSmell l p2) (va_cwS 1 S.2.2.2.2 gX3_smells_X3_isSmell rfl rfl rfl hd_X3_isSmell ⟨Nat.le_of_ble_eq_true rfl, Nat.le_of_ble_eq_true rfl⟩) pre0S rfl rfl hl.1 rfl (lv_room (Nat.le_of_ble_eq_true rfl)) dX3_smells_9 ⟨Nat.zero_le _, Nat.zero_le _⟩) ?_
    refine lv_if_ne (tgt := 17) hx hb dX3_smells_12 (by decide) (fun c12 => ?_) (fun c12 => ?_)
    · have t12 := bf_isSmell_n c12
      rw [if_neg c12] at hG
      refine lv_iload_n hx hb dX3_smells_17 rfl (lv_at hl 3 rfl) ?_
      refine lv_aload_n hx hb dX3_smells_18 rfl (lv_at hl 0 rfl) ?_
      refine r_get (C := RX3) (T := TX3) (N := 14) S hK w (k := 0) (by decide) (eC_0 ad _) rfl hinX3 2 (by decide) (List.mem_of_getElem? (i := 1) rfl) rfl dX3_smells_19 ?_
      refine lv_iload_n hx hb dX3_smells_22 rfl (lv_at hl 1 rfl) ?_
      have g23 : vp_in p1 8 := vpi (by omega) (by omega)
      refine r_aald S hK w (k := 3) (by decide) (eC_3 ad _) (t0 := 3) rfl g23 dX3_smells_23 ?_
      refine r_getN (C := RX0) (T := TX0) (N := 6) S hK hN w (k := (33 + (ix p1))) (Nat.lt_of_lt_of_le (Nat.add_lt_add_left (vpl g23) 33) (by decide)) (eC_pa ad (vpl g23) _) rfl hinX0 2 (by decide) 8 rfl rfl dX3_smells_24 ?_
      refine lv_icmp_lt (tgt := 36) hx hb dX3_smells_27 (by decide) (fun c27 => ?_) (fun c27 => ?_)
      · have t27 : p3.toInt < (σ (33 + (ix p1)) 2).toInt := qt_lt c27
        rw [if_pos c27] at hG
        refine lv_bipush (v := (-2)) hx hb dX3_smells_36 (by decide) ?_
        exact end0i S hr hlocks hG dX3_smells_38
      · have t27 : (σ (33 + (ix p1)) 2).toInt ≤ p3.toInt := qt_nlt c27
        rw [if_neg c27] at hG
        refine lv_iload_n hx hb dX3_smells_30 rfl (lv_at hl 3 rfl) ?_
        refine lv_bipush (v := 99) hx hb dX3_smells_31 (by decide) ?_
        refine lv_icmp_le (tgt := 39) hx hb dX3_smells_33 (by decide) (fun c33 => ?_) (fun c33 => ?_)
        · have t33 : p3.toInt ≤ 99 := qt_le c33
          rw [if_pos c33] at hG
          refine lv_aload_n hx hb dX3_smells_39 rfl (lv_at hl 0 rfl) ?_
          refine lv_aload_n hx hb dX3_smells_40 rfl (lv_at hl 0 rfl) ?_
          refine r_get (C := RX3) (T := TX3) (N := 14) S hK w (k := 0) (by decide) (eC_0 ad _) rfl hinX3 2 (by decide) (List.mem_of_getElem? (i := 1) rfl) rfl dX3_smells_41 ?_
          refine lv_iload_n hx hb dX3_smells_44 rfl (lv_at hl 1 rfl) ?_
          have g45 : vp_in p1 8 := vpi (by omega) (by omega)
          refine r_aald S hK w (k := 3) (by decide) (eC_3 ad _) (t0 := 3) rfl g45 dX3_smells_45 ?_
          refine lv_iload_n hx hb dX3_smells_46 rfl (lv_at hl 2 rfl) ?_
          refine lv_iload_n hx hb dX3_smells_47 rfl (lv_at hl 3 rfl) ?_
          refine call0i (va_runV (As := [.ref (ad (33 + (ix p1))), .int p2, .int p3]) (rest := []) S (c_X3_smellOf l ad D s.heap.size σ (ix p1) p2 p3 hok (vpl g45) (by omega)) (cwV 3 S.2.2.2.2 gX3_smells_X3_smellOf rfl rfl rfl ⟨rfl, hd_X3_smellOf⟩ ⟨Nat.le_of_ble_eq_true rfl, Nat.le_of_ble_eq_true rfl⟩) (preV hK hN w (k := 0) (by decide) (eC_0 ad _) (q := (RX3, TX3, 14)) rfl) rfl rfl hl.1 rfl (lv_room (Nat.le_of_ble_eq_true rfl)) dX3_smells_48 ⟨Nat.zero_le _, Nat.zero_le _⟩) ?_
          exact end0i S hr hlocks hG dX3_smells_51
        · have t33 : 99 < p3.toInt := qt_nle c33
          rw [if_neg c33] at hG
          refine lv_bipush (v := (-2)) hx hb dX3_smells_36 (by decide) ?_
          exact end0i S hr hlocks hG dX3_smells_38
    · rw [if_pos c12] at hG
      refine lv_iconst (v := (-1)) hx hb dX3_smells_15 (by decide) ?_
      exact end0i S hr hlocks hG dX3_smells_16
set_option maxHeartbeats 4000000 in
set_option maxRecDepth 100000 in
theorem c_X3_wash (l : Launch) (ad : Nat → Nat) (D : va_G) (sz : Nat) (σ : St) (p1 : Int32) (p2 : Int32) (hok : OkC σ) : Met l yX3_wash wsX3_wash ({ frames := 1, cells := 0, slots := 0, locals := 21 }) (PreW 41 (eC ad) ad D (tyC ad) σ sz ([.ref (ad 0), .int p1, .int p2] : List Value)) (QWi 41 (eC ad) ad D (f_X3_wash σ p1 p2) (CA 41 ad sz)) 0 0 (CA 41 ad sz) := by
  generalize hG : f_X3_wash σ p1 p2 = T
  refine headW (cc := cX3_wash) (maxL := 4) (ret := (some .int)) ([.ref (ad 0), .int p1, .int p2] : List Value) (by decide) rfl (Nat.le_of_ble_eq_true rfl) ?_
  intro p e s m below meth c S hr hlocks hK hN hsz w ls hl
  have S : CallFix p m c cX3_wash 4 s ([.ref (ad 0), .int p1, .int p2] : List Value).toArray wsX3_wash RX3 := S
  have hx := S.1
  have hb := S.2.1
  have z0 : (0 : Int32).toInt = 0 := by decide
  have z1 : (1 : Int32).toInt = 1 := by decide
  have hl : lv_has ls 4 [(0, .ref (ad 0)), (1, .int p1), (2, .int p2)] := hl
  have hinX3 : ∀ w ∈ wsX30, w ∈ wsX3_wash := (fun _ h => List.mem_cons_of_mem _ (List.mem_append_left _ (List.mem_append_right _ h)))
  have hinX0 : ∀ w ∈ wsX00, w ∈ wsX3_wash := (fun _ h => List.mem_cons_of_mem _ (List.mem_append_right _ h))
  have okf0 := hok.1
  have okf1 := hok.2.1
  have okf2 := hok.2.2.1
  have okf3 := hok.2.2.2.1
  have okf4 := hok.2.2.2.2.1
  have okf5 := hok.2.2.2.2.2
  rw [f_X3_wash] at hG
  refine lv_aload_n hx hb dX3_wash_0 rfl (lv_at hl 0 rfl) ?_
  refine lv_iload_n hx hb dX3_wash_1 rfl (lv_at hl 1 rfl) ?_
  refine call0i (va_runV (As := [.int p1]) (rest := []) S (c_X3_isPaper l ad D s.heap.size σ p1) (cwV 1 S.2.2.2.2 gX3_wash_X3_isPaper rfl rfl rfl ⟨rfl, hd_X3_isPaper⟩ ⟨Nat.le_of_ble_eq_true rfl, Nat.le_of_ble_eq_true rfl⟩) (preV hK hN w (k := 0) (by decide) (eC_0 ad _) (q := (RX3, TX3, 14)) rfl) rfl rfl hl.1 rfl (lv_room (Nat.le_of_ble_eq_true rfl)) dX3_wash_2 ⟨Nat.zero_le _, Nat.zero_le _⟩) ?_
  refine lv_if_eq (tgt := 15) hx hb dX3_wash_5 (by decide) (fun c5 => ?_) (fun c5 => ?_)
  · rw [if_pos c5] at hG
    refine lv_iconst (v := (-1)) hx hb dX3_wash_15 (by decide) ?_
    exact endWi S hr hlocks w hG dX3_wash_16
  · have t5 := bf_isPaper_n c5
    rw [if_neg c5] at hG
    refine lv_iload_n hx hb dX3_wash_8 rfl (lv_at hl 2 rfl) ?_
    refine call0i (va_runS (As := [.int p2]) (rest := []) S (c_X3_isSmell l p2) (va_cwS 1 S.2.2.2.2 gX3_wash_X3_isSmell rfl rfl rfl hd_X3_isSmell ⟨Nat.le_of_ble_eq_true rfl, Nat.le_of_ble_eq_true rfl⟩) pre0S rfl rfl hl.1 rfl (lv_room (Nat.le_of_ble_eq_true rfl)) dX3_wash_9 ⟨Nat.zero_le _, Nat.zero_le _⟩) ?_
    refine lv_if_ne (tgt := 17) hx hb dX3_wash_12 (by decide) (fun c12 => ?_) (fun c12 => ?_)
    · have t12 := bf_isSmell_n c12
      rw [if_neg c12] at hG
      refine lv_aload_n hx hb dX3_wash_17 rfl (lv_at hl 0 rfl) ?_
      refine r_get (C := RX3) (T := TX3) (N := 14) S hK w (k := 0) (by decide) (eC_0 ad _) rfl hinX3 2 (by decide) (List.mem_of_getElem? (i := 1) rfl) rfl dX3_wash_18 ?_
      refine lv_iload_n hx hb dX3_wash_21 rfl (lv_at hl 1 rfl) ?_
      have g22 : vp_in p1 8 := vpi (by omega) (by omega)
      refine r_aald S hK w (k := 3) (by decide) (eC_3 ad _) (t0 := 3) rfl g22 dX3_wash_22 ?_
      refine lv_astore_n (lv' := [(3, .ref (ad (33 + (ix p1)))), (0, .ref (ad 0)), (1, .int p1), (2, .int p2)]) hx hb dX3_wash_23 rfl hl (by decide) rfl (fun ls hl => ?_)
      refine lv_aload_n hx hb dX3_wash_24 rfl (lv_at hl 0 rfl) ?_
      refine lv_iload_n hx hb dX3_wash_25 rfl (lv_at hl 3 rfl) ?_
      refine call0i (va_runS (As := [.ref (ad (33 + (ix p1))), .int p2]) (rest := []) S (c_X3_isWashed l ad D s.heap.size σ (ix p1) p2 (vpl g22)) (va_cwS 2 S.2.2.2.2 gX3_wash_X3_isWashed rfl rfl rfl hd_X3_isWashed ⟨Nat.le_of_ble_eq_true rfl, Nat.le_of_ble_eq_true rfl⟩) (preS hK hN w) rfl rfl hl.1 rfl (lv_room (Nat.le_of_ble_eq_true rfl)) dX3_wash_26 ⟨Nat.zero_le _, Nat.zero_le _⟩) ?_
      refine lv_if_eq (tgt := 34) hx hb dX3_wash_29 (by decide) (fun c29 => ?_) (fun c29 => ?_)
      · rw [if_pos c29] at hG
        refine lv_aload_n hx hb dX3_wash_34 rfl (lv_at hl 0 rfl) ?_
        refine lv_dup hx hb dX3_wash_35 rfl ?_
        refine r_getN (C := RX0) (T := TX0) (N := 6) S hK hN w (k := (33 + (ix p1))) (Nat.lt_of_lt_of_le (Nat.add_lt_add_left (vpl g22) 33) (by decide)) (eC_pa ad (vpl g22) _) rfl hinX0 4 (by decide) 10 rfl rfl dX3_wash_36 ?_
        refine lv_iconst (v := 1) hx hb dX3_wash_39 (by decide) ?_
        refine lv_iload_n hx hb dX3_wash_40 rfl (lv_at hl 3 rfl) ?_
        refine lv_ishl hx hb dX3_wash_41 ?_
        refine lv_ior hx hb dX3_wash_42 ?_
        refine r_putN (C := RX0) (T := TX0) (N := 6) S hK hN w (k := (33 + (ix p1))) (Nat.lt_of_lt_of_le (Nat.add_lt_add_left (vpl g22) 33) (by decide)) (eC_pa ad (vpl g22) _) rfl hinX0 tyX0 tyX0_ok nmX0 4 (by decide) 10 rfl rfl (x := ((σ (33 + (ix p1)) 4) ||| ((1 : Int32) <<< (p2 &&& 31)))) (ty := .int) (by decide +kernel) rfl rfl (by show _ < List.length _; exact Nat.le_of_ble_eq_true rfl) (sPa ad (vpl g22) _ _ 4 (by decide)) dX3_wash_43 (fun H locs w => ?_)
        refine lv_iconst (v := 1) hx hb dX3_wash_46 (by decide) ?_
        exact endWi S hr hlocks w hG dX3_wash_47
      · rw [if_neg c29] at hG
        refine lv_iconst (v := 0) hx hb dX3_wash_32 (by decide) ?_
        exact endWi S hr hlocks w hG dX3_wash_33
    · rw [if_pos c12] at hG
      refine lv_iconst (v := (-1)) hx hb dX3_wash_15 (by decide) ?_
      exact endWi S hr hlocks w hG dX3_wash_16
set_option maxHeartbeats 4000000 in
set_option maxRecDepth 100000 in
theorem c_X3_flood (l : Launch) (ad : Nat → Nat) (D : va_G) (sz : Nat) (σ : St) (p1 : Int32) (hok : OkC σ) : Met l yX3_flood wsX3_flood ({ frames := 0, cells := 0, slots := 0, locals := 0 }) (PreW 41 (eC ad) ad D (tyC ad) σ sz ([.ref (ad 0), .int p1] : List Value)) (QWi 41 (eC ad) ad D (f_X3_flood σ p1) (CA 41 ad sz)) 0 0 (CA 41 ad sz) := by
  generalize hG : f_X3_flood σ p1 = T
  refine headW (cc := cX3_flood) (maxL := 3) (ret := (some .int)) ([.ref (ad 0), .int p1] : List Value) (by decide) rfl (Nat.le_of_ble_eq_true rfl) ?_
  intro p e s m below meth c S hr hlocks hK hN hsz w ls hl
  have S : CallFix p m c cX3_flood 3 s ([.ref (ad 0), .int p1] : List Value).toArray wsX3_flood RX3 := S
  have hx := S.1
  have hb := S.2.1
  have z0 : (0 : Int32).toInt = 0 := by decide
  have z1 : (1 : Int32).toInt = 1 := by decide
  have hl : lv_has ls 3 [(0, .ref (ad 0)), (1, .int p1)] := hl
  have hinX3 : ∀ w ∈ wsX30, w ∈ wsX3_flood := (fun _ h => List.mem_cons_of_mem _ (List.mem_append_left _ (List.mem_append_right _ h)))
  have hinX0 : ∀ w ∈ wsX00, w ∈ wsX3_flood := (fun _ h => List.mem_cons_of_mem _ (List.mem_append_right _ h))
  have okf0 := hok.1
  have okf1 := hok.2.1
  have okf2 := hok.2.2.1
  have okf3 := hok.2.2.2.1
  have okf4 := hok.2.2.2.2.1
  have okf5 := hok.2.2.2.2.2
  rw [f_X3_flood] at hG
  refine lv_iload_n hx hb dX3_flood_0 rfl (lv_at hl 1 rfl) ?_
  refine lv_iconst (v := 1) hx hb dX3_flood_1 (by decide) ?_
  refine lv_icmp_lt (tgt := 11) hx hb dX3_flood_2 (by decide) (fun c2 => ?_) (fun c2 => ?_)
  · have t2 : p1.toInt < 1 := qt_lt c2
    rw [if_pos c2] at hG
    refine lv_bipush (v := (-2)) hx hb dX3_flood_11 (by decide) ?_
    exact endWi S hr hlocks w hG dX3_flood_13
  · have t2 : 1 ≤ p1.toInt := qt_nlt c2
    rw [if_neg c2] at hG
    refine lv_iload_n hx hb dX3_flood_5 rfl (lv_at hl 1 rfl) ?_
    refine lv_bipush (v := 9) hx hb dX3_flood_6 (by decide) ?_
    refine lv_icmp_le (tgt := 14) hx hb dX3_flood_8 (by decide) (fun c8 => ?_) (fun c8 => ?_)
    · have t8 : p1.toInt ≤ 9 := qt_le c8
      rw [if_pos c8] at hG
      refine lv_iconst (v := 0) hx hb dX3_flood_14 (by decide) ?_
      refine lv_istore_n (lv' := [(2, .int 0), (0, .ref (ad 0)), (1, .int p1)]) hx hb dX3_flood_15 rfl hl (by decide) rfl (fun ls hl => ?_)
      have L16 : ∀ (n : Nat) (res16 : St), ∀ (v2_16 : Int32), ∀ (S_16 : St), ((OkC S_16) ∧ (0 ≤ v2_16.toInt ∧ v2_16.toInt ≤ 8)) → (8 - v2_16.toInt).toNat < n → (lp_X3_flood_16 p1 n v2_16 S_16) = res16 → (∀ (S_16e : St), (OkC S_16e) → res16 = S_16e → ∀ (H : Heap) (locs : List Loc), CW 41 (eC ad) ad D (CA 41 ad sz) s.heap S_16e H locs → ∀ ls : Array Slot, lv_has ls 3 [(0, .ref (ad 0))] → W p l e (headSpec wsX3_flood ({ frames := 0, cells := 0, slots := 0, locals := 0 })).room s m ([.ref (ad 0), .int p1] : List Value).toArray below meth c H locs 0 0 (MQ below (QWi 41 (eC ad) ad D T (CA 41 ad sz)) ([.ref (ad 0), .int p1] : List Value).toArray s 0 0 (CA 41 ad sz)) (F0 m 45 ls [])) → ∀ (H : Heap) (locs : List Loc), CW 41 (eC ad) ad D (CA 41 ad sz) s.heap S_16 H locs → ∀ ls : Array Slot, lv_has ls 3 [(0, .ref (ad 0)), (1, .int p1), (2, .int v2_16)] → W p l e (headSpec wsX3_flood ({ frames := 0, cells := 0, slots := 0, locals := 0 })).room s m ([.ref (ad 0), .int p1] : List Value).toArray below meth c H locs 0 0 (MQ below (QWi 41 (eC ad) ad D T (CA 41 ad sz)) ([.ref (ad 0), .int p1] : List Value).toArray s 0 0 (CA 41 ad sz)) (F0 m 16 ls []) := by
        intro n
        induction n with
        | zero => intro _ _ _ _ hm; exact absurd hm (Nat.not_lt_zero _)
        | succ n ih16 =>
          intro res16 v2_16 S_16 hI16 hm16 hG hex16 H locs w ls hl
          obtain ⟨hok, i16_1⟩ := id hI16
          have okf0 := hok.1
          have okf1 := hok.2.1
          have okf2 := hok.2.2.1
          have okf3 := hok.2.2.2.1
          have okf4 := hok.2.2.2.2.1
          have okf5 := hok.2.2.2.2.2
          rw [lp_X3_flood_16] at hG
          refine lv_iload_n hx hb dX3_flood_16 rfl (lv_at hl 2 rfl) ?_
          refine lv_aload_n hx hb dX3_flood_17 rfl (lv_at hl 0 rfl) ?_
          refine r_get (C := RX3) (T := TX3) (N := 14) S hK w (k := 0) (by decide) (eC_0 ad _) rfl hinX3 5 (by decide) (List.mem_of_getElem? (i := 1) rfl) rfl dX3_flood_18 ?_
          refine lv_icmp_ge (tgt := 45) hx hb dX3_flood_21 (by decide) (fun c21 => ?_) (fun c21 => ?_)
          · have t21 : (S_16 0 5).toInt ≤ v2_16.toInt := qt_le c21
            rw [if_pos c21] at hG
            exact hex16 S_16 hok hG.symm _ _ w ls (lv_sub hl [0] rfl)
          · have t21 : v2_16.toInt < (S_16 0 5).toInt := qt_nle c21
            rw [if_neg c21] at hG
            refine lv_aload_n hx hb dX3_flood_24 rfl (lv_at hl 0 rfl) ?_
            refine r_get (C := RX3) (T := TX3) (N := 14) S hK w (k := 0) (by decide) (eC_0 ad _) rfl hinX3 2 (by decide) (List.mem_of_getElem? (i := 2) rfl) rfl dX3_flood_25 ?_
            refine lv_iload_n hx hb dX3_flood_28 rfl (lv_at hl 2 rfl) ?_
            have g29 : vp_in v2_16 8 := vpi (by omega) (by omega)
            refine r_aald S hK w (k := 3) (by decide) (eC_3 ad _) (t0 := 3) rfl g29 dX3_flood_29 ?_
            refine lv_dup hx hb dX3_flood_30 rfl ?_
            refine r_getN (C := RX0) (T := TX0) (N := 6) S hK hN w (k := (33 + (ix v2_16))) (Nat.lt_of_lt_of_le (Nat.add_lt_add_left (vpl g29) 33) (by decide)) (eC_pa ad (vpl g29) _) rfl hinX0 5 (by decide) 11 rfl rfl dX3_flood_31 ?_
            refine lv_iload_n hx hb dX3_flood_34 rfl (lv_at hl 1 rfl) ?_
            refine lv_iadd hx hb dX3_flood_35 ?_
            refine r_putN (C := RX0) (T := TX0) (N := 6) S hK hN w (k := (33 + (ix v2_16))) (Nat.lt_of_lt_of_le (Nat.add_lt_add_left (vpl g29) 33) (by decide)) (eC_pa ad (vpl g29) _) rfl hinX0 tyX0 tyX0_ok nmX0 5 (by decide) 11 rfl rfl (x := ((S_16 (33 + (ix v2_16)) 5) + p1)) (ty := .int) (by decide +kernel) rfl rfl (by show _ < List.length _; exact Nat.le_of_ble_eq_true rfl) (sPa ad (vpl g29) _ _ 5 (by decide)) dX3_flood_36 (fun H locs w => ?_)
            have hok : OkC (u2 S_16 (33 + (ix v2_16)) 5 ((S_16 (33 + (ix v2_16)) 5) + p1)) := okC_pa (by decide) hok
            have okf0 := hok.1
            have okf1 := hok.2.1
            have okf2 := hok.2.2.1
            have okf3 := hok.2.2.2.1
            have okf4 := hok.2.2.2.2.1
            have okf5 := hok.2.2.2.2.2
            refine lv_iinc (v := (v2_16 + 1)) (lv' := [(2, .int (v2_16 + 1)), (0, .ref (ad 0)), (1, .int p1)]) hx hb dX3_flood_39 hl (k := 2) rfl rfl (by decide) rfl (fun ls hl => ?_)
            refine lv_goto (tgt := 16) hx hb dX3_flood_42 (by decide) ?_
            have b2_16 : (v2_16 + 1).toInt = v2_16.toInt + 1 := inc_toInt (by omega) (by omega)
            exact ih16 _ (v2_16 + 1) (u2 S_16 (33 + (ix v2_16)) 5 ((S_16 (33 + (ix v2_16)) 5) + p1)) ⟨hok, (by omega)⟩ (by omega) hG hex16 _ _ w ls (lv_sub hl [1, 2, 0] rfl)
      refine L16 200 _ 0 σ ⟨hok, (by omega)⟩ (by omega) rfl (fun S_16e hok hr16 H locs w ls hl => ?_) _ _ w ls (lv_sub hl [1, 2, 0] rfl)
      rw [hr16] at hG
      have okf0 := hok.1
      have okf1 := hok.2.1
      have okf2 := hok.2.2.1
      have okf3 := hok.2.2.2.1
      have okf4 := hok.2.2.2.2.1
      have okf5 := hok.2.2.2.2.2
      refine lv_aload_n hx hb dX3_flood_45 rfl (lv_at hl 0 rfl) ?_
      refine r_get (C := RX3) (T := TX3) (N := 14) S hK w (k := 0) (by decide) (eC_0 ad _) rfl hinX3 5 (by decide) (List.mem_of_getElem? (i := 1) rfl) rfl dX3_flood_46 ?_
      exact endWi S hr hlocks w hG dX3_flood_49
    · have t8 : 9 < p1.toInt := qt_nle c8
      rw [if_neg c8] at hG
      refine lv_bipush (v := (-2)) hx hb dX3_flood_11 (by decide) ?_
      exact endWi S hr hlocks w hG dX3_flood_13
set_option maxHeartbeats 4000000 in
set_option maxRecDepth 100000 in
theorem c_X3_smellPaper (l : Launch) (ad : Nat → Nat) (D : va_G) (sz : Nat) (σ : St) (p1 : Nat) (p2 : Int32) (hok : OkC σ) (hp1 : p1 < 8) : Met l yX3_smellPaper wsX3_smellPaper ({ frames := 4, cells := 0, slots := 0, locals := 96 }) (PreW 41 (eC ad) ad D (tyC ad) σ sz ([.ref (ad 0), .ref (ad (33 + p1)), .int p2] : List Value)) (QWv 41 (eC ad) ad D (f_X3_smellPaper σ p1 p2) (CA 41 ad sz)) 0 0 (CA 41 ad sz) := by
  generalize hG : f_X3_smellPaper σ p1 p2 = T
  refine headW (cc := cX3_smellPaper) (maxL := 4) (ret := none) ([.ref (ad 0), .ref (ad (33 + p1)), .int p2] : List Value) (by decide) rfl (Nat.le_of_ble_eq_true rfl) ?_
  intro p e s m below meth c S hr hlocks hK hN hsz w ls hl
  have S : CallFix p m c cX3_smellPaper 4 s ([.ref (ad 0), .ref (ad (33 + p1)), .int p2] : List Value).toArray wsX3_smellPaper RX3 := S
  have hx := S.1
  have hb := S.2.1
  have z0 : (0 : Int32).toInt = 0 := by decide
  have z1 : (1 : Int32).toInt = 1 := by decide
  have hl : lv_has ls 4 [(0, .ref (ad 0)), (1, .ref (ad (33 + p1))), (2, .int p2)] := hl
  have hinX3 : ∀ w ∈ wsX30, w ∈ wsX3_smellPaper := (fun _ h => List.mem_cons_of_mem _ (List.mem_append_left _ (List.mem_append_left _ (List.mem_append_right _ h))))
  have hinX0 : ∀ w ∈ wsX00, w ∈ wsX3_smellPaper := (fun _ h => List.mem_cons_of_mem _ (List.mem_append_left _ (List.mem_append_right _ h)))
  have hinX2 : ∀ w ∈ wsX20, w ∈ wsX3_smellPaper := (fun _ h => List.mem_cons_of_mem _ (List.mem_append_right _ h))
  have okf0 := hok.1
  have okf1 := hok.2.1
  have okf2 := hok.2.2.1
  have okf3 := hok.2.2.2.1
  have okf4 := hok.2.2.2.2.1
  have okf5 := hok.2.2.2.2.2
  rw [f_X3_smellPaper] at hG
  refine lv_iconst (v := 0) hx hb dX3_smellPaper_0 (by decide) ?_
  refine lv_istore_n (lv' := [(3, .int 0), (0, .ref (ad 0)), (1, .ref (ad (33 + p1))), (2, .int p2)]) hx hb dX3_smellPaper_1 rfl hl (by decide) rfl (fun ls hl => ?_)
  have L2 : ∀ (n : Nat) (res2 : St), ∀ (v3_2 : Int32), ∀ (S_2 : St), ((OkC S_2) ∧ (0 ≤ v3_2.toInt ∧ v3_2.toInt ≤ 9)) → (9 - v3_2.toInt).toNat < n → (lp_X3_smellPaper_2 p1 p2 n v3_2 S_2) = res2 → (∀ (S_2e : St), (OkC S_2e) → res2 = S_2e → ∀ (H : Heap) (locs : List Loc), CW 41 (eC ad) ad D (CA 41 ad sz) s.heap S_2e H locs → ∀ ls : Array Slot, lv_has ls 4 [(0, .ref (ad 0))] → W p l e (headSpec wsX3_smellPaper ({ frames := 4, cells := 0, slots := 0, locals := 96 })).room s m ([.ref (ad 0), .ref (ad (33 + p1)), .int p2] : List Value).toArray below meth c H locs 0 0 (MQ below (QWv 41 (eC ad) ad D T (CA 41 ad sz)) ([.ref (ad 0), .ref (ad (33 + p1)), .int p2] : List Value).toArray s 0 0 (CA 41 ad sz)) (F0 m 27 ls [])) → ∀ (H : Heap) (locs : List Loc), CW 41 (eC ad) ad D (CA 41 ad sz) s.heap S_2 H locs → ∀ ls : Array Slot, lv_has ls 4 [(0, .ref (ad 0)), (1, .ref (ad (33 + p1))), (2, .int p2), (3, .int v3_2)] → W p l e (headSpec wsX3_smellPaper ({ frames := 4, cells := 0, slots := 0, locals := 96 })).room s m ([.ref (ad 0), .ref (ad (33 + p1)), .int p2] : List Value).toArray below meth c H locs 0 0 (MQ below (QWv 41 (eC ad) ad D T (CA 41 ad sz)) ([.ref (ad 0), .ref (ad (33 + p1)), .int p2] : List Value).toArray s 0 0 (CA 41 ad sz)) (F0 m 2 ls []) := by
    intro n
    induction n with
    | zero => intro _ _ _ _ hm; exact absurd hm (Nat.not_lt_zero _)
    | succ n ih2 =>
      intro res2 v3_2 S_2 hI2 hm2 hG hex2 H locs w ls hl
      obtain ⟨hok, i2_1⟩ := id hI2
      have okf0 := hok.1
      have okf1 := hok.2.1
      have okf2 := hok.2.2.1
      have okf3 := hok.2.2.2.1
      have okf4 := hok.2.2.2.2.1
      have okf5 := hok.2.2.2.2.2
      rw [lp_X3_smellPaper_2] at hG
      refine lv_iload_n hx hb dX3_smellPaper_2 rfl (lv_at hl 3 rfl) ?_
      refine lv_bipush (v := 9) hx hb dX3_smellPaper_3 (by decide) ?_
      refine lv_icmp_ge (tgt := 27) hx hb dX3_smellPaper_5 (by decide) (fun c5 => ?_) (fun c5 => ?_)
      · have t5 : 9 ≤ v3_2.toInt := qt_le c5
        rw [if_pos c5] at hG
        exact hex2 S_2 hok hG.symm _ _ w ls (lv_sub hl [0] rfl)
      · have t5 : v3_2.toInt < 9 := qt_nle c5
        rw [if_neg c5] at hG
        refine lv_aload_n hx hb dX3_smellPaper_8 rfl (lv_at hl 0 rfl) ?_
        refine r_get (C := RX3) (T := TX3) (N := 14) S hK w (k := 0) (by decide) (eC_0 ad _) rfl hinX3 10 (by decide) (List.mem_of_getElem? (i := 1) rfl) rfl dX3_smellPaper_9 ?_
        refine lv_iload_n hx hb dX3_smellPaper_12 rfl (lv_at hl 3 rfl) ?_
        refine lv_aload_n hx hb dX3_smellPaper_13 rfl (lv_at hl 0 rfl) ?_
        refine lv_aload_n hx hb dX3_smellPaper_14 rfl (lv_at hl 1 rfl) ?_
        refine lv_iload_n hx hb dX3_smellPaper_15 rfl (lv_at hl 3 rfl) ?_
        refine lv_iload_n hx hb dX3_smellPaper_16 rfl (lv_at hl 2 rfl) ?_
        refine call0i (va_runV (As := [.ref (ad (33 + p1)), .int v3_2, .int p2]) (rest := [.int v3_2, .ref (ad 5)]) S (c_X3_smellOf l ad D H.size S_2 p1 v3_2 p2 hok hp1 (by omega)) (cwV 3 S.2.2.2.2 gX3_smellPaper_X3_smellOf rfl rfl rfl ⟨rfl, hd_X3_smellOf⟩ ⟨Nat.le_of_ble_eq_true rfl, Nat.le_of_ble_eq_true rfl⟩) (preV hK hN w (k := 0) (by decide) (eC_0 ad _) (q := (RX3, TX3, 14)) rfl) rfl rfl hl.1 rfl (lv_room (Nat.le_of_ble_eq_true rfl)) dX3_smellPaper_17 ⟨Nat.zero_le _, Nat.zero_le _⟩) ?_
        have g20 : vp_in v3_2 9 := vpi (by omega) (by omega)
        refine r_iast (cA := ad 100) (N := 9) S hK w (k := 5) (by decide) (fun f => eC_5 ad f) rfl g20 dX3_smellPaper_20 (fun H locs w => ?_)
        have hok : OkC (u2 S_2 5 (ix v3_2) (f_X3_smellOf S_2 p1 v3_2 p2)) := okC_scr (show scrC 5 by unfold scrC; omega) hok
        have okf0 := hok.1
        have okf1 := hok.2.1
        have okf2 := hok.2.2.1
        have okf3 := hok.2.2.2.1
        have okf4 := hok.2.2.2.2.1
        have okf5 := hok.2.2.2.2.2
        refine lv_iinc (v := (v3_2 + 1)) (lv' := [(3, .int (v3_2 + 1)), (0, .ref (ad 0)), (1, .ref (ad (33 + p1))), (2, .int p2)]) hx hb dX3_smellPaper_21 hl (k := 3) rfl rfl (by decide) rfl (fun ls hl => ?_)
        refine lv_goto (tgt := 2) hx hb dX3_smellPaper_24 (by decide) ?_
        have b3_2 : (v3_2 + 1).toInt = v3_2.toInt + 1 := inc_toInt (by omega) (by omega)
        exact ih2 _ (v3_2 + 1) (u2 S_2 5 (ix v3_2) (f_X3_smellOf S_2 p1 v3_2 p2)) ⟨hok, (by omega)⟩ (by omega) hG hex2 _ _ w ls (lv_sub hl [1, 2, 3, 0] rfl)
  refine L2 200 _ 0 σ ⟨hok, (by omega)⟩ (by omega) rfl (fun S_2e hok hr2 H locs w ls hl => ?_) _ _ w ls (lv_sub hl [1, 2, 3, 0] rfl)
  rw [hr2] at hG
  have okf0 := hok.1
  have okf1 := hok.2.1
  have okf2 := hok.2.2.1
  have okf3 := hok.2.2.2.1
  have okf4 := hok.2.2.2.2.1
  have okf5 := hok.2.2.2.2.2
  exact endWv S hr hlocks w hG dX3_smellPaper_27
set_option maxHeartbeats 4000000 in
set_option maxRecDepth 100000 in
theorem c_X3_smeltFrom (l : Launch) (ad : Nat → Nat) (D : va_G) (sz : Nat) (σ : St) (p1 : Int32) (p2 : Int32) (hx1 : 0 ≤ p1.toInt ∧ p1.toInt < 8) (hx2 : 0 ≤ p2.toInt ∧ p2.toInt < 8) : Met l yX3_smeltFrom wsX3_smeltFrom ({ frames := 1, cells := 0, slots := 0, locals := 21 }) (PreW 41 (eC ad) ad D (tyC ad) σ sz ([.ref (ad 0), .int p1, .int p2] : List Value)) (Q0i (f_X3_smeltFrom σ p1 p2)) 0 0 N0 := by
  generalize hG : f_X3_smeltFrom σ p1 p2 = T
  refine headW (cc := cX3_smeltFrom) (maxL := 6) (ret := (some .int)) ([.ref (ad 0), .int p1, .int p2] : List Value) (by decide) rfl (Nat.le_of_ble_eq_true rfl) ?_
  intro p e s m below meth c S hr hlocks hK hN hsz w ls hl
  have S : CallFix p m c cX3_smeltFrom 6 s ([.ref (ad 0), .int p1, .int p2] : List Value).toArray wsX3_smeltFrom RX3 := S
  have hx := S.1
  have hb := S.2.1
  have z0 : (0 : Int32).toInt = 0 := by decide
  have z1 : (1 : Int32).toInt = 1 := by decide
  have hl : lv_has ls 6 [(0, .ref (ad 0)), (1, .int p1), (2, .int p2)] := hl
  have hinX3 : ∀ w ∈ wsX30, w ∈ wsX3_smeltFrom := (fun _ h => List.mem_cons_of_mem _ (List.mem_append_left _ (List.mem_append_right _ h)))
  have hinX2 : ∀ w ∈ wsX20, w ∈ wsX3_smeltFrom := (fun _ h => List.mem_cons_of_mem _ (List.mem_append_right _ h))
  rw [f_X3_smeltFrom] at hG
  refine lv_iconst (v := 0) hx hb dX3_smeltFrom_0 (by decide) ?_
  refine lv_istore_n (lv' := [(3, .int 0), (0, .ref (ad 0)), (1, .int p1), (2, .int p2)]) hx hb dX3_smeltFrom_1 rfl hl (by decide) rfl (fun ls hl => ?_)
  refine lv_iconst (v := 0) hx hb dX3_smeltFrom_2 (by decide) ?_
  refine lv_istore (lv' := [(4, .int 0), (3, .int 0), (0, .ref (ad 0)), (1, .int p1), (2, .int p2)]) hx hb dX3_smeltFrom_3 hl (by decide) rfl (fun ls hl => ?_)
  have L5 : ∀ (n : Nat) (res5 : Int32), ∀ (v3_5 : Int32), ∀ (v4_5 : Int32), ((0 ≤ v4_5.toInt ∧ v4_5.toInt ≤ 9)) → (9 - v4_5.toInt).toNat < n → (lp_X3_smeltFrom_5 σ p1 p2 n v3_5 v4_5) = res5 → (∀ (v3_5e : Int32), res5 = v3_5e → ∀ ls : Array Slot, lv_has ls 6 [(0, .ref (ad 0)), (3, .int v3_5e)] → W p l e (headSpec wsX3_smeltFrom ({ frames := 1, cells := 0, slots := 0, locals := 21 })).room s m ([.ref (ad 0), .int p1, .int p2] : List Value).toArray below meth c s.heap [] 0 0 (MQ below (Q0i T) ([.ref (ad 0), .int p1, .int p2] : List Value).toArray s 0 0 N0) (F0 m 63 ls [])) → ∀ ls : Array Slot, lv_has ls 6 [(0, .ref (ad 0)), (1, .int p1), (2, .int p2), (3, .int v3_5), (4, .int v4_5)] → W p l e (headSpec wsX3_smeltFrom ({ frames := 1, cells := 0, slots := 0, locals := 21 })).room s m ([.ref (ad 0), .int p1, .int p2] : List Value).toArray below meth c s.heap [] 0 0 (MQ below (Q0i T) ([.ref (ad 0), .int p1, .int p2] : List Value).toArray s 0 0 N0) (F0 m 5 ls []) := by
    intro n
    induction n with
    | zero => intro _ _ _ _ hm; exact absurd hm (Nat.not_lt_zero _)
    | succ n ih5 =>
      intro res5 v3_5 v4_5 hI5 hm5 hG hex5 ls hl
      have i5_0 := hI5
      rw [lp_X3_smeltFrom_5] at hG
      refine lv_iload hx hb dX3_smeltFrom_5 (lv_at hl 4 rfl) ?_
      refine lv_bipush (v := 9) hx hb dX3_smeltFrom_7 (by decide) ?_
      refine lv_icmp_ge (tgt := 63) hx hb dX3_smeltFrom_9 (by decide) (fun c9 => ?_) (fun c9 => ?_)
      · have t9 : 9 ≤ v4_5.toInt := qt_le c9
        rw [if_pos c9] at hG
        exact hex5 v3_5 hG.symm ls (lv_sub hl [0, 3] rfl)
      · have t9 : v4_5.toInt < 9 := qt_nle c9
        rw [if_neg c9] at hG
        refine lv_aload_n hx hb dX3_smeltFrom_12 rfl (lv_at hl 0 rfl) ?_
        refine r_get (C := RX3) (T := TX3) (N := 14) S hK w (k := 0) (by decide) (eC_0 ad _) rfl hinX3 1 (by decide) (List.mem_of_getElem? (i := 1) rfl) rfl dX3_smeltFrom_13 ?_
        refine lv_iload_n hx hb dX3_smeltFrom_16 rfl (lv_at hl 1 rfl) ?_
        have g17 : vp_in p1 8 := vpi (by omega) (by omega)
        refine r_aald S hK w (k := 2) (by decide) (eC_2 ad _) (t0 := 2) rfl g17 dX3_smeltFrom_17 ?_
        refine r_getN (C := RX2) (T := TX2) (N := 3) S hK hN w (k := (17 + (ix p1))) (Nat.lt_of_lt_of_le (Nat.add_lt_add_left (vpl g17) 17) (by decide)) (eC_sg ad (vpl g17) _) rfl hinX2 2 (by decide) 5 rfl rfl dX3_smeltFrom_18 ?_
        refine lv_iload hx hb dX3_smeltFrom_21 (lv_at hl 4 rfl) ?_
        have g23 : vp_in v4_5 9 := vpi (by omega) (by omega)
        refine r_iald (cA := ad 100) (N := 9) S hK w (k := (25 + (ix p1))) (Nat.lt_of_lt_of_le (Nat.add_lt_add_left (vpl g17) 25) (by decide)) (fun f => eC_st ad (vpl g17) f) rfl g23 dX3_smeltFrom_23 ?_
        refine lv_aload_n hx hb dX3_smeltFrom_24 rfl (lv_at hl 0 rfl) ?_
        refine r_get (C := RX3) (T := TX3) (N := 14) S hK w (k := 0) (by decide) (eC_0 ad _) rfl hinX3 1 (by decide) (List.mem_of_getElem? (i := 1) rfl) rfl dX3_smeltFrom_25 ?_
        refine lv_iload_n hx hb dX3_smeltFrom_28 rfl (lv_at hl 2 rfl) ?_
        have g29 : vp_in p2 8 := vpi (by omega) (by omega)
        refine r_aald S hK w (k := 2) (by decide) (eC_2 ad _) (t0 := 2) rfl g29 dX3_smeltFrom_29 ?_
        refine r_getN (C := RX2) (T := TX2) (N := 3) S hK hN w (k := (17 + (ix p2))) (Nat.lt_of_lt_of_le (Nat.add_lt_add_left (vpl g29) 17) (by decide)) (eC_sg ad (vpl g29) _) rfl hinX2 2 (by decide) 5 rfl rfl dX3_smeltFrom_30 ?_
        refine lv_iload hx hb dX3_smeltFrom_33 (lv_at hl 4 rfl) ?_
        have g35 : vp_in v4_5 9 := vpi (by omega) (by omega)
        refine r_iald (cA := ad 100) (N := 9) S hK w (k := (25 + (ix p2))) (Nat.lt_of_lt_of_le (Nat.add_lt_add_left (vpl g29) 25) (by decide)) (fun f => eC_st ad (vpl g29) f) rfl g35 dX3_smeltFrom_35 ?_
        refine lv_iadd hx hb dX3_smeltFrom_36 ?_
        refine lv_istore (lv' := [(5, .int ((σ (25 + (ix p1)) (ix v4_5)) + (σ (25 + (ix p2)) (ix v4_5)))), (0, .ref (ad 0)), (1, .int p1), (2, .int p2), (3, .int v3_5), (4, .int v4_5)]) hx hb dX3_smeltFrom_37 hl (by decide) rfl (fun ls hl => ?_)
        refine lv_iload_n hx hb dX3_smeltFrom_39 rfl (lv_at hl 4 rfl) ?_
        refine lv_aload_n hx hb dX3_smeltFrom_40 rfl (lv_at hl 1 rfl) ?_
        refine r_get (C := RX3) (T := TX3) (N := 14) S hK w (k := 0) (by decide) (eC_0 ad _) rfl hinX3 10 (by decide) (List.mem_of_getElem? (i := 2) rfl) rfl dX3_smeltFrom_41 ?_
        refine lv_iload hx hb dX3_smeltFrom_44 (lv_at hl 5 rfl) ?_
        have g46 : vp_in v4_5 9 := vpi (by omega) (by omega)
        refine r_iald (cA := ad 100) (N := 9) S hK w (k := 5) (by decide) (fun f => eC_5 ad f) rfl g46 dX3_smeltFrom_46 ?_
        refine lv_iconst (v := 4) hx hb dX3_smeltFrom_47 (by decide) ?_
        refine lv_iload hx hb dX3_smeltFrom_48 (lv_at hl 0 rfl) ?_
        refine lv_imul hx hb dX3_smeltFrom_50 ?_
        refine lv_isub hx hb dX3_smeltFrom_51 ?_
        refine r_abs S hl.1 (List.mem_of_getElem? (i := 3) rfl) (List.mem_of_getElem? (i := 4) rfl) (List.mem_of_getElem? (i := 5) rfl) (List.mem_of_getElem? (i := 6) rfl) ⟨Nat.le_of_ble_eq_true rfl, Nat.le_of_ble_eq_true rfl, Nat.zero_le _, Nat.zero_le _⟩ dX3_smeltFrom_52 ?_
        refine lv_iadd hx hb dX3_smeltFrom_55 ?_
        refine lv_istore_n (lv' := [(3, .int (v3_5 + (jabs ((σ 5 (ix v4_5)) - (4 * ((σ (25 + (ix p1)) (ix v4_5)) + (σ (25 + (ix p2)) (ix v4_5)))))))), (5, .int ((σ (25 + (ix p1)) (ix v4_5)) + (σ (25 + (ix p2)) (ix v4_5)))), (0, .ref (ad 0)), (1, .int p1), (2, .int p2), (4, .int v4_5)]) hx hb dX3_smeltFrom_56 rfl hl (by decide) rfl (fun ls hl => ?_)
        refine lv_iinc (v := (v4_5 + 1)) (lv' := [(4, .int (v4_5 + 1)), (3, .int (v3_5 + (jabs ((σ 5 (ix v4_5)) - (4 * ((σ (25 + (ix p1)) (ix v4_5)) + (σ (25 + (ix p2)) (ix v4_5)))))))), (5, .int ((σ (25 + (ix p1)) (ix v4_5)) + (σ (25 + (ix p2)) (ix v4_5)))), (0, .ref (ad 0)), (1, .int p1), (2, .int p2)]) hx hb dX3_smeltFrom_57 hl (k := 5) rfl rfl (by decide) rfl (fun ls hl => ?_)
        refine lv_goto (tgt := 5) hx hb dX3_smeltFrom_60 (by decide) ?_
        have b4_5 : (v4_5 + 1).toInt = v4_5.toInt + 1 := inc_toInt (by omega) (by omega)
        exact ih5 _ (v3_5 + (jabs ((σ 5 (ix v4_5)) - (4 * ((σ (25 + (ix p1)) (ix v4_5)) + (σ (25 + (ix p2)) (ix v4_5))))))) (v4_5 + 1) (by omega) (by omega) hG hex5 ls (lv_sub hl [3, 4, 5, 1, 0] rfl)
  refine L5 200 _ 0 0 (by omega) (by omega) rfl (fun v3_5e hr5 ls hl => ?_) ls (lv_sub hl [2, 3, 4, 1, 0] rfl)
  rw [hr5] at hG
  refine lv_iload_n hx hb dX3_smeltFrom_63 rfl (lv_at hl 1 rfl) ?_
  exact end0i S hr hlocks hG dX3_smeltFrom_64
set_option maxHeartbeats 4000000 in
set_option maxRecDepth 100000 in
theorem c_X3_far (l : Launch) (ad : Nat → Nat) (D : va_G) (sz : Nat) (σ : St) (p1 : Int32) (p2 : Int32) (p3 : Int32) (hok : OkC σ) : Met l yX3_far wsX3_far ({ frames := 5, cells := 0, slots := 0, locals := 119 }) (PreW 41 (eC ad) ad D (tyC ad) σ sz ([.ref (ad 0), .int p1, .int p2, .int p3] : List Value)) (QWi 41 (eC ad) ad D (f_X3_far σ p1 p2 p3) (CA 41 ad sz)) 0 0 (CA 41 ad sz) := by
  generalize hG : f_X3_far σ p1 p2 p3 = T
  refine headW (cc := cX3_far) (maxL := 4) (ret := (some .int)) ([.ref (ad 0), .int p1, .int p2, .int p3] : List Value) (by decide) rfl (Nat.le_of_ble_eq_true rfl) ?_
  intro p e s m below meth c S hr hlocks hK hN hsz w ls hl
  have S : CallFix p m c cX3_far 4 s ([.ref (ad 0), .int p1, .int p2, .int p3] : List Value).toArray wsX3_far RX3 := S
  have hx := S.1
  have hb := S.2.1
  have z0 : (0 : Int32).toInt = 0 := by decide
  have z1 : (1 : Int32).toInt = 1 := by decide
  have hl : lv_has ls 4 [(0, .ref (ad 0)), (1, .int p1), (2, .int p2), (3, .int p3)] := hl
  have hinX3 : ∀ w ∈ wsX30, w ∈ wsX3_far := (fun _ h => List.mem_cons_of_mem _ (List.mem_append_left _ (List.mem_append_left _ (List.mem_append_right _ h))))
  have hinX0 : ∀ w ∈ wsX00, w ∈ wsX3_far := (fun _ h => List.mem_cons_of_mem _ (List.mem_append_left _ (List.mem_append_right _ h)))
  have hinX2 : ∀ w ∈ wsX20, w ∈ wsX3_far := (fun _ h => List.mem_cons_of_mem _ (List.mem_append_right _ h))
  have okf0 := hok.1
  have okf1 := hok.2.1
  have okf2 := hok.2.2.1
  have okf3 := hok.2.2.2.1
  have okf4 := hok.2.2.2.2.1
  have okf5 := hok.2.2.2.2.2
  rw [f_X3_far] at hG
  refine lv_aload_n hx hb dX3_far_0 rfl (lv_at hl 0 rfl) ?_
  refine lv_iload_n hx hb dX3_far_1 rfl (lv_at hl 1 rfl) ?_
  refine call0i (va_runV (As := [.int p1]) (rest := []) S (c_X3_isPaper l ad D s.heap.size σ p1) (cwV 1 S.2.2.2.2 gX3_far_X3_isPaper rfl rfl rfl ⟨rfl, hd_X3_isPaper⟩ ⟨Nat.le_of_ble_eq_true rfl, Nat.le_of_ble_eq_true rfl⟩) (preV hK hN w (k := 0) (by decide) (eC_0 ad _) (q := (RX3, TX3, 14)) rfl) rfl rfl hl.1 rfl (lv_room (Nat.le_of_ble_eq_true rfl)) dX3_far_2 ⟨Nat.zero_le _, Nat.zero_le _⟩) ?_
  refine lv_if_eq (tgt := 17) hx hb dX3_far_5 (by decide) (fun c5 => ?_) (fun c5 => ?_)
  · rw [if_pos c5] at hG
    refine lv_iconst (v := (-1)) hx hb dX3_far_17 (by decide) ?_
    exact endWi S hr hlocks w hG dX3_far_18
  · have t5 := bf_isPaper_n c5
    rw [if_neg c5] at hG
    refine lv_aload_n hx hb dX3_far_8 rfl (lv_at hl 0 rfl) ?_
    refine lv_iload_n hx hb dX3_far_9 rfl (lv_at hl 2 rfl) ?_
    refine lv_iload_n hx hb dX3_far_10 rfl (lv_at hl 3 rfl) ?_
    refine call0i (va_runV (As := [.int p2, .int p3]) (rest := []) S (c_X3_areTwoSigns l ad D s.heap.size σ p2 p3) (cwV 2 S.2.2.2.2 gX3_far_X3_areTwoSigns rfl rfl rfl ⟨rfl, hd_X3_areTwoSigns⟩ ⟨Nat.le_of_ble_eq_true rfl, Nat.le_of_ble_eq_true rfl⟩) (preV hK hN w (k := 0) (by decide) (eC_0 ad _) (q := (RX3, TX3, 14)) rfl) rfl rfl hl.1 rfl (lv_room (Nat.le_of_ble_eq_true rfl)) dX3_far_11 ⟨Nat.zero_le _, Nat.zero_le _⟩) ?_
    refine lv_if_ne (tgt := 19) hx hb dX3_far_14 (by decide) (fun c14 => ?_) (fun c14 => ?_)
    · have t14 := bf_areTwoSigns_n c14
      rw [if_neg c14] at hG
      refine lv_aload_n hx hb dX3_far_19 rfl (lv_at hl 0 rfl) ?_
      refine lv_aload_n hx hb dX3_far_20 rfl (lv_at hl 0 rfl) ?_
      refine r_get (C := RX3) (T := TX3) (N := 14) S hK w (k := 0) (by decide) (eC_0 ad _) rfl hinX3 2 (by decide) (List.mem_of_getElem? (i := 1) rfl) rfl dX3_far_21 ?_
      refine lv_iload_n hx hb dX3_far_24 rfl (lv_at hl 1 rfl) ?_
      have g25 : vp_in p1 8 := vpi (by omega) (by omega)
      refine r_aald S hK w (k := 3) (by decide) (eC_3 ad _) (t0 := 3) rfl g25 dX3_far_25 ?_
      refine lv_aload_n hx hb dX3_far_26 rfl (lv_at hl 0 rfl) ?_
      refine r_get (C := RX3) (T := TX3) (N := 14) S hK w (k := 0) (by decide) (eC_0 ad _) rfl hinX3 6 (by decide) (List.mem_of_getElem? (i := 2) rfl) rfl dX3_far_27 ?_
      refine callWv w (va_runV (As := [.ref (ad (33 + (ix p1))), .int (σ 0 6)]) (rest := []) S (c_X3_smellPaper l ad D s.heap.size σ (ix p1) (σ 0 6) hok (vpl g25)) (cwV 2 S.2.2.2.2 gX3_far_X3_smellPaper rfl rfl rfl ⟨rfl, hd_X3_smellPaper⟩ ⟨Nat.le_of_ble_eq_true rfl, Nat.le_of_ble_eq_true rfl⟩) (preV hK hN w (k := 0) (by decide) (eC_0 ad _) (q := (RX3, TX3, 14)) rfl) rfl rfl hl.1 rfl (lv_room (Nat.le_of_ble_eq_true rfl)) dX3_far_30 ⟨Nat.zero_le _, Nat.zero_le _⟩) (fun H locs w => ?_)
      have hok : OkC (f_X3_smellPaper σ (ix p1) (σ 0 6)) := ok_X3_smellPaper hok
      have okf0 := hok.1
      have okf1 := hok.2.1
      have okf2 := hok.2.2.1
      have okf3 := hok.2.2.2.1
      have okf4 := hok.2.2.2.2.1
      have okf5 := hok.2.2.2.2.2
      refine lv_aload_n hx hb dX3_far_33 rfl (lv_at hl 0 rfl) ?_
      refine lv_iload_n hx hb dX3_far_34 rfl (lv_at hl 2 rfl) ?_
      refine lv_iload_n hx hb dX3_far_35 rfl (lv_at hl 3 rfl) ?_
      refine call0i (va_runV (As := [.int p2, .int p3]) (rest := []) S (c_X3_smeltFrom l ad D H.size (f_X3_smellPaper σ (ix p1) (σ 0 6)) p2 p3 (by omega) (by omega)) (cwV 2 S.2.2.2.2 gX3_far_X3_smeltFrom rfl rfl rfl ⟨rfl, hd_X3_smeltFrom⟩ ⟨Nat.le_of_ble_eq_true rfl, Nat.le_of_ble_eq_true rfl⟩) (preV hK hN w (k := 0) (by decide) (eC_0 ad _) (q := (RX3, TX3, 14)) rfl) rfl rfl hl.1 rfl (lv_room (Nat.le_of_ble_eq_true rfl)) dX3_far_36 ⟨Nat.zero_le _, Nat.zero_le _⟩) ?_
      exact endWi S hr hlocks w hG dX3_far_39
    · rw [if_pos c14] at hG
      refine lv_iconst (v := (-1)) hx hb dX3_far_17 (by decide) ?_
      exact endWi S hr hlocks w hG dX3_far_18
set_option maxHeartbeats 4000000 in
set_option maxRecDepth 100000 in
theorem c_X3_pairNumber (l : Launch) (p1 : Int32) (p2 : Int32) : Met l yX3_pairNumber wsX3_pairNumber ({ frames := 0, cells := 0, slots := 0, locals := 0 }) (Pre0 ([.int p1, .int p2] : List Value)) (Q0i (f_X3_pairNumber p1 p2)) 0 0 N0 := by
  generalize hG : f_X3_pairNumber p1 p2 = T
  refine head0 (cc := cX3_pairNumber) (maxL := 2) (ret := (some .int)) ([.int p1, .int p2] : List Value) (by decide) rfl (Nat.le_of_ble_eq_true rfl) ?_
  intro p e s m below meth c S hr hlocks ls hl
  have S : CallFix p m c cX3_pairNumber 2 s ([.int p1, .int p2] : List Value).toArray wsX3_pairNumber RX3 := S
  have hx := S.1
  have hb := S.2.1
  have z0 : (0 : Int32).toInt = 0 := by decide
  have z1 : (1 : Int32).toInt = 1 := by decide
  have hl : lv_has ls 2 [(0, .int p1), (1, .int p2)] := hl
  rw [f_X3_pairNumber] at hG
  refine lv_bipush (v := 10) hx hb dX3_pairNumber_0 (by decide) ?_
  refine lv_iload_n hx hb dX3_pairNumber_2 rfl (lv_at hl 0 rfl) ?_
  refine lv_imul hx hb dX3_pairNumber_3 ?_
  refine lv_iload_n hx hb dX3_pairNumber_4 rfl (lv_at hl 1 rfl) ?_
  refine lv_iadd hx hb dX3_pairNumber_5 ?_
  exact end0i S hr hlocks hG dX3_pairNumber_6
set_option maxHeartbeats 4000000 in
set_option maxRecDepth 100000 in
theorem c_X3_fits (l : Launch) (ad : Nat → Nat) (D : va_G) (sz : Nat) (σ : St) (p1 : Int32) (p2 : Int32) (hok : OkC σ) : Met l yX3_fits wsX3_fits ({ frames := 5, cells := 0, slots := 0, locals := 119 }) (PreW 41 (eC ad) ad D (tyC ad) σ sz ([.ref (ad 0), .int p1, .int p2] : List Value)) (QWi 41 (eC ad) ad D (f_X3_fits σ p1 p2) (CA 41 ad sz)) 0 0 (CA 41 ad sz) := by
  generalize hG : f_X3_fits σ p1 p2 = T
  refine headW (cc := cX3_fits) (maxL := 9) (ret := (some .int)) ([.ref (ad 0), .int p1, .int p2] : List Value) (by decide) rfl (Nat.le_of_ble_eq_true rfl) ?_
  intro p e s m below meth c S hr hlocks hK hN hsz w ls hl
  have S : CallFix p m c cX3_fits 9 s ([.ref (ad 0), .int p1, .int p2] : List Value).toArray wsX3_fits RX3 := S
  have hx := S.1
  have hb := S.2.1
  have z0 : (0 : Int32).toInt = 0 := by decide
  have z1 : (1 : Int32).toInt = 1 := by decide
  have hl : lv_has ls 9 [(0, .ref (ad 0)), (1, .int p1), (2, .int p2)] := hl
  have hinX3 : ∀ w ∈ wsX30, w ∈ wsX3_fits := (fun _ h => List.mem_cons_of_mem _ (List.mem_append_left _ (List.mem_append_left _ (List.mem_append_right _ h))))
  have hinX0 : ∀ w ∈ wsX00, w ∈ wsX3_fits := (fun _ h => List.mem_cons_of_mem _ (List.mem_append_left _ (List.mem_append_right _ h)))
  have hinX2 : ∀ w ∈ wsX20, w ∈ wsX3_fits := (fun _ h => List.mem_cons_of_mem _ (List.mem_append_right _ h))
  have okf0 := hok.1
  have okf1 := hok.2.1
  have okf2 := hok.2.2.1
  have okf3 := hok.2.2.2.1
  have okf4 := hok.2.2.2.2.1
  have okf5 := hok.2.2.2.2.2
  rw [f_X3_fits] at hG
  refine lv_aload_n hx hb dX3_fits_0 rfl (lv_at hl 0 rfl) ?_
  refine lv_iload_n hx hb dX3_fits_1 rfl (lv_at hl 1 rfl) ?_
  refine call0i (va_runV (As := [.int p1]) (rest := []) S (c_X3_isPaper l ad D s.heap.size σ p1) (cwV 1 S.2.2.2.2 gX3_fits_X3_isPaper rfl rfl rfl ⟨rfl, hd_X3_isPaper⟩ ⟨Nat.le_of_ble_eq_true rfl, Nat.le_of_ble_eq_true rfl⟩) (preV hK hN w (k := 0) (by decide) (eC_0 ad _) (q := (RX3, TX3, 14)) rfl) rfl rfl hl.1 rfl (lv_room (Nat.le_of_ble_eq_true rfl)) dX3_fits_2 ⟨Nat.zero_le _, Nat.zero_le _⟩) ?_
  refine lv_if_ne (tgt := 10) hx hb dX3_fits_5 (by decide) (fun c5 => ?_) (fun c5 => ?_)
  · have t5 := bf_isPaper_n c5
    rw [if_neg c5] at hG
    refine lv_iload_n hx hb dX3_fits_10 rfl (lv_at hl 2 rfl) ?_
    refine lv_if_lt (tgt := 19) hx hb dX3_fits_11 (by decide) (fun c11 => ?_) (fun c11 => ?_)
    · have t11 : p2.toInt < 0 := qt_lt c11
      rw [if_pos c11] at hG
      refine lv_bipush (v := (-2)) hx hb dX3_fits_19 (by decide) ?_
      exact endWi S hr hlocks w hG dX3_fits_21
    · have t11 : 0 ≤ p2.toInt := qt_nlt c11
      rw [if_neg c11] at hG
      refine lv_iload_n hx hb dX3_fits_14 rfl (lv_at hl 2 rfl) ?_
      refine lv_iconst (v := 2) hx hb dX3_fits_15 (by decide) ?_
      refine lv_icmp_le (tgt := 22) hx hb dX3_fits_16 (by decide) (fun c16 => ?_) (fun c16 => ?_)
      · have t16 : p2.toInt ≤ 2 := qt_le c16
        rw [if_pos c16] at hG
        refine lv_aload_n hx hb dX3_fits_22 rfl (lv_at hl 0 rfl) ?_
        refine lv_aload_n hx hb dX3_fits_23 rfl (lv_at hl 0 rfl) ?_
        refine r_get (C := RX3) (T := TX3) (N := 14) S hK w (k := 0) (by decide) (eC_0 ad _) rfl hinX3 2 (by decide) (List.mem_of_getElem? (i := 1) rfl) rfl dX3_fits_24 ?_
        refine lv_iload_n hx hb dX3_fits_27 rfl (lv_at hl 1 rfl) ?_
        have g28 : vp_in p1 8 := vpi (by omega) (by omega)
        refine r_aald S hK w (k := 3) (by decide) (eC_3 ad _) (t0 := 3) rfl g28 dX3_fits_28 ?_
        refine lv_aload_n hx hb dX3_fits_29 rfl (lv_at hl 0 rfl) ?_
        refine r_get (C := RX3) (T := TX3) (N := 14) S hK w (k := 0) (by decide) (eC_0 ad _) rfl hinX3 6 (by decide) (List.mem_of_getElem? (i := 2) rfl) rfl dX3_fits_30 ?_
        refine callWv w (va_runV (As := [.ref (ad (33 + (ix p1))), .int (σ 0 6)]) (rest := []) S (c_X3_smellPaper l ad D s.heap.size σ (ix p1) (σ 0 6) hok (vpl g28)) (cwV 2 S.2.2.2.2 gX3_fits_X3_smellPaper rfl rfl rfl ⟨rfl, hd_X3_smellPaper⟩ ⟨Nat.le_of_ble_eq_true rfl, Nat.le_of_ble_eq_true rfl⟩) (preV hK hN w (k := 0) (by decide) (eC_0 ad _) (q := (RX3, TX3, 14)) rfl) rfl rfl hl.1 rfl (lv_room (Nat.le_of_ble_eq_true rfl)) dX3_fits_33 ⟨Nat.zero_le _, Nat.zero_le _⟩) (fun H locs w => ?_)
        have hok : OkC (f_X3_smellPaper σ (ix p1) (σ 0 6)) := ok_X3_smellPaper hok
        have okf0 := hok.1
        have okf1 := hok.2.1
        have okf2 := hok.2.2.1
        have okf3 := hok.2.2.2.1
        have okf4 := hok.2.2.2.2.1
        have okf5 := hok.2.2.2.2.2
        refine lv_iconst (v := 0) hx hb dX3_fits_36 (by decide) ?_
        refine lv_istore_n (lv' := [(3, .int 0), (0, .ref (ad 0)), (1, .int p1), (2, .int p2)]) hx hb dX3_fits_37 rfl hl (by decide) rfl (fun ls hl => ?_)
        refine lv_iconst (v := 0) hx hb dX3_fits_38 (by decide) ?_
        refine lv_istore (lv' := [(4, .int 0), (3, .int 0), (0, .ref (ad 0)), (1, .int p1), (2, .int p2)]) hx hb dX3_fits_39 hl (by decide) rfl (fun ls hl => ?_)
        refine lv_ldc hx hb S.2.2.2.1 (S.2.2.2.2 _ (List.mem_of_getElem? (i := 3) rfl)) dX3_fits_41 ?_
        refine lv_istore (lv' := [(5, .int 2147483647), (4, .int 0), (3, .int 0), (0, .ref (ad 0)), (1, .int p1), (2, .int p2)]) hx hb dX3_fits_43 hl (by decide) rfl (fun ls hl => ?_)
        refine lv_iconst (v := 0) hx hb dX3_fits_45 (by decide) ?_
        refine lv_istore (lv' := [(6, .int 0), (5, .int 2147483647), (4, .int 0), (3, .int 0), (0, .ref (ad 0)), (1, .int p1), (2, .int p2)]) hx hb dX3_fits_46 hl (by decide) rfl (fun ls hl => ?_)
        have L48 : ∀ (n : Nat) (res48 : Int32 × Int32 × Int32), ∀ (v3_48 : Int32), ∀ (v4_48 : Int32), ∀ (v5_48 : Int32), ∀ (v6_48 : Int32), ((0 ≤ v6_48.toInt ∧ v6_48.toInt ≤ 8)) → (8 - v6_48.toInt).toNat < n → (lp_X3_fits_48 (f_X3_smellPaper σ (ix p1) (σ 0 6)) p2 n v3_48 v4_48 v5_48 v6_48) = res48 → (∀ (v3_48e : Int32), ∀ (v4_48e : Int32), ∀ (v5_48e : Int32), res48 = (v3_48e, v4_48e, v5_48e) → ∀ (H : Heap) (locs : List Loc), CW 41 (eC ad) ad D (CA 41 ad sz) s.heap (f_X3_smellPaper σ (ix p1) (σ 0 6)) H locs → ∀ ls : Array Slot, lv_has ls 9 [(0, .ref (ad 0)), (2, .int p2), (3, .int v3_48e), (4, .int v4_48e), (5, .int v5_48e)] → W p l e (headSpec wsX3_fits ({ frames := 5, cells := 0, slots := 0, locals := 119 })).room s m ([.ref (ad 0), .int p1, .int p2] : List Value).toArray below meth c H locs 0 0 (MQ below (QWi 41 (eC ad) ad D T (CA 41 ad sz)) ([.ref (ad 0), .int p1, .int p2] : List Value).toArray s 0 0 (CA 41 ad sz)) (F0 m 131 ls [])) → ∀ (H : Heap) (locs : List Loc), CW 41 (eC ad) ad D (CA 41 ad sz) s.heap (f_X3_smellPaper σ (ix p1) (σ 0 6)) H locs → ∀ ls : Array Slot, lv_has ls 9 [(0, .ref (ad 0)), (2, .int p2), (3, .int v3_48), (4, .int v4_48), (5, .int v5_48), (6, .int v6_48)] → W p l e (headSpec wsX3_fits ({ frames := 5, cells := 0, slots := 0, locals := 119 })).room s m ([.ref (ad 0), .int p1, .int p2] : List Value).toArray below meth c H locs 0 0 (MQ below (QWi 41 (eC ad) ad D T (CA 41 ad sz)) ([.ref (ad 0), .int p1, .int p2] : List Value).toArray s 0 0 (CA 41 ad sz)) (F0 m 48 ls []) := by
          intro n
          induction n with
          | zero => intro _ _ _ _ _ _ hm; exact absurd hm (Nat.not_lt_zero _)
          | succ n ih48 =>
            intro res48 v3_48 v4_48 v5_48 v6_48 hI48 hm48 hG hex48 H locs w ls hl
            have i48_0 := hI48
            rw [lp_X3_fits_48] at hG
            refine lv_iload hx hb dX3_fits_48 (lv_at hl 5 rfl) ?_
            refine lv_aload_n hx hb dX3_fits_50 rfl (lv_at hl 0 rfl) ?_
            refine r_get (C := RX3) (T := TX3) (N := 14) S hK w (k := 0) (by decide) (eC_0 ad _) rfl hinX3 4 (by decide) (List.mem_of_getElem? (i := 4) rfl) rfl dX3_fits_51 ?_
            refine lv_icmp_ge (tgt := 131) hx hb dX3_fits_54 (by decide) (fun c54 => ?_) (fun c54 => ?_)
            · have t54 : ((f_X3_smellPaper σ (ix p1) (σ 0 6)) 0 4).toInt ≤ v6_48.toInt := qt_le c54
              rw [if_pos c54] at hG
              exact hex48 v3_48 v4_48 v5_48 hG.symm _ _ w ls (lv_sub hl [0, 1, 2, 3, 4] rfl)
            · have t54 : v6_48.toInt < ((f_X3_smellPaper σ (ix p1) (σ 0 6)) 0 4).toInt := qt_nle c54
              rw [if_neg c54] at hG
              refine lv_iload hx hb dX3_fits_57 (lv_at hl 5 rfl) ?_
              refine lv_iconst (v := 1) hx hb dX3_fits_59 (by decide) ?_
              refine lv_iadd hx hb dX3_fits_60 ?_
              refine lv_istore (lv' := [(7, .int (v6_48 + 1)), (0, .ref (ad 0)), (2, .int p2), (3, .int v3_48), (4, .int v4_48), (5, .int v5_48), (6, .int v6_48)]) hx hb dX3_fits_61 hl (by decide) rfl (fun ls hl => ?_)
              have L63 : ∀ (n : Nat) (res63 : Int32 × Int32 × Int32), ∀ (v3_63 : Int32), ∀ (v4_63 : Int32), ∀ (v5_63 : Int32), ∀ (v7_63 : Int32), ((0 ≤ v7_63.toInt ∧ v7_63.toInt ≤ 8)) → (8 - v7_63.toInt).toNat < n → (lp_X3_fits_63 (f_X3_smellPaper σ (ix p1) (σ 0 6)) p2 v6_48 n v3_63 v4_63 v5_63 v7_63) = res63 → (∀ (v3_63e : Int32), ∀ (v4_63e : Int32), ∀ (v5_63e : Int32), res63 = (v3_63e, v4_63e, v5_63e) → ∀ (H : Heap) (locs : List Loc), CW 41 (eC ad) ad D (CA 41 ad sz) s.heap (f_X3_smellPaper σ (ix p1) (σ 0 6)) H locs → ∀ ls : Array Slot, lv_has ls 9 [(0, .ref (ad 0)), (2, .int p2), (3, .int v3_63e), (4, .int v4_63e), (5, .int v5_63e), (6, .int v6_48)] → W p l e (headSpec wsX3_fits ({ frames := 5, cells := 0, slots := 0, locals := 119 })).room s m ([.ref (ad 0), .int p1, .int p2] : List Value).toArray below meth c H locs 0 0 (MQ below (QWi 41 (eC ad) ad D T (CA 41 ad sz)) ([.ref (ad 0), .int p1, .int p2] : List Value).toArray s 0 0 (CA 41 ad sz)) (F0 m 125 ls [])) → ∀ (H : Heap) (locs : List Loc), CW 41 (eC ad) ad D (CA 41 ad sz) s.heap (f_X3_smellPaper σ (ix p1) (σ 0 6)) H locs → ∀ ls : Array Slot, lv_has ls 9 [(0, .ref (ad 0)), (2, .int p2), (3, .int v3_63), (4, .int v4_63), (5, .int v5_63), (6, .int v6_48), (7, .int v7_63)] → W p l e (headSpec wsX3_fits ({ frames := 5, cells := 0, slots := 0, locals := 119 })).room s m ([.ref (ad 0), .int p1, .int p2] : List Value).toArray below meth c H locs 0 0 (MQ below (QWi 41 (eC ad) ad D T (CA 41 ad sz)) ([.ref (ad 0), .int p1, .int p2] : List Value).toArray s 0 0 (CA 41 ad sz)) (F0 m 63 ls []) := by
                intro n
                induction n with
                | zero => intro _ _ _ _ _ _ hm; exact absurd hm (Nat.not_lt_zero _)
                | succ n ih63 =>
                  intro res63 v3_63 v4_63 v5_63 v7_63 hI63 hm63 hG hex63 H locs w ls hl
                  have i63_0 := hI63
                  rw [lp_X3_fits_63] at hG
                  refine lv_iload hx hb dX3_fits_63 (lv_at hl 6 rfl) ?_
                  refine lv_aload_n hx hb dX3_fits_65 rfl (lv_at hl 0 rfl) ?_
                  refine r_get (C := RX3) (T := TX3) (N := 14) S hK w (k := 0) (by decide) (eC_0 ad _) rfl hinX3 4 (by decide) (List.mem_of_getElem? (i := 4) rfl) rfl dX3_fits_66 ?_
                  refine lv_icmp_ge (tgt := 125) hx hb dX3_fits_69 (by decide) (fun c69 => ?_) (fun c69 => ?_)
                  · have t69 : ((f_X3_smellPaper σ (ix p1) (σ 0 6)) 0 4).toInt ≤ v7_63.toInt := qt_le c69
                    rw [if_pos c69] at hG
                    exact hex63 v3_63 v4_63 v5_63 hG.symm _ _ w ls (lv_sub hl [0, 1, 2, 3, 4, 5] rfl)
                  · have t69 : v7_63.toInt < ((f_X3_smellPaper σ (ix p1) (σ 0 6)) 0 4).toInt := qt_nle c69
                    rw [if_neg c69] at hG
                    refine lv_aload_n hx hb dX3_fits_72 rfl (lv_at hl 0 rfl) ?_
                    refine lv_iload hx hb dX3_fits_73 (lv_at hl 5 rfl) ?_
                    refine lv_iload hx hb dX3_fits_75 (lv_at hl 6 rfl) ?_
                    refine call0i (va_runV (As := [.int v6_48, .int v7_63]) (rest := []) S (c_X3_smeltFrom l ad D H.size (f_X3_smellPaper σ (ix p1) (σ 0 6)) v6_48 v7_63 (by omega) (by omega)) (cwV 2 S.2.2.2.2 gX3_fits_X3_smeltFrom rfl rfl rfl ⟨rfl, hd_X3_smeltFrom⟩ ⟨Nat.le_of_ble_eq_true rfl, Nat.le_of_ble_eq_true rfl⟩) (preV hK hN w (k := 0) (by decide) (eC_0 ad _) (q := (RX3, TX3, 14)) rfl) rfl rfl hl.1 rfl (lv_room (Nat.le_of_ble_eq_true rfl)) dX3_fits_77 ⟨Nat.zero_le _, Nat.zero_le _⟩) ?_
                    refine lv_istore (lv' := [(8, .int (f_X3_smeltFrom (f_X3_smellPaper σ (ix p1) (σ 0 6)) v6_48 v7_63)), (0, .ref (ad 0)), (2, .int p2), (3, .int v3_63), (4, .int v4_63), (5, .int v5_63), (6, .int v6_48), (7, .int v7_63)]) hx hb dX3_fits_80 hl (by decide) rfl (fun ls hl => ?_)
                    refine lv_iload_n hx hb dX3_fits_82 rfl (lv_at hl 3 rfl) ?_
                    refine lv_iload hx hb dX3_fits_83 (lv_at hl 0 rfl) ?_
                    refine lv_aload_n hx hb dX3_fits_85 rfl (lv_at hl 1 rfl) ?_
                    refine r_get (C := RX3) (T := TX3) (N := 14) S hK w (k := 0) (by decide) (eC_0 ad _) rfl hinX3 7 (by decide) (List.mem_of_getElem? (i := 5) rfl) rfl dX3_fits_86 ?_
                    have J89_97 : ∀ (k1_89_97 : Int32), (if v5_63 ≤ (f_X3_smeltFrom (f_X3_smellPaper σ (ix p1) (σ 0 6)) v6_48 v7_63) then (lp_X3_fits_63 (f_X3_smellPaper σ (ix p1) (σ 0 6)) p2 v6_48 n (v3_63 + k1_89_97) v4_63 v5_63 (v7_63 + 1)) else (lp_X3_fits_63 (f_X3_smellPaper σ (ix p1) (σ 0 6)) p2 v6_48 n (v3_63 + k1_89_97) (f_X3_pairNumber v6_48 v7_63) (f_X3_smeltFrom (f_X3_smellPaper σ (ix p1) (σ 0 6)) v6_48 v7_63) (v7_63 + 1))) = res63 → ∀ (H : Heap) (locs : List Loc), CW 41 (eC ad) ad D (CA 41 ad sz) s.heap (f_X3_smellPaper σ (ix p1) (σ 0 6)) H locs → ∀ ls : Array Slot, lv_has ls 9 [(0, .ref (ad 0)), (2, .int p2), (4, .int v4_63), (5, .int v5_63), (6, .int v6_48), (7, .int v7_63), (8, .int (f_X3_smeltFrom (f_X3_smellPaper σ (ix p1) (σ 0 6)) v6_48 v7_63))] → W p l e (headSpec wsX3_fits ({ frames := 5, cells := 0, slots := 0, locals := 119 })).room s m ([.ref (ad 0), .int p1, .int p2] : List Value).toArray below meth c H locs 0 0 (MQ below (QWi 41 (eC ad) ad D T (CA 41 ad sz)) ([.ref (ad 0), .int p1, .int p2] : List Value).toArray s 0 0 (CA 41 ad sz)) (F0 m 97 ls [.int k1_89_97, .int v3_63]) := by
                      intro k1_89_97 hG H locs w ls hl
                      refine lv_iadd hx hb dX3_fits_97 ?_
                      refine lv_istore_n (lv' := [(3, .int (v3_63 + k1_89_97)), (0, .ref (ad 0)), (2, .int p2), (4, .int v4_63), (5, .int v5_63), (6, .int v6_48), (7, .int v7_63), (8, .int (f_X3_smeltFrom (f_X3_smellPaper σ (ix p1) (σ 0 6)) v6_48 v7_63))]) hx hb dX3_fits_98 rfl hl (by decide) rfl (fun ls hl => ?_)
                      refine lv_iload hx hb dX3_fits_99 (lv_at hl 7 rfl) ?_
                      refine lv_iload hx hb dX3_fits_101 (lv_at hl 4 rfl) ?_
                      refine lv_icmp_ge (tgt := 119) hx hb dX3_fits_103 (by decide) (fun c103 => ?_) (fun c103 => ?_)
                      · have t103 : v5_63.toInt ≤ (f_X3_smeltFrom (f_X3_smellPaper σ (ix p1) (σ 0 6)) v6_48 v7_63).toInt := qt_le c103
                        rw [if_pos c103] at hG
                        refine lv_iinc (v := (v7_63 + 1)) (lv' := [(7, .int (v7_63 + 1)), (3, .int (v3_63 + k1_89_97)), (0, .ref (ad 0)), (2, .int p2), (4, .int v4_63), (5, .int v5_63), (6, .int v6_48), (8, .int (f_X3_smeltFrom (f_X3_smellPaper σ (ix p1) (σ 0 6)) v6_48 v7_63))]) hx hb dX3_fits_119 hl (k := 6) rfl rfl (by decide) rfl (fun ls hl => ?_)
                        refine lv_goto (tgt := 63) hx hb dX3_fits_122 (by decide) ?_
                        have b7_63 : (v7_63 + 1).toInt = v7_63.toInt + 1 := inc_toInt (by omega) (by omega)
                        exact ih63 _ (v3_63 + k1_89_97) v4_63 v5_63 (v7_63 + 1) (by omega) (by omega) hG hex63 _ _ w ls (lv_sub hl [2, 3, 1, 4, 5, 6, 0] rfl)
                      · have t103 : (f_X3_smeltFrom (f_X3_smellPaper σ (ix p1) (σ 0 6)) v6_48 v7_63).toInt < v5_63.toInt := qt_nle c103
                        rw [if_neg c103] at hG
                        refine lv_iload hx hb dX3_fits_106 (lv_at hl 7 rfl) ?_
                        refine lv_istore (lv' := [(5, .int (f_X3_smeltFrom (f_X3_smellPaper σ (ix p1) (σ 0 6)) v6_48 v7_63)), (3, .int (v3_63 + k1_89_97)), (0, .ref (ad 0)), (2, .int p2), (4, .int v4_63), (6, .int v6_48), (7, .int v7_63), (8, .int (f_X3_smeltFrom (f_X3_smellPaper σ (ix p1) (σ 0 6)) v6_48 v7_63))]) hx hb dX3_fits_108 hl (by decide) rfl (fun ls hl => ?_)
                        refine lv_iload hx hb dX3_fits_110 (lv_at hl 5 rfl) ?_
                        refine lv_iload hx hb dX3_fits_112 (lv_at hl 6 rfl) ?_
                        refine call0i (va_runS (As := [.int v6_48, .int v7_63]) (rest := []) S (c_X3_pairNumber l v6_48 v7_63) (va_cwS 2 S.2.2.2.2 gX3_fits_X3_pairNumber rfl rfl rfl hd_X3_pairNumber ⟨Nat.le_of_ble_eq_true rfl, Nat.le_of_ble_eq_true rfl⟩) pre0S rfl rfl hl.1 rfl (lv_room (Nat.le_of_ble_eq_true rfl)) dX3_fits_114 ⟨Nat.zero_le _, Nat.zero_le _⟩) ?_
                        refine lv_istore (lv' := [(4, .int (f_X3_pairNumber v6_48 v7_63)), (5, .int (f_X3_smeltFrom (f_X3_smellPaper σ (ix p1) (σ 0 6)) v6_48 v7_63)), (3, .int (v3_63 + k1_89_97)), (0, .ref (ad 0)), (2, .int p2), (6, .int v6_48), (7, .int v7_63), (8, .int (f_X3_smeltFrom (f_X3_smellPaper σ (ix p1) (σ 0 6)) v6_48 v7_63))]) hx hb dX3_fits_117 hl (by decide) rfl (fun ls hl => ?_)
                        refine lv_iinc (v := (v7_63 + 1)) (lv' := [(7, .int (v7_63 + 1)), (4, .int (f_X3_pairNumber v6_48 v7_63)), (5, .int (f_X3_smeltFrom (f_X3_smellPaper σ (ix p1) (σ 0 6)) v6_48 v7_63)), (3, .int (v3_63 + k1_89_97)), (0, .ref (ad 0)), (2, .int p2), (6, .int v6_48), (8, .int (f_X3_smeltFrom (f_X3_smellPaper σ (ix p1) (σ 0 6)) v6_48 v7_63))]) hx hb dX3_fits_119 hl (k := 6) rfl rfl (by decide) rfl (fun ls hl => ?_)
                        refine lv_goto (tgt := 63) hx hb dX3_fits_122 (by decide) ?_
                        have b7_63 : (v7_63 + 1).toInt = v7_63.toInt + 1 := inc_toInt (by omega) (by omega)
                        exact ih63 _ (v3_63 + k1_89_97) (f_X3_pairNumber v6_48 v7_63) (f_X3_smeltFrom (f_X3_smellPaper σ (ix p1) (σ 0 6)) v6_48 v7_63) (v7_63 + 1) (by omega) (by omega) hG hex63 _ _ w ls (lv_sub hl [4, 5, 3, 1, 2, 6, 0] rfl)
                    refine lv_icmp_gt (tgt := 96) hx hb dX3_fits_89 (by decide) (fun c89 => ?_) (fun c89 => ?_)
                    · have t89 : ((f_X3_smellPaper σ (ix p1) (σ 0 6)) 0 7).toInt < (f_X3_smeltFrom (f_X3_smellPaper σ (ix p1) (σ 0 6)) v6_48 v7_63).toInt := qt_lt c89
                      simp only [if_pos c89] at hG
                      refine lv_iconst (v := 0) hx hb dX3_fits_96 (by decide) ?_
                      exact J89_97 0 hG _ _ w ls (lv_sub hl [1, 2, 4, 5, 6, 7, 0] rfl)
                    · have t89 : (f_X3_smeltFrom (f_X3_smellPaper σ (ix p1) (σ 0 6)) v6_48 v7_63).toInt ≤ ((f_X3_smellPaper σ (ix p1) (σ 0 6)) 0 7).toInt := qt_nlt c89
                      simp only [if_neg c89] at hG
                      refine lv_iconst (v := 1) hx hb dX3_fits_92 (by decide) ?_
                      refine lv_goto (tgt := 97) hx hb dX3_fits_93 (by decide) ?_
                      exact J89_97 1 hG _ _ w ls (lv_sub hl [1, 2, 4, 5, 6, 7, 0] rfl)
              have e63 := inc_toInt (a := v6_48) (by omega) (by omega)
              refine L63 200 _ v3_48 v4_48 v5_48 (v6_48 + 1) (by omega) (by omega) rfl (fun v3_63e v4_63e v5_63e hr63 H locs w ls hl => ?_) _ _ w ls (lv_sub hl [1, 2, 3, 4, 5, 6, 0] rfl)
              rw [hr63] at hG
              dsimp only at hG
              refine lv_iinc (v := (v6_48 + 1)) (lv' := [(6, .int (v6_48 + 1)), (0, .ref (ad 0)), (2, .int p2), (3, .int v3_63e), (4, .int v4_63e), (5, .int v5_63e)]) hx hb dX3_fits_125 hl (k := 5) rfl rfl (by decide) rfl (fun ls hl => ?_)
              refine lv_goto (tgt := 48) hx hb dX3_fits_128 (by decide) ?_
              have b6_48 : (v6_48 + 1).toInt = v6_48.toInt + 1 := inc_toInt (by omega) (by omega)
              exact ih48 _ v3_63e v4_63e v5_63e (v6_48 + 1) (by omega) (by omega) hG hex48 _ _ w ls (lv_sub hl [1, 2, 3, 4, 5, 0] rfl)
        refine L48 200 _ 0 0 2147483647 0 (by omega) (by omega) rfl (fun v3_48e v4_48e v5_48e hr48 H locs w ls hl => ?_) _ _ w ls (lv_sub hl [4, 6, 3, 2, 1, 0] rfl)
        rw [hr48] at hG
        dsimp only at hG
        refine lv_iload_n hx hb dX3_fits_131 rfl (lv_at hl 1 rfl) ?_
        refine lv_if_ne (tgt := 137) hx hb dX3_fits_132 (by decide) (fun c132 => ?_) (fun c132 => ?_)
        · have t132 : p2.toInt ≠ 0 := qt_ne c132
          rw [if_neg c132] at hG
          refine lv_iload_n hx hb dX3_fits_137 rfl (lv_at hl 1 rfl) ?_
          refine lv_iconst (v := 1) hx hb dX3_fits_138 (by decide) ?_
          refine lv_icmp_ne (tgt := 147) hx hb dX3_fits_139 (by decide) (fun c139 => ?_) (fun c139 => ?_)
          · have t139 : p2.toInt ≠ 1 := qt_ne c139
            rw [if_neg c139] at hG
            refine lv_iload hx hb dX3_fits_147 (lv_at hl 4 rfl) ?_
            exact endWi S hr hlocks w hG dX3_fits_149
          · have t139 : p2.toInt = 1 := qt_eq c139
            rw [if_pos c139] at hG
            refine lv_iload hx hb dX3_fits_142 (lv_at hl 3 rfl) ?_
            refine lv_goto (tgt := 149) hx hb dX3_fits_144 (by decide) ?_
            exact endWi S hr hlocks w hG dX3_fits_149
        · have t132 : p2.toInt = 0 := qt_eq c132
          rw [if_pos c132] at hG
          refine lv_iload_n hx hb dX3_fits_135 rfl (lv_at hl 2 rfl) ?_
          exact endWi S hr hlocks w hG dX3_fits_136
      · have t16 : 2 < p2.toInt := qt_nle c16
        rw [if_neg c16] at hG
        refine lv_bipush (v := (-2)) hx hb dX3_fits_19 (by decide) ?_
        exact endWi S hr hlocks w hG dX3_fits_21
  · rw [if_pos c5] at hG
    refine lv_iconst (v := (-1)) hx hb dX3_fits_8 (by decide) ?_
    exact endWi S hr hlocks w hG dX3_fits_9
set_option maxHeartbeats 4000000 in
set_option maxRecDepth 100000 in
theorem c_X3_isProved (l : Launch) (ad : Nat → Nat) (D : va_G) (sz : Nat) (σ : St) (p1 : Nat) (p2 : Int32) (hok : OkC σ) (hp1 : p1 < 8) : Met l yX3_isProved wsX3_isProved ({ frames := 5, cells := 0, slots := 0, locals := 119 }) (PreW 41 (eC ad) ad D (tyC ad) σ sz ([.ref (ad 0), .ref (ad (33 + p1)), .int p2] : List Value)) (QWi 41 (eC ad) ad D (f_X3_isProved σ p1 p2) (CA 41 ad sz)) 0 0 (CA 41 ad sz) := by
  generalize hG : f_X3_isProved σ p1 p2 = T
  refine headW (cc := cX3_isProved) (maxL := 9) (ret := (some .boolean)) ([.ref (ad 0), .ref (ad (33 + p1)), .int p2] : List Value) (by decide) rfl (Nat.le_of_ble_eq_true rfl) ?_
  intro p e s m below meth c S hr hlocks hK hN hsz w ls hl
  have S : CallFix p m c cX3_isProved 9 s ([.ref (ad 0), .ref (ad (33 + p1)), .int p2] : List Value).toArray wsX3_isProved RX3 := S
  have hx := S.1
  have hb := S.2.1
  have z0 : (0 : Int32).toInt = 0 := by decide
  have z1 : (1 : Int32).toInt = 1 := by decide
  have hl : lv_has ls 9 [(0, .ref (ad 0)), (1, .ref (ad (33 + p1))), (2, .int p2)] := hl
  have hinX0 : ∀ w ∈ wsX00, w ∈ wsX3_isProved := (fun _ h => List.mem_cons_of_mem _ (List.mem_append_left _ (List.mem_append_left _ (List.mem_append_right _ h))))
  have hinX3 : ∀ w ∈ wsX30, w ∈ wsX3_isProved := (fun _ h => List.mem_cons_of_mem _ (List.mem_append_left _ (List.mem_append_right _ h)))
  have hinX2 : ∀ w ∈ wsX20, w ∈ wsX3_isProved := (fun _ h => List.mem_cons_of_mem _ (List.mem_append_right _ h))
  have okf0 := hok.1
  have okf1 := hok.2.1
  have okf2 := hok.2.2.1
  have okf3 := hok.2.2.2.1
  have okf4 := hok.2.2.2.2.1
  have okf5 := hok.2.2.2.2.2
  rw [f_X3_isProved] at hG
  refine lv_aload_n hx hb dX3_isProved_0 rfl (lv_at hl 0 rfl) ?_
  refine lv_aload_n hx hb dX3_isProved_1 rfl (lv_at hl 1 rfl) ?_
  refine lv_iload_n hx hb dX3_isProved_2 rfl (lv_at hl 2 rfl) ?_
  refine callWv w (va_runV (As := [.ref (ad (33 + p1)), .int p2]) (rest := []) S (c_X3_smellPaper l ad D s.heap.size σ p1 p2 hok hp1) (cwV 2 S.2.2.2.2 gX3_isProved_X3_smellPaper rfl rfl rfl ⟨rfl, hd_X3_smellPaper⟩ ⟨Nat.le_of_ble_eq_true rfl, Nat.le_of_ble_eq_true rfl⟩) (preV hK hN w (k := 0) (by decide) (eC_0 ad _) (q := (RX3, TX3, 14)) rfl) rfl rfl hl.1 rfl (lv_room (Nat.le_of_ble_eq_true rfl)) dX3_isProved_3 ⟨Nat.zero_le _, Nat.zero_le _⟩) (fun H locs w => ?_)
  have hok : OkC (f_X3_smellPaper σ p1 p2) := ok_X3_smellPaper hok
  have okf0 := hok.1
  have okf1 := hok.2.1
  have okf2 := hok.2.2.1
  have okf3 := hok.2.2.2.1
  have okf4 := hok.2.2.2.2.1
  have okf5 := hok.2.2.2.2.2
  have f0 := vp_in_iff.mp (okf4 p1 hp1).1
  have f1 := vp_in_iff.mp (okf4 p1 hp1).2
  refine lv_aload_n hx hb dX3_isProved_6 rfl (lv_at hl 0 rfl) ?_
  refine lv_aload_n hx hb dX3_isProved_7 rfl (lv_at hl 1 rfl) ?_
  refine r_getN (C := RX0) (T := TX0) (N := 6) S hK hN w (k := (33 + p1)) (Nat.lt_of_lt_of_le (Nat.add_lt_add_left hp1 33) (by decide)) (eC_pa ad hp1 _) rfl hinX0 0 (by decide) 6 rfl rfl dX3_isProved_8 ?_
  refine lv_aload_n hx hb dX3_isProved_11 rfl (lv_at hl 1 rfl) ?_
  refine r_getN (C := RX0) (T := TX0) (N := 6) S hK hN w (k := (33 + p1)) (Nat.lt_of_lt_of_le (Nat.add_lt_add_left hp1 33) (by decide)) (eC_pa ad hp1 _) rfl hinX0 1 (by decide) 7 rfl rfl dX3_isProved_12 ?_
  refine call0i (va_runV (As := [.int ((f_X3_smellPaper σ p1 p2) (33 + p1) 0), .int ((f_X3_smellPaper σ p1 p2) (33 + p1) 1)]) (rest := []) S (c_X3_smeltFrom l ad D H.size (f_X3_smellPaper σ p1 p2) ((f_X3_smellPaper σ p1 p2) (33 + p1) 0) ((f_X3_smellPaper σ p1 p2) (33 + p1) 1) (by omega) (by omega)) (cwV 2 S.2.2.2.2 gX3_isProved_X3_smeltFrom rfl rfl rfl ⟨rfl, hd_X3_smeltFrom⟩ ⟨Nat.le_of_ble_eq_true rfl, Nat.le_of_ble_eq_true rfl⟩) (preV hK hN w (k := 0) (by decide) (eC_0 ad _) (q := (RX3, TX3, 14)) rfl) rfl rfl hl.1 rfl (lv_room (Nat.le_of_ble_eq_true rfl)) dX3_isProved_15 ⟨Nat.zero_le _, Nat.zero_le _⟩) ?_
  refine lv_istore_n (lv' := [(3, .int (f_X3_smeltFrom (f_X3_smellPaper σ p1 p2) ((f_X3_smellPaper σ p1 p2) (33 + p1) 0) ((f_X3_smellPaper σ p1 p2) (33 + p1) 1))), (0, .ref (ad 0)), (1, .ref (ad (33 + p1))), (2, .int p2)]) hx hb dX3_isProved_18 rfl hl (by decide) rfl (fun ls hl => ?_)
  refine lv_iload_n hx hb dX3_isProved_19 rfl (lv_at hl 0 rfl) ?_
  refine lv_aload_n hx hb dX3_isProved_20 rfl (lv_at hl 1 rfl) ?_
  refine r_get (C := RX3) (T := TX3) (N := 14) S hK w (k := 0) (by decide) (eC_0 ad _) rfl hinX3 7 (by decide) (List.mem_of_getElem? (i := 1) rfl) rfl dX3_isProved_21 ?_
  refine lv_icmp_le (tgt := 29) hx hb dX3_isProved_24 (by decide) (fun c24 => ?_) (fun c24 => ?_)
  · have t24 : (f_X3_smeltFrom (f_X3_smellPaper σ p1 p2) ((f_X3_smellPaper σ p1 p2) (33 + p1) 0) ((f_X3_smellPaper σ p1 p2) (33 + p1) 1)).toInt ≤ ((f_X3_smellPaper σ p1 p2) 0 7).toInt := qt_le c24
    rw [if_pos c24] at hG
    refine lv_aload_n hx hb dX3_isProved_29 rfl (lv_at hl 2 rfl) ?_
    refine r_getN (C := RX0) (T := TX0) (N := 6) S hK hN w (k := (33 + p1)) (Nat.lt_of_lt_of_le (Nat.add_lt_add_left hp1 33) (by decide)) (eC_pa ad hp1 _) rfl hinX0 0 (by decide) 6 rfl rfl dX3_isProved_30 ?_
    refine lv_aload_n hx hb dX3_isProved_33 rfl (lv_at hl 2 rfl) ?_
    refine r_getN (C := RX0) (T := TX0) (N := 6) S hK hN w (k := (33 + p1)) (Nat.lt_of_lt_of_le (Nat.add_lt_add_left hp1 33) (by decide)) (eC_pa ad hp1 _) rfl hinX0 1 (by decide) 7 rfl rfl dX3_isProved_34 ?_
    refine r_min S hl.1 (List.mem_of_getElem? (i := 2) rfl) (List.mem_of_getElem? (i := 3) rfl) (List.mem_of_getElem? (i := 4) rfl) (List.mem_of_getElem? (i := 5) rfl) ⟨Nat.le_of_ble_eq_true rfl, Nat.le_of_ble_eq_true rfl, Nat.zero_le _, Nat.zero_le _⟩ dX3_isProved_37 ?_
    refine lv_istore (lv' := [(4, .int (jmin ((f_X3_smellPaper σ p1 p2) (33 + p1) 0) ((f_X3_smellPaper σ p1 p2) (33 + p1) 1))), (3, .int (f_X3_smeltFrom (f_X3_smellPaper σ p1 p2) ((f_X3_smellPaper σ p1 p2) (33 + p1) 0) ((f_X3_smellPaper σ p1 p2) (33 + p1) 1))), (0, .ref (ad 0)), (1, .ref (ad (33 + p1))), (2, .int p2)]) hx hb dX3_isProved_40 hl (by decide) rfl (fun ls hl => ?_)
    refine lv_aload_n hx hb dX3_isProved_42 rfl (lv_at hl 3 rfl) ?_
    refine r_getN (C := RX0) (T := TX0) (N := 6) S hK hN w (k := (33 + p1)) (Nat.lt_of_lt_of_le (Nat.add_lt_add_left hp1 33) (by decide)) (eC_pa ad hp1 _) rfl hinX0 0 (by decide) 6 rfl rfl dX3_isProved_43 ?_
    refine lv_aload_n hx hb dX3_isProved_46 rfl (lv_at hl 3 rfl) ?_
    refine r_getN (C := RX0) (T := TX0) (N := 6) S hK hN w (k := (33 + p1)) (Nat.lt_of_lt_of_le (Nat.add_lt_add_left hp1 33) (by decide)) (eC_pa ad hp1 _) rfl hinX0 1 (by decide) 7 rfl rfl dX3_isProved_47 ?_
    refine r_max S hl.1 (List.mem_of_getElem? (i := 6) rfl) (List.mem_of_getElem? (i := 7) rfl) (List.mem_of_getElem? (i := 4) rfl) (List.mem_of_getElem? (i := 8) rfl) ⟨Nat.le_of_ble_eq_true rfl, Nat.le_of_ble_eq_true rfl, Nat.zero_le _, Nat.zero_le _⟩ dX3_isProved_50 ?_
    refine lv_istore (lv' := [(5, .int (jmax ((f_X3_smellPaper σ p1 p2) (33 + p1) 0) ((f_X3_smellPaper σ p1 p2) (33 + p1) 1))), (4, .int (jmin ((f_X3_smellPaper σ p1 p2) (33 + p1) 0) ((f_X3_smellPaper σ p1 p2) (33 + p1) 1))), (3, .int (f_X3_smeltFrom (f_X3_smellPaper σ p1 p2) ((f_X3_smellPaper σ p1 p2) (33 + p1) 0) ((f_X3_smellPaper σ p1 p2) (33 + p1) 1))), (0, .ref (ad 0)), (1, .ref (ad (33 + p1))), (2, .int p2)]) hx hb dX3_isProved_53 hl (by decide) rfl (fun ls hl => ?_)
    refine lv_iconst (v := 0) hx hb dX3_isProved_55 (by decide) ?_
    refine lv_istore (lv' := [(6, .int 0), (5, .int (jmax ((f_X3_smellPaper σ p1 p2) (33 + p1) 0) ((f_X3_smellPaper σ p1 p2) (33 + p1) 1))), (4, .int (jmin ((f_X3_smellPaper σ p1 p2) (33 + p1) 0) ((f_X3_smellPaper σ p1 p2) (33 + p1) 1))), (3, .int (f_X3_smeltFrom (f_X3_smellPaper σ p1 p2) ((f_X3_smellPaper σ p1 p2) (33 + p1) 0) ((f_X3_smellPaper σ p1 p2) (33 + p1) 1))), (0, .ref (ad 0)), (1, .ref (ad (33 + p1))), (2, .int p2)]) hx hb dX3_isProved_56 hl (by decide) rfl (fun ls hl => ?_)
    have L58 : ∀ (n : Nat) (res58 : (Int32 × St) ⊕ (Unit)), ∀ (v6_58 : Int32), ((0 ≤ v6_58.toInt ∧ v6_58.toInt ≤ 8)) → (8 - v6_58.toInt).toNat < n → (lp_X3_isProved_58 (f_X3_smellPaper σ p1 p2) (f_X3_smeltFrom (f_X3_smellPaper σ p1 p2) ((f_X3_smellPaper σ p1 p2) (33 + p1) 0) ((f_X3_smellPaper σ p1 p2) (33 + p1) 1)) (jmin ((f_X3_smellPaper σ p1 p2) (33 + p1) 0) ((f_X3_smellPaper σ p1 p2) (33 + p1) 1)) (jmax ((f_X3_smellPaper σ p1 p2) (33 + p1) 0) ((f_X3_smellPaper σ p1 p2) (33 + p1) 1)) n v6_58) = res58 → (∀ r : Int32 × St, res58 = Sum.inl r → r = T) → (res58 = Sum.inr () → ∀ (H : Heap) (locs : List Loc), CW 41 (eC ad) ad D (CA 41 ad sz) s.heap (f_X3_smellPaper σ p1 p2) H locs → ∀ ls : Array Slot, lv_has ls 9 [(0, .ref (ad 0))] → W p l e (headSpec wsX3_isProved ({ frames := 5, cells := 0, slots := 0, locals := 119 })).room s m ([.ref (ad 0), .ref (ad (33 + p1)), .int p2] : List Value).toArray below meth c H locs 0 0 (MQ below (QWi 41 (eC ad) ad D T (CA 41 ad sz)) ([.ref (ad 0), .ref (ad (33 + p1)), .int p2] : List Value).toArray s 0 0 (CA 41 ad sz)) (F0 m 134 ls [])) → ∀ (H : Heap) (locs : List Loc), CW 41 (eC ad) ad D (CA 41 ad sz) s.heap (f_X3_smellPaper σ p1 p2) H locs → ∀ ls : Array Slot, lv_has ls 9 [(0, .ref (ad 0)), (3, .int (f_X3_smeltFrom (f_X3_smellPaper σ p1 p2) ((f_X3_smellPaper σ p1 p2) (33 + p1) 0) ((f_X3_smellPaper σ p1 p2) (33 + p1) 1))), (4, .int (jmin ((f_X3_smellPaper σ p1 p2) (33 + p1) 0) ((f_X3_smellPaper σ p1 p2) (33 + p1) 1))), (5, .int (jmax ((f_X3_smellPaper σ p1 p2) (33 + p1) 0) ((f_X3_smellPaper σ p1 p2) (33 + p1) 1))), (6, .int v6_58)] → W p l e (headSpec wsX3_isProved ({ frames := 5, cells := 0, slots := 0, locals := 119 })).room s m ([.ref (ad 0), .ref (ad (33 + p1)), .int p2] : List Value).toArray below meth c H locs 0 0 (MQ below (QWi 41 (eC ad) ad D T (CA 41 ad sz)) ([.ref (ad 0), .ref (ad (33 + p1)), .int p2] : List Value).toArray s 0 0 (CA 41 ad sz)) (F0 m 58 ls []) := by
      intro n
      induction n with
      | zero => intro _ _ _ hm; exact absurd hm (Nat.not_lt_zero _)
      | succ n ih58 =>
        intro res58 v6_58 hI58 hm58 hG hret58 hex58 H locs w ls hl
        have i58_0 := hI58
        rw [lp_X3_isProved_58] at hG
        refine lv_iload hx hb dX3_isProved_58 (lv_at hl 4 rfl) ?_
        refine lv_aload_n hx hb dX3_isProved_60 rfl (lv_at hl 0 rfl) ?_
        refine r_get (C := RX3) (T := TX3) (N := 14) S hK w (k := 0) (by decide) (eC_0 ad _) rfl hinX3 4 (by decide) (List.mem_of_getElem? (i := 9) rfl) rfl dX3_isProved_61 ?_
        refine lv_icmp_ge (tgt := 134) hx hb dX3_isProved_64 (by decide) (fun c64 => ?_) (fun c64 => ?_)
        · have t64 : ((f_X3_smellPaper σ p1 p2) 0 4).toInt ≤ v6_58.toInt := qt_le c64
          rw [if_pos c64] at hG
          exact hex58  hG.symm _ _ w ls (lv_sub hl [0] rfl)
        · have t64 : v6_58.toInt < ((f_X3_smellPaper σ p1 p2) 0 4).toInt := qt_nle c64
          rw [if_neg c64] at hG
          refine lv_iload hx hb dX3_isProved_67 (lv_at hl 4 rfl) ?_
          refine lv_iconst (v := 1) hx hb dX3_isProved_69 (by decide) ?_
          refine lv_iadd hx hb dX3_isProved_70 ?_
          refine lv_istore (lv' := [(7, .int (v6_58 + 1)), (0, .ref (ad 0)), (3, .int (f_X3_smeltFrom (f_X3_smellPaper σ p1 p2) ((f_X3_smellPaper σ p1 p2) (33 + p1) 0) ((f_X3_smellPaper σ p1 p2) (33 + p1) 1))), (4, .int (jmin ((f_X3_smellPaper σ p1 p2) (33 + p1) 0) ((f_X3_smellPaper σ p1 p2) (33 + p1) 1))), (5, .int (jmax ((f_X3_smellPaper σ p1 p2) (33 + p1) 0) ((f_X3_smellPaper σ p1 p2) (33 + p1) 1))), (6, .int v6_58)]) hx hb dX3_isProved_71 hl (by decide) rfl (fun ls hl => ?_)
          have L73 : ∀ (n : Nat) (res73 : (Int32 × St) ⊕ (Unit)), ∀ (v7_73 : Int32), ((0 ≤ v7_73.toInt ∧ v7_73.toInt ≤ 8)) → (8 - v7_73.toInt).toNat < n → (lp_X3_isProved_73 (f_X3_smellPaper σ p1 p2) (f_X3_smeltFrom (f_X3_smellPaper σ p1 p2) ((f_X3_smellPaper σ p1 p2) (33 + p1) 0) ((f_X3_smellPaper σ p1 p2) (33 + p1) 1)) (jmin ((f_X3_smellPaper σ p1 p2) (33 + p1) 0) ((f_X3_smellPaper σ p1 p2) (33 + p1) 1)) (jmax ((f_X3_smellPaper σ p1 p2) (33 + p1) 0) ((f_X3_smellPaper σ p1 p2) (33 + p1) 1)) v6_58 n v7_73) = res73 → (∀ r : Int32 × St, res73 = Sum.inl r → r = T) → (res73 = Sum.inr () → ∀ (H : Heap) (locs : List Loc), CW 41 (eC ad) ad D (CA 41 ad sz) s.heap (f_X3_smellPaper σ p1 p2) H locs → ∀ ls : Array Slot, lv_has ls 9 [(0, .ref (ad 0)), (3, .int (f_X3_smeltFrom (f_X3_smellPaper σ p1 p2) ((f_X3_smellPaper σ p1 p2) (33 + p1) 0) ((f_X3_smellPaper σ p1 p2) (33 + p1) 1))), (4, .int (jmin ((f_X3_smellPaper σ p1 p2) (33 + p1) 0) ((f_X3_smellPaper σ p1 p2) (33 + p1) 1))), (5, .int (jmax ((f_X3_smellPaper σ p1 p2) (33 + p1) 0) ((f_X3_smellPaper σ p1 p2) (33 + p1) 1))), (6, .int v6_58)] → W p l e (headSpec wsX3_isProved ({ frames := 5, cells := 0, slots := 0, locals := 119 })).room s m ([.ref (ad 0), .ref (ad (33 + p1)), .int p2] : List Value).toArray below meth c H locs 0 0 (MQ below (QWi 41 (eC ad) ad D T (CA 41 ad sz)) ([.ref (ad 0), .ref (ad (33 + p1)), .int p2] : List Value).toArray s 0 0 (CA 41 ad sz)) (F0 m 128 ls [])) → ∀ (H : Heap) (locs : List Loc), CW 41 (eC ad) ad D (CA 41 ad sz) s.heap (f_X3_smellPaper σ p1 p2) H locs → ∀ ls : Array Slot, lv_has ls 9 [(0, .ref (ad 0)), (3, .int (f_X3_smeltFrom (f_X3_smellPaper σ p1 p2) ((f_X3_smellPaper σ p1 p2) (33 + p1) 0) ((f_X3_smellPaper σ p1 p2) (33 + p1) 1))), (4, .int (jmin ((f_X3_smellPaper σ p1 p2) (33 + p1) 0) ((f_X3_smellPaper σ p1 p2) (33 + p1) 1))), (5, .int (jmax ((f_X3_smellPaper σ p1 p2) (33 + p1) 0) ((f_X3_smellPaper σ p1 p2) (33 + p1) 1))), (6, .int v6_58), (7, .int v7_73)] → W p l e (headSpec wsX3_isProved ({ frames := 5, cells := 0, slots := 0, locals := 119 })).room s m ([.ref (ad 0), .ref (ad (33 + p1)), .int p2] : List Value).toArray below meth c H locs 0 0 (MQ below (QWi 41 (eC ad) ad D T (CA 41 ad sz)) ([.ref (ad 0), .ref (ad (33 + p1)), .int p2] : List Value).toArray s 0 0 (CA 41 ad sz)) (F0 m 73 ls []) := by
            intro n
            induction n with
            | zero => intro _ _ _ hm; exact absurd hm (Nat.not_lt_zero _)
            | succ n ih73 =>
              intro res73 v7_73 hI73 hm73 hG hret73 hex73 H locs w ls hl
              have i73_0 := hI73
              rw [lp_X3_isProved_73] at hG
              refine lv_iload hx hb dX3_isProved_73 (lv_at hl 5 rfl) ?_
              refine lv_aload_n hx hb dX3_isProved_75 rfl (lv_at hl 0 rfl) ?_
              refine r_get (C := RX3) (T := TX3) (N := 14) S hK w (k := 0) (by decide) (eC_0 ad _) rfl hinX3 4 (by decide) (List.mem_of_getElem? (i := 9) rfl) rfl dX3_isProved_76 ?_
              refine lv_icmp_ge (tgt := 128) hx hb dX3_isProved_79 (by decide) (fun c79 => ?_) (fun c79 => ?_)
              · have t79 : ((f_X3_smellPaper σ p1 p2) 0 4).toInt ≤ v7_73.toInt := qt_le c79
                rw [if_pos c79] at hG
                exact hex73  hG.symm _ _ w ls (lv_sub hl [0, 1, 2, 3, 4] rfl)
              · have t79 : v7_73.toInt < ((f_X3_smellPaper σ p1 p2) 0 4).toInt := qt_nle c79
                rw [if_neg c79] at hG
                refine lv_iload hx hb dX3_isProved_82 (lv_at hl 4 rfl) ?_
                refine lv_iload hx hb dX3_isProved_84 (lv_at hl 2 rfl) ?_
                have J86_101 : ∀ (k0_86_101 : Int32), (if k0_86_101 = 0 then (if (f_X3_smeltFrom (f_X3_smellPaper σ p1 p2) ((f_X3_smellPaper σ p1 p2) (33 + p1) 0) ((f_X3_smellPaper σ p1 p2) (33 + p1) 1)) < (f_X3_smeltFrom (f_X3_smellPaper σ p1 p2) v6_58 v7_73) then (lp_X3_isProved_73 (f_X3_smellPaper σ p1 p2) (f_X3_smeltFrom (f_X3_smellPaper σ p1 p2) ((f_X3_smellPaper σ p1 p2) (33 + p1) 0) ((f_X3_smellPaper σ p1 p2) (33 + p1) 1)) (jmin ((f_X3_smellPaper σ p1 p2) (33 + p1) 0) ((f_X3_smellPaper σ p1 p2) (33 + p1) 1)) (jmax ((f_X3_smellPaper σ p1 p2) (33 + p1) 0) ((f_X3_smellPaper σ p1 p2) (33 + p1) 1)) v6_58 n (v7_73 + 1)) else (Sum.inl (0, (f_X3_smellPaper σ p1 p2)))) else (lp_X3_isProved_73 (f_X3_smellPaper σ p1 p2) (f_X3_smeltFrom (f_X3_smellPaper σ p1 p2) ((f_X3_smellPaper σ p1 p2) (33 + p1) 0) ((f_X3_smellPaper σ p1 p2) (33 + p1) 1)) (jmin ((f_X3_smellPaper σ p1 p2) (33 + p1) 0) ((f_X3_smellPaper σ p1 p2) (33 + p1) 1)) (jmax ((f_X3_smellPaper σ p1 p2) (33 + p1) 0) ((f_X3_smellPaper σ p1 p2) (33 + p1) 1)) v6_58 n (v7_73 + 1))) = res73 → ∀ (H : Heap) (locs : List Loc), CW 41 (eC ad) ad D (CA 41 ad sz) s.heap (f_X3_smellPaper σ p1 p2) H locs → ∀ ls : Array Slot, lv_has ls 9 [(0, .ref (ad 0)), (3, .int (f_X3_smeltFrom (f_X3_smellPaper σ p1 p2) ((f_X3_smellPaper σ p1 p2) (33 + p1) 0) ((f_X3_smellPaper σ p1 p2) (33 + p1) 1))), (4, .int (jmin ((f_X3_smellPaper σ p1 p2) (33 + p1) 0) ((f_X3_smellPaper σ p1 p2) (33 + p1) 1))), (5, .int (jmax ((f_X3_smellPaper σ p1 p2) (33 + p1) 0) ((f_X3_smellPaper σ p1 p2) (33 + p1) 1))), (6, .int v6_58), (7, .int v7_73)] → W p l e (headSpec wsX3_isProved ({ frames := 5, cells := 0, slots := 0, locals := 119 })).room s m ([.ref (ad 0), .ref (ad (33 + p1)), .int p2] : List Value).toArray below meth c H locs 0 0 (MQ below (QWi 41 (eC ad) ad D T (CA 41 ad sz)) ([.ref (ad 0), .ref (ad (33 + p1)), .int p2] : List Value).toArray s 0 0 (CA 41 ad sz)) (F0 m 101 ls [.int k0_86_101]) := by
                  intro k0_86_101 hG H locs w ls hl
                  refine lv_istore (lv' := [(8, .int k0_86_101), (0, .ref (ad 0)), (3, .int (f_X3_smeltFrom (f_X3_smellPaper σ p1 p2) ((f_X3_smellPaper σ p1 p2) (33 + p1) 0) ((f_X3_smellPaper σ p1 p2) (33 + p1) 1))), (4, .int (jmin ((f_X3_smellPaper σ p1 p2) (33 + p1) 0) ((f_X3_smellPaper σ p1 p2) (33 + p1) 1))), (5, .int (jmax ((f_X3_smellPaper σ p1 p2) (33 + p1) 0) ((f_X3_smellPaper σ p1 p2) (33 + p1) 1))), (6, .int v6_58), (7, .int v7_73)]) hx hb dX3_isProved_101 hl (by decide) rfl (fun ls hl => ?_)
                  refine lv_iload hx hb dX3_isProved_103 (lv_at hl 0 rfl) ?_
                  refine lv_if_ne (tgt := 122) hx hb dX3_isProved_105 (by decide) (fun c105 => ?_) (fun c105 => ?_)
                  · have t105 : k0_86_101.toInt ≠ 0 := qt_ne c105
                    rw [if_neg c105] at hG
                    refine lv_iinc (v := (v7_73 + 1)) (lv' := [(7, .int (v7_73 + 1)), (8, .int k0_86_101), (0, .ref (ad 0)), (3, .int (f_X3_smeltFrom (f_X3_smellPaper σ p1 p2) ((f_X3_smellPaper σ p1 p2) (33 + p1) 0) ((f_X3_smellPaper σ p1 p2) (33 + p1) 1))), (4, .int (jmin ((f_X3_smellPaper σ p1 p2) (33 + p1) 0) ((f_X3_smellPaper σ p1 p2) (33 + p1) 1))), (5, .int (jmax ((f_X3_smellPaper σ p1 p2) (33 + p1) 0) ((f_X3_smellPaper σ p1 p2) (33 + p1) 1))), (6, .int v6_58)]) hx hb dX3_isProved_122 hl (k := 6) rfl rfl (by decide) rfl (fun ls hl => ?_)
                    refine lv_goto (tgt := 73) hx hb dX3_isProved_125 (by decide) ?_
                    have b7_73 : (v7_73 + 1).toInt = v7_73.toInt + 1 := inc_toInt (by omega) (by omega)
                    exact ih73 _ (v7_73 + 1) (by omega) (by omega) hG hret73 hex73 _ _ w ls (lv_sub hl [2, 3, 4, 5, 6, 0] rfl)
                  · have t105 : k0_86_101.toInt = 0 := qt_eq c105
                    rw [if_pos c105] at hG
                    refine lv_aload_n hx hb dX3_isProved_108 rfl (lv_at hl 1 rfl) ?_
                    refine lv_iload hx hb dX3_isProved_109 (lv_at hl 5 rfl) ?_
                    refine lv_iload hx hb dX3_isProved_111 (lv_at hl 6 rfl) ?_
                    refine call0i (va_runV (As := [.int v6_58, .int v7_73]) (rest := []) S (c_X3_smeltFrom l ad D H.size (f_X3_smellPaper σ p1 p2) v6_58 v7_73 (by omega) (by omega)) (cwV 2 S.2.2.2.2 gX3_isProved_X3_smeltFrom rfl rfl rfl ⟨rfl, hd_X3_smeltFrom⟩ ⟨Nat.le_of_ble_eq_true rfl, Nat.le_of_ble_eq_true rfl⟩) (preV hK hN w (k := 0) (by decide) (eC_0 ad _) (q := (RX3, TX3, 14)) rfl) rfl rfl hl.1 rfl (lv_room (Nat.le_of_ble_eq_true rfl)) dX3_isProved_113 ⟨Nat.zero_le _, Nat.zero_le _⟩) ?_
                    refine lv_iload_n hx hb dX3_isProved_116 rfl (lv_at hl 2 rfl) ?_
                    refine lv_icmp_gt (tgt := 122) hx hb dX3_isProved_117 (by decide) (fun c117 => ?_) (fun c117 => ?_)
                    · have t117 : (f_X3_smeltFrom (f_X3_smellPaper σ p1 p2) ((f_X3_smellPaper σ p1 p2) (33 + p1) 0) ((f_X3_smellPaper σ p1 p2) (33 + p1) 1)).toInt < (f_X3_smeltFrom (f_X3_smellPaper σ p1 p2) v6_58 v7_73).toInt := qt_lt c117
                      rw [if_pos c117] at hG
                      refine lv_iinc (v := (v7_73 + 1)) (lv' := [(7, .int (v7_73 + 1)), (8, .int k0_86_101), (0, .ref (ad 0)), (3, .int (f_X3_smeltFrom (f_X3_smellPaper σ p1 p2) ((f_X3_smellPaper σ p1 p2) (33 + p1) 0) ((f_X3_smellPaper σ p1 p2) (33 + p1) 1))), (4, .int (jmin ((f_X3_smellPaper σ p1 p2) (33 + p1) 0) ((f_X3_smellPaper σ p1 p2) (33 + p1) 1))), (5, .int (jmax ((f_X3_smellPaper σ p1 p2) (33 + p1) 0) ((f_X3_smellPaper σ p1 p2) (33 + p1) 1))), (6, .int v6_58)]) hx hb dX3_isProved_122 hl (k := 6) rfl rfl (by decide) rfl (fun ls hl => ?_)
                      refine lv_goto (tgt := 73) hx hb dX3_isProved_125 (by decide) ?_
                      have b7_73 : (v7_73 + 1).toInt = v7_73.toInt + 1 := inc_toInt (by omega) (by omega)
                      exact ih73 _ (v7_73 + 1) (by omega) (by omega) hG hret73 hex73 _ _ w ls (lv_sub hl [2, 3, 4, 5, 6, 0] rfl)
                    · have t117 : (f_X3_smeltFrom (f_X3_smellPaper σ p1 p2) v6_58 v7_73).toInt ≤ (f_X3_smeltFrom (f_X3_smellPaper σ p1 p2) ((f_X3_smellPaper σ p1 p2) (33 + p1) 0) ((f_X3_smellPaper σ p1 p2) (33 + p1) 1)).toInt := qt_nlt c117
                      rw [if_neg c117] at hG
                      refine lv_iconst (v := 0) hx hb dX3_isProved_120 (by decide) ?_
                      exact endWz S hr hlocks w (Or.inl rfl) (hret73 _ hG.symm) dX3_isProved_121
                refine lv_icmp_ne (tgt := 100) hx hb dX3_isProved_86 (by decide) (fun c86 => ?_) (fun c86 => ?_)
                · have t86 : v6_58.toInt ≠ (jmin ((f_X3_smellPaper σ p1 p2) (33 + p1) 0) ((f_X3_smellPaper σ p1 p2) (33 + p1) 1)).toInt := qt_ne c86
                  simp only [if_neg c86] at hG
                  refine lv_iconst (v := 0) hx hb dX3_isProved_100 (by decide) ?_
                  exact J86_101 0 hG _ _ w ls (lv_sub hl [0, 1, 2, 3, 4, 5] rfl)
                · have t86 : v6_58.toInt = (jmin ((f_X3_smellPaper σ p1 p2) (33 + p1) 0) ((f_X3_smellPaper σ p1 p2) (33 + p1) 1)).toInt := qt_eq c86
                  simp only [if_pos c86] at hG
                  refine lv_iload hx hb dX3_isProved_89 (lv_at hl 5 rfl) ?_
                  refine lv_iload hx hb dX3_isProved_91 (lv_at hl 3 rfl) ?_
                  refine lv_icmp_ne (tgt := 100) hx hb dX3_isProved_93 (by decide) (fun c93 => ?_) (fun c93 => ?_)
                  · have t93 : v7_73.toInt ≠ (jmax ((f_X3_smellPaper σ p1 p2) (33 + p1) 0) ((f_X3_smellPaper σ p1 p2) (33 + p1) 1)).toInt := qt_ne c93
                    simp only [if_neg c93] at hG
                    refine lv_iconst (v := 0) hx hb dX3_isProved_100 (by decide) ?_
                    exact J86_101 0 hG _ _ w ls (lv_sub hl [0, 1, 2, 3, 4, 5] rfl)
                  · have t93 : v7_73.toInt = (jmax ((f_X3_smellPaper σ p1 p2) (33 + p1) 0) ((f_X3_smellPaper σ p1 p2) (33 + p1) 1)).toInt := qt_eq c93
                    simp only [if_pos c93] at hG
                    refine lv_iconst (v := 1) hx hb dX3_isProved_96 (by decide) ?_
                    refine lv_goto (tgt := 101) hx hb dX3_isProved_97 (by decide) ?_
                    exact J86_101 1 hG _ _ w ls (lv_sub hl [0, 1, 2, 3, 4, 5] rfl)
          have e73 := inc_toInt (a := v6_58) (by omega) (by omega)
          refine L73 200 _ (v6_58 + 1) (by omega) (by omega) rfl (fun r hr73 => by rw [hr73] at hG; exact hret58 _ hG.symm) (fun hr73 H locs w ls hl => ?_) _ _ w ls (lv_sub hl [1, 2, 3, 4, 5, 0] rfl)
          rw [hr73] at hG
          dsimp only at hG
          refine lv_iinc (v := (v6_58 + 1)) (lv' := [(6, .int (v6_58 + 1)), (0, .ref (ad 0)), (3, .int (f_X3_smeltFrom (f_X3_smellPaper σ p1 p2) ((f_X3_smellPaper σ p1 p2) (33 + p1) 0) ((f_X3_smellPaper σ p1 p2) (33 + p1) 1))), (4, .int (jmin ((f_X3_smellPaper σ p1 p2) (33 + p1) 0) ((f_X3_smellPaper σ p1 p2) (33 + p1) 1))), (5, .int (jmax ((f_X3_smellPaper σ p1 p2) (33 + p1) 0) ((f_X3_smellPaper σ p1 p2) (33 + p1) 1)))]) hx hb dX3_isProved_128 hl (k := 4) rfl rfl (by decide) rfl (fun ls hl => ?_)
          refine lv_goto (tgt := 58) hx hb dX3_isProved_131 (by decide) ?_
          have b6_58 : (v6_58 + 1).toInt = v6_58.toInt + 1 := inc_toInt (by omega) (by omega)
          exact ih58 _ (v6_58 + 1) (by omega) (by omega) hG hret58 hex58 _ _ w ls (lv_sub hl [1, 2, 3, 4, 0] rfl)
    refine L58 200 _ 0 (by omega) (by omega) rfl (fun r hr58 => by rw [hr58] at hG; exact hG) (fun hr58 H locs w ls hl => ?_) _ _ w ls (lv_sub hl [4, 3, 2, 1, 0] rfl)
    rw [hr58] at hG
    dsimp only at hG
    refine lv_iconst (v := 1) hx hb dX3_isProved_134 (by decide) ?_
    exact endWz S hr hlocks w (Or.inr rfl) hG dX3_isProved_135
  · have t24 : ((f_X3_smellPaper σ p1 p2) 0 7).toInt < (f_X3_smeltFrom (f_X3_smellPaper σ p1 p2) ((f_X3_smellPaper σ p1 p2) (33 + p1) 0) ((f_X3_smellPaper σ p1 p2) (33 + p1) 1)).toInt := qt_nle c24
    rw [if_neg c24] at hG
    refine lv_iconst (v := 0) hx hb dX3_isProved_27 (by decide) ?_
    exact endWz S hr hlocks w (Or.inl rfl) hG dX3_isProved_28
set_option maxHeartbeats 4000000 in
set_option maxRecDepth 100000 in
theorem c_X3_proved (l : Launch) (ad : Nat → Nat) (D : va_G) (sz : Nat) (σ : St) (hok : OkC σ) : Met l yX3_proved wsX3_proved ({ frames := 6, cells := 0, slots := 0, locals := 147 }) (PreW 41 (eC ad) ad D (tyC ad) σ sz ([.ref (ad 0)] : List Value)) (QWi 41 (eC ad) ad D (f_X3_proved σ) (CA 41 ad sz)) 0 0 (CA 41 ad sz) := by
  generalize hG : f_X3_proved σ = T
  refine headW (cc := cX3_proved) (maxL := 3) (ret := (some .int)) ([.ref (ad 0)] : List Value) (by decide) rfl (Nat.le_of_ble_eq_true rfl) ?_
  intro p e s m below meth c S hr hlocks hK hN hsz w ls hl
  have S : CallFix p m c cX3_proved 3 s ([.ref (ad 0)] : List Value).toArray wsX3_proved RX3 := S
  have hx := S.1
  have hb := S.2.1
  have z0 : (0 : Int32).toInt = 0 := by decide
  have z1 : (1 : Int32).toInt = 1 := by decide
  have hl : lv_has ls 3 [(0, .ref (ad 0))] := hl
  have hinX3 : ∀ w ∈ wsX30, w ∈ wsX3_proved := (fun _ h => List.mem_cons_of_mem _ (List.mem_append_left _ (List.mem_append_left _ (List.mem_append_right _ h))))
  have hinX0 : ∀ w ∈ wsX00, w ∈ wsX3_proved := (fun _ h => List.mem_cons_of_mem _ (List.mem_append_left _ (List.mem_append_right _ h)))
  have hinX2 : ∀ w ∈ wsX20, w ∈ wsX3_proved := (fun _ h => List.mem_cons_of_mem _ (List.mem_append_right _ h))
  have okf0 := hok.1
  have okf1 := hok.2.1
  have okf2 := hok.2.2.1
  have okf3 := hok.2.2.2.1
  have okf4 := hok.2.2.2.2.1
  have okf5 := hok.2.2.2.2.2
  rw [f_X3_proved] at hG
  refine lv_iconst (v := 0) hx hb dX3_proved_0 (by decide) ?_
  refine lv_istore_n (lv' := [(1, .int 0), (0, .ref (ad 0))]) hx hb dX3_proved_1 rfl hl (by decide) rfl (fun ls hl => ?_)
  refine lv_iconst (v := 0) hx hb dX3_proved_2 (by decide) ?_
  refine lv_istore_n (lv' := [(2, .int 0), (1, .int 0), (0, .ref (ad 0))]) hx hb dX3_proved_3 rfl hl (by decide) rfl (fun ls hl => ?_)
  have L4 : ∀ (n : Nat) (res4 : Int32 × St), ∀ (v1_4 : Int32), ∀ (v2_4 : Int32), ∀ (S_4 : St), ((OkC S_4) ∧ (0 ≤ v2_4.toInt ∧ v2_4.toInt ≤ 8)) → (8 - v2_4.toInt).toNat < n → (lp_X3_proved_4 n v1_4 v2_4 S_4) = res4 → (∀ (v1_4e : Int32), ∀ (S_4e : St), (OkC S_4e) → res4 = (v1_4e, S_4e) → ∀ (H : Heap) (locs : List Loc), CW 41 (eC ad) ad D (CA 41 ad sz) s.heap S_4e H locs → ∀ ls : Array Slot, lv_has ls 3 [(0, .ref (ad 0)), (1, .int v1_4e)] → W p l e (headSpec wsX3_proved ({ frames := 6, cells := 0, slots := 0, locals := 147 })).room s m ([.ref (ad 0)] : List Value).toArray below meth c H locs 0 0 (MQ below (QWi 41 (eC ad) ad D T (CA 41 ad sz)) ([.ref (ad 0)] : List Value).toArray s 0 0 (CA 41 ad sz)) (F0 m 41 ls [])) → ∀ (H : Heap) (locs : List Loc), CW 41 (eC ad) ad D (CA 41 ad sz) s.heap S_4 H locs → ∀ ls : Array Slot, lv_has ls 3 [(0, .ref (ad 0)), (1, .int v1_4), (2, .int v2_4)] → W p l e (headSpec wsX3_proved ({ frames := 6, cells := 0, slots := 0, locals := 147 })).room s m ([.ref (ad 0)] : List Value).toArray below meth c H locs 0 0 (MQ below (QWi 41 (eC ad) ad D T (CA 41 ad sz)) ([.ref (ad 0)] : List Value).toArray s 0 0 (CA 41 ad sz)) (F0 m 4 ls []) := by
    intro n
    induction n with
    | zero => intro _ _ _ _ _ hm; exact absurd hm (Nat.not_lt_zero _)
    | succ n ih4 =>
      intro res4 v1_4 v2_4 S_4 hI4 hm4 hG hex4 H locs w ls hl
      obtain ⟨hok, i4_1⟩ := id hI4
      have okf0 := hok.1
      have okf1 := hok.2.1
      have okf2 := hok.2.2.1
      have okf3 := hok.2.2.2.1
      have okf4 := hok.2.2.2.2.1
      have okf5 := hok.2.2.2.2.2
      rw [lp_X3_proved_4] at hG
      refine lv_iload_n hx hb dX3_proved_4 rfl (lv_at hl 2 rfl) ?_
      refine lv_aload_n hx hb dX3_proved_5 rfl (lv_at hl 0 rfl) ?_
      refine r_get (C := RX3) (T := TX3) (N := 14) S hK w (k := 0) (by decide) (eC_0 ad _) rfl hinX3 5 (by decide) (List.mem_of_getElem? (i := 1) rfl) rfl dX3_proved_6 ?_
      refine lv_icmp_ge (tgt := 41) hx hb dX3_proved_9 (by decide) (fun c9 => ?_) (fun c9 => ?_)
      · have t9 : (S_4 0 5).toInt ≤ v2_4.toInt := qt_le c9
        rw [if_pos c9] at hG
        exact hex4 v1_4 S_4 hok hG.symm _ _ w ls (lv_sub hl [0, 1] rfl)
      · have t9 : v2_4.toInt < (S_4 0 5).toInt := qt_nle c9
        rw [if_neg c9] at hG
        refine lv_aload_n hx hb dX3_proved_12 rfl (lv_at hl 0 rfl) ?_
        refine lv_aload_n hx hb dX3_proved_13 rfl (lv_at hl 0 rfl) ?_
        refine r_get (C := RX3) (T := TX3) (N := 14) S hK w (k := 0) (by decide) (eC_0 ad _) rfl hinX3 2 (by decide) (List.mem_of_getElem? (i := 2) rfl) rfl dX3_proved_14 ?_
        refine lv_iload_n hx hb dX3_proved_17 rfl (lv_at hl 2 rfl) ?_
        have g18 : vp_in v2_4 8 := vpi (by omega) (by omega)
        refine r_aald S hK w (k := 3) (by decide) (eC_3 ad _) (t0 := 3) rfl g18 dX3_proved_18 ?_
        refine lv_aload_n hx hb dX3_proved_19 rfl (lv_at hl 0 rfl) ?_
        refine r_get (C := RX3) (T := TX3) (N := 14) S hK w (k := 0) (by decide) (eC_0 ad _) rfl hinX3 6 (by decide) (List.mem_of_getElem? (i := 3) rfl) rfl dX3_proved_20 ?_
        refine callWi w (va_runV (As := [.ref (ad (33 + (ix v2_4))), .int (S_4 0 6)]) (rest := []) S (c_X3_isProved l ad D H.size S_4 (ix v2_4) (S_4 0 6) hok (vpl g18)) (cwV 2 S.2.2.2.2 gX3_proved_X3_isProved rfl rfl rfl ⟨rfl, hd_X3_isProved⟩ ⟨Nat.le_of_ble_eq_true rfl, Nat.le_of_ble_eq_true rfl⟩) (preV hK hN w (k := 0) (by decide) (eC_0 ad _) (q := (RX3, TX3, 14)) rfl) rfl rfl hl.1 rfl (lv_room (Nat.le_of_ble_eq_true rfl)) dX3_proved_23 ⟨Nat.zero_le _, Nat.zero_le _⟩) (fun H locs w => ?_)
        have hok : OkC ((f_X3_isProved S_4 (ix v2_4) (S_4 0 6)).2) := ok_X3_isProved hok
        have okf0 := hok.1
        have okf1 := hok.2.1
        have okf2 := hok.2.2.1
        have okf3 := hok.2.2.2.1
        have okf4 := hok.2.2.2.2.1
        have okf5 := hok.2.2.2.2.2
        refine lv_if_eq (tgt := 35) hx hb dX3_proved_26 (by decide) (fun c26 => ?_) (fun c26 => ?_)
        · have t26 : ((f_X3_isProved S_4 (ix v2_4) (S_4 0 6)).1).toInt = 0 := qt_eq c26
          rw [if_pos c26] at hG
          refine lv_iinc (v := (v2_4 + 1)) (lv' := [(2, .int (v2_4 + 1)), (0, .ref (ad 0)), (1, .int v1_4)]) hx hb dX3_proved_35 hl (k := 2) rfl rfl (by decide) rfl (fun ls hl => ?_)
          refine lv_goto (tgt := 4) hx hb dX3_proved_38 (by decide) ?_
          have b2_4 : (v2_4 + 1).toInt = v2_4.toInt + 1 := inc_toInt (by omega) (by omega)
          exact ih4 _ v1_4 (v2_4 + 1) ((f_X3_isProved S_4 (ix v2_4) (S_4 0 6)).2) ⟨hok, (by omega)⟩ (by omega) hG hex4 _ _ w ls (lv_sub hl [1, 2, 0] rfl)
        · have t26 : ((f_X3_isProved S_4 (ix v2_4) (S_4 0 6)).1).toInt ≠ 0 := qt_ne c26
          rw [if_neg c26] at hG
          refine lv_iload_n hx hb dX3_proved_29 rfl (lv_at hl 1 rfl) ?_
          refine lv_iconst (v := 1) hx hb dX3_proved_30 (by decide) ?_
          refine lv_iload_n hx hb dX3_proved_31 rfl (lv_at hl 2 rfl) ?_
          refine lv_ishl hx hb dX3_proved_32 ?_
          refine lv_ior hx hb dX3_proved_33 ?_
          refine lv_istore_n (lv' := [(1, .int (v1_4 ||| ((1 : Int32) <<< (v2_4 &&& 31)))), (0, .ref (ad 0)), (2, .int v2_4)]) hx hb dX3_proved_34 rfl hl (by decide) rfl (fun ls hl => ?_)
          refine lv_iinc (v := (v2_4 + 1)) (lv' := [(2, .int (v2_4 + 1)), (1, .int (v1_4 ||| ((1 : Int32) <<< (v2_4 &&& 31)))), (0, .ref (ad 0))]) hx hb dX3_proved_35 hl (k := 2) rfl rfl (by decide) rfl (fun ls hl => ?_)
          refine lv_goto (tgt := 4) hx hb dX3_proved_38 (by decide) ?_
          have b2_4 : (v2_4 + 1).toInt = v2_4.toInt + 1 := inc_toInt (by omega) (by omega)
          exact ih4 _ (v1_4 ||| ((1 : Int32) <<< (v2_4 &&& 31))) (v2_4 + 1) ((f_X3_isProved S_4 (ix v2_4) (S_4 0 6)).2) ⟨hok, (by omega)⟩ (by omega) hG hex4 _ _ w ls (lv_sub hl [2, 1, 0] rfl)
  refine L4 200 _ 0 0 σ ⟨hok, (by omega)⟩ (by omega) rfl (fun v1_4e S_4e hok hr4 H locs w ls hl => ?_) _ _ w ls (lv_sub hl [2, 1, 0] rfl)
  rw [hr4] at hG
  dsimp only at hG
  have okf0 := hok.1
  have okf1 := hok.2.1
  have okf2 := hok.2.2.1
  have okf3 := hok.2.2.2.1
  have okf4 := hok.2.2.2.2.1
  have okf5 := hok.2.2.2.2.2
  refine lv_iload_n hx hb dX3_proved_41 rfl (lv_at hl 1 rfl) ?_
  exact endWi S hr hlocks w hG dX3_proved_42
set_option maxHeartbeats 4000000 in
set_option maxRecDepth 100000 in
theorem c_X3_again (l : Launch) (ad : Nat → Nat) (D : va_G) (sz : Nat) (σ : St) (p1 : Int32) (hok : OkC σ) : Met l yX3_again wsX3_again ({ frames := 6, cells := 0, slots := 0, locals := 147 }) (PreW 41 (eC ad) ad D (tyC ad) σ sz ([.ref (ad 0), .int p1] : List Value)) (QWi 41 (eC ad) ad D (f_X3_again σ p1) (CA 41 ad sz)) 0 0 (CA 41 ad sz) := by
  generalize hG : f_X3_again σ p1 = T
  refine headW (cc := cX3_again) (maxL := 3) (ret := (some .int)) ([.ref (ad 0), .int p1] : List Value) (by decide) rfl (Nat.le_of_ble_eq_true rfl) ?_
  intro p e s m below meth c S hr hlocks hK hN hsz w ls hl
  have S : CallFix p m c cX3_again 3 s ([.ref (ad 0), .int p1] : List Value).toArray wsX3_again RX3 := S
  have hx := S.1
  have hb := S.2.1
  have z0 : (0 : Int32).toInt = 0 := by decide
  have z1 : (1 : Int32).toInt = 1 := by decide
  have hl : lv_has ls 3 [(0, .ref (ad 0)), (1, .int p1)] := hl
  have hinX3 : ∀ w ∈ wsX30, w ∈ wsX3_again := (fun _ h => List.mem_cons_of_mem _ (List.mem_append_left _ (List.mem_append_left _ (List.mem_append_right _ h))))
  have hinX0 : ∀ w ∈ wsX00, w ∈ wsX3_again := (fun _ h => List.mem_cons_of_mem _ (List.mem_append_left _ (List.mem_append_right _ h)))
  have hinX2 : ∀ w ∈ wsX20, w ∈ wsX3_again := (fun _ h => List.mem_cons_of_mem _ (List.mem_append_right _ h))
  have okf0 := hok.1
  have okf1 := hok.2.1
  have okf2 := hok.2.2.1
  have okf3 := hok.2.2.2.1
  have okf4 := hok.2.2.2.2.1
  have okf5 := hok.2.2.2.2.2
  rw [f_X3_again] at hG
  refine lv_aload_n hx hb dX3_again_0 rfl (lv_at hl 0 rfl) ?_
  refine lv_iload_n hx hb dX3_again_1 rfl (lv_at hl 1 rfl) ?_
  refine call0i (va_runV (As := [.int p1]) (rest := []) S (c_X3_isPaper l ad D s.heap.size σ p1) (cwV 1 S.2.2.2.2 gX3_again_X3_isPaper rfl rfl rfl ⟨rfl, hd_X3_isPaper⟩ ⟨Nat.le_of_ble_eq_true rfl, Nat.le_of_ble_eq_true rfl⟩) (preV hK hN w (k := 0) (by decide) (eC_0 ad _) (q := (RX3, TX3, 14)) rfl) rfl rfl hl.1 rfl (lv_room (Nat.le_of_ble_eq_true rfl)) dX3_again_2 ⟨Nat.zero_le _, Nat.zero_le _⟩) ?_
  refine lv_if_ne (tgt := 10) hx hb dX3_again_5 (by decide) (fun c5 => ?_) (fun c5 => ?_)
  · have t5 := bf_isPaper_n c5
    rw [if_neg c5] at hG
    refine lv_aload_n hx hb dX3_again_10 rfl (lv_at hl 0 rfl) ?_
    refine r_get (C := RX3) (T := TX3) (N := 14) S hK w (k := 0) (by decide) (eC_0 ad _) rfl hinX3 6 (by decide) (List.mem_of_getElem? (i := 1) rfl) rfl dX3_again_11 ?_
    refine lv_istore_n (lv' := [(2, .int (σ 0 6)), (0, .ref (ad 0)), (1, .int p1)]) hx hb dX3_again_14 rfl hl (by decide) rfl (fun ls hl => ?_)
    have L15 : ∀ (n : Nat) (res15 : (Int32 × St) ⊕ (St)), ∀ (v2_15 : Int32), ∀ (S_15 : St), ((OkC S_15) ∧ (0 ≤ v2_15.toInt ∧ v2_15.toInt ≤ 100)) → (100 - v2_15.toInt).toNat < n → (lp_X3_again_15 p1 n v2_15 S_15) = res15 → (∀ r : Int32 × St, res15 = Sum.inl r → r = T) → (∀ (S_15e : St), (OkC S_15e) → res15 = Sum.inr S_15e → ∀ (H : Heap) (locs : List Loc), CW 41 (eC ad) ad D (CA 41 ad sz) s.heap S_15e H locs → ∀ ls : Array Slot, lv_has ls 3 [(0, .ref (ad 0))] → W p l e (headSpec wsX3_again ({ frames := 6, cells := 0, slots := 0, locals := 147 })).room s m ([.ref (ad 0), .int p1] : List Value).toArray below meth c H locs 0 0 (MQ below (QWi 41 (eC ad) ad D T (CA 41 ad sz)) ([.ref (ad 0), .int p1] : List Value).toArray s 0 0 (CA 41 ad sz)) (F0 m 43 ls [])) → ∀ (H : Heap) (locs : List Loc), CW 41 (eC ad) ad D (CA 41 ad sz) s.heap S_15 H locs → ∀ ls : Array Slot, lv_has ls 3 [(0, .ref (ad 0)), (1, .int p1), (2, .int v2_15)] → W p l e (headSpec wsX3_again ({ frames := 6, cells := 0, slots := 0, locals := 147 })).room s m ([.ref (ad 0), .int p1] : List Value).toArray below meth c H locs 0 0 (MQ below (QWi 41 (eC ad) ad D T (CA 41 ad sz)) ([.ref (ad 0), .int p1] : List Value).toArray s 0 0 (CA 41 ad sz)) (F0 m 15 ls []) := by
      intro n
      induction n with
      | zero => intro _ _ _ _ hm; exact absurd hm (Nat.not_lt_zero _)
      | succ n ih15 =>
        intro res15 v2_15 S_15 hI15 hm15 hG hret15 hex15 H locs w ls hl
        obtain ⟨hok, i15_1⟩ := id hI15
        have okf0 := hok.1
        have okf1 := hok.2.1
        have okf2 := hok.2.2.1
        have okf3 := hok.2.2.2.1
        have okf4 := hok.2.2.2.2.1
        have okf5 := hok.2.2.2.2.2
        rw [lp_X3_again_15] at hG
        refine lv_iload_n hx hb dX3_again_15 rfl (lv_at hl 2 rfl) ?_
        refine lv_bipush (v := 99) hx hb dX3_again_16 (by decide) ?_
        refine lv_icmp_gt (tgt := 43) hx hb dX3_again_18 (by decide) (fun c18 => ?_) (fun c18 => ?_)
        · have t18 : 99 < v2_15.toInt := qt_lt c18
          rw [if_pos c18] at hG
          exact hex15 S_15 hok hG.symm _ _ w ls (lv_sub hl [0] rfl)
        · have t18 : v2_15.toInt ≤ 99 := qt_nlt c18
          rw [if_neg c18] at hG
          refine lv_aload_n hx hb dX3_again_21 rfl (lv_at hl 0 rfl) ?_
          refine lv_aload_n hx hb dX3_again_22 rfl (lv_at hl 0 rfl) ?_
          refine r_get (C := RX3) (T := TX3) (N := 14) S hK w (k := 0) (by decide) (eC_0 ad _) rfl hinX3 2 (by decide) (List.mem_of_getElem? (i := 2) rfl) rfl dX3_again_23 ?_
          refine lv_iload_n hx hb dX3_again_26 rfl (lv_at hl 1 rfl) ?_
          have g27 : vp_in p1 8 := vpi (by omega) (by omega)
          refine r_aald S hK w (k := 3) (by decide) (eC_3 ad _) (t0 := 3) rfl g27 dX3_again_27 ?_
          refine lv_iload_n hx hb dX3_again_28 rfl (lv_at hl 2 rfl) ?_
          refine callWi w (va_runV (As := [.ref (ad (33 + (ix p1))), .int v2_15]) (rest := []) S (c_X3_isProved l ad D H.size S_15 (ix p1) v2_15 hok (vpl g27)) (cwV 2 S.2.2.2.2 gX3_again_X3_isProved rfl rfl rfl ⟨rfl, hd_X3_isProved⟩ ⟨Nat.le_of_ble_eq_true rfl, Nat.le_of_ble_eq_true rfl⟩) (preV hK hN w (k := 0) (by decide) (eC_0 ad _) (q := (RX3, TX3, 14)) rfl) rfl rfl hl.1 rfl (lv_room (Nat.le_of_ble_eq_true rfl)) dX3_again_29 ⟨Nat.zero_le _, Nat.zero_le _⟩) (fun H locs w => ?_)
          have hok : OkC ((f_X3_isProved S_15 (ix p1) v2_15).2) := ok_X3_isProved hok
          have okf0 := hok.1
          have okf1 := hok.2.1
          have okf2 := hok.2.2.1
          have okf3 := hok.2.2.2.1
          have okf4 := hok.2.2.2.2.1
          have okf5 := hok.2.2.2.2.2
          refine lv_if_ne (tgt := 37) hx hb dX3_again_32 (by decide) (fun c32 => ?_) (fun c32 => ?_)
          · have t32 : ((f_X3_isProved S_15 (ix p1) v2_15).1).toInt ≠ 0 := qt_ne c32
            rw [if_neg c32] at hG
            refine lv_iinc (v := (v2_15 + 1)) (lv' := [(2, .int (v2_15 + 1)), (0, .ref (ad 0)), (1, .int p1)]) hx hb dX3_again_37 hl (k := 2) rfl rfl (by decide) rfl (fun ls hl => ?_)
            refine lv_goto (tgt := 15) hx hb dX3_again_40 (by decide) ?_
            have b2_15 : (v2_15 + 1).toInt = v2_15.toInt + 1 := inc_toInt (by omega) (by omega)
            exact ih15 _ (v2_15 + 1) ((f_X3_isProved S_15 (ix p1) v2_15).2) ⟨hok, (by omega)⟩ (by omega) hG hret15 hex15 _ _ w ls (lv_sub hl [1, 2, 0] rfl)
          · have t32 : ((f_X3_isProved S_15 (ix p1) v2_15).1).toInt = 0 := qt_eq c32
            rw [if_pos c32] at hG
            refine lv_iload_n hx hb dX3_again_35 rfl (lv_at hl 2 rfl) ?_
            exact endWi S hr hlocks w (hret15 _ hG.symm) dX3_again_36
    refine L15 200 _ (σ 0 6) σ ⟨hok, (by omega)⟩ (by omega) rfl (fun r hr15 => by rw [hr15] at hG; exact hG) (fun S_15e hok hr15 H locs w ls hl => ?_) _ _ w ls (lv_sub hl [1, 2, 0] rfl)
    rw [hr15] at hG
    dsimp only at hG
    have okf0 := hok.1
    have okf1 := hok.2.1
    have okf2 := hok.2.2.1
    have okf3 := hok.2.2.2.1
    have okf4 := hok.2.2.2.2.1
    have okf5 := hok.2.2.2.2.2
    refine lv_bipush (v := (-9)) hx hb dX3_again_43 (by decide) ?_
    exact endWi S hr hlocks w hG dX3_again_45
  · rw [if_pos c5] at hG
    refine lv_iconst (v := (-1)) hx hb dX3_again_8 (by decide) ?_
    exact endWi S hr hlocks w hG dX3_again_9
set_option maxHeartbeats 4000000 in
set_option maxRecDepth 100000 in
theorem c_X3_apartOf (l : Launch) (ad : Nat → Nat) (D : va_G) (sz : Nat) (σ : St) (p1 : Nat) (p2 : Nat) (hp1 : st9 p1) (hp2 : st9 p2) : Met l yX3_apartOf wsX3_apartOf ({ frames := 1, cells := 0, slots := 0, locals := 21 }) (PreW 41 (eC ad) ad D (tyC ad) σ sz ([.ref (ad p1), .ref (ad p2)] : List Value)) (Q0i (f_X3_apartOf σ p1 p2)) 0 0 N0 := by
  generalize hG : f_X3_apartOf σ p1 p2 = T
  refine headW (cc := cX3_apartOf) (maxL := 4) (ret := (some .int)) ([.ref (ad p1), .ref (ad p2)] : List Value) (by decide) rfl (Nat.le_of_ble_eq_true rfl) ?_
  intro p e s m below meth c S hr hlocks hK hN hsz w ls hl
  have S : CallFix p m c cX3_apartOf 4 s ([.ref (ad p1), .ref (ad p2)] : List Value).toArray wsX3_apartOf RX3 := S
  have hx := S.1
  have hb := S.2.1
  have z0 : (0 : Int32).toInt = 0 := by decide
  have z1 : (1 : Int32).toInt = 1 := by decide
  have hl : lv_has ls 4 [(0, .ref (ad p1)), (1, .ref (ad p2))] := hl
  rw [f_X3_apartOf] at hG
  refine lv_iconst (v := 0) hx hb dX3_apartOf_0 (by decide) ?_
  refine lv_istore_n (lv' := [(2, .int 0), (0, .ref (ad p1)), (1, .ref (ad p2))]) hx hb dX3_apartOf_1 rfl hl (by decide) rfl (fun ls hl => ?_)
  refine lv_iconst (v := 0) hx hb dX3_apartOf_2 (by decide) ?_
  refine lv_istore_n (lv' := [(3, .int 0), (2, .int 0), (0, .ref (ad p1)), (1, .ref (ad p2))]) hx hb dX3_apartOf_3 rfl hl (by decide) rfl (fun ls hl => ?_)
  have L4 : ∀ (n : Nat) (res4 : Int32), ∀ (v2_4 : Int32), ∀ (v3_4 : Int32), ((0 ≤ v3_4.toInt ∧ v3_4.toInt ≤ 9)) → (9 - v3_4.toInt).toNat < n → (lp_X3_apartOf_4 σ p1 p2 n v2_4 v3_4) = res4 → (∀ (v2_4e : Int32), res4 = v2_4e → ∀ ls : Array Slot, lv_has ls 4 [(2, .int v2_4e)] → W p l e (headSpec wsX3_apartOf ({ frames := 1, cells := 0, slots := 0, locals := 21 })).room s m ([.ref (ad p1), .ref (ad p2)] : List Value).toArray below meth c s.heap [] 0 0 (MQ below (Q0i T) ([.ref (ad p1), .ref (ad p2)] : List Value).toArray s 0 0 N0) (F0 m 29 ls [])) → ∀ ls : Array Slot, lv_has ls 4 [(0, .ref (ad p1)), (1, .ref (ad p2)), (2, .int v2_4), (3, .int v3_4)] → W p l e (headSpec wsX3_apartOf ({ frames := 1, cells := 0, slots := 0, locals := 21 })).room s m ([.ref (ad p1), .ref (ad p2)] : List Value).toArray below meth c s.heap [] 0 0 (MQ below (Q0i T) ([.ref (ad p1), .ref (ad p2)] : List Value).toArray s 0 0 N0) (F0 m 4 ls []) := by
    intro n
    induction n with
    | zero => intro _ _ _ _ hm; exact absurd hm (Nat.not_lt_zero _)
    | succ n ih4 =>
      intro res4 v2_4 v3_4 hI4 hm4 hG hex4 ls hl
      have i4_0 := hI4
      rw [lp_X3_apartOf_4] at hG
      refine lv_iload_n hx hb dX3_apartOf_4 rfl (lv_at hl 3 rfl) ?_
      refine lv_bipush (v := 9) hx hb dX3_apartOf_5 (by decide) ?_
      refine lv_icmp_ge (tgt := 29) hx hb dX3_apartOf_7 (by decide) (fun c7 => ?_) (fun c7 => ?_)
      · have t7 : 9 ≤ v3_4.toInt := qt_le c7
        rw [if_pos c7] at hG
        exact hex4 v2_4 hG.symm ls (lv_sub hl [2] rfl)
      · have t7 : v3_4.toInt < 9 := qt_nle c7
        rw [if_neg c7] at hG
        refine lv_iload_n hx hb dX3_apartOf_10 rfl (lv_at hl 2 rfl) ?_
        refine lv_aload_n hx hb dX3_apartOf_11 rfl (lv_at hl 0 rfl) ?_
        refine lv_iload_n hx hb dX3_apartOf_12 rfl (lv_at hl 3 rfl) ?_
        have g13 : vp_in v3_4 9 := vpi (by omega) (by omega)
        refine r_iald (cA := ad 100) (N := 9) S hK w (k := p1) (st9_lt hp1) (fun f => eC_9 ad hp1 f) rfl g13 dX3_apartOf_13 ?_
        refine lv_aload_n hx hb dX3_apartOf_14 rfl (lv_at hl 1 rfl) ?_
        refine lv_iload_n hx hb dX3_apartOf_15 rfl (lv_at hl 3 rfl) ?_
        have g16 : vp_in v3_4 9 := vpi (by omega) (by omega)
        refine r_iald (cA := ad 100) (N := 9) S hK w (k := p2) (st9_lt hp2) (fun f => eC_9 ad hp2 f) rfl g16 dX3_apartOf_16 ?_
        refine lv_isub hx hb dX3_apartOf_17 ?_
        refine r_abs S hl.1 (List.mem_of_getElem? (i := 1) rfl) (List.mem_of_getElem? (i := 2) rfl) (List.mem_of_getElem? (i := 3) rfl) (List.mem_of_getElem? (i := 4) rfl) ⟨Nat.le_of_ble_eq_true rfl, Nat.le_of_ble_eq_true rfl, Nat.zero_le _, Nat.zero_le _⟩ dX3_apartOf_18 ?_
        refine lv_iadd hx hb dX3_apartOf_21 ?_
        refine lv_istore_n (lv' := [(2, .int (v2_4 + (jabs ((σ p1 (ix v3_4)) - (σ p2 (ix v3_4)))))), (0, .ref (ad p1)), (1, .ref (ad p2)), (3, .int v3_4)]) hx hb dX3_apartOf_22 rfl hl (by decide) rfl (fun ls hl => ?_)
        refine lv_iinc (v := (v3_4 + 1)) (lv' := [(3, .int (v3_4 + 1)), (2, .int (v2_4 + (jabs ((σ p1 (ix v3_4)) - (σ p2 (ix v3_4)))))), (0, .ref (ad p1)), (1, .ref (ad p2))]) hx hb dX3_apartOf_23 hl (k := 3) rfl rfl (by decide) rfl (fun ls hl => ?_)
        refine lv_goto (tgt := 4) hx hb dX3_apartOf_26 (by decide) ?_
        have b3_4 : (v3_4 + 1).toInt = v3_4.toInt + 1 := inc_toInt (by omega) (by omega)
        exact ih4 _ (v2_4 + (jabs ((σ p1 (ix v3_4)) - (σ p2 (ix v3_4))))) (v3_4 + 1) (by omega) (by omega) hG hex4 ls (lv_sub hl [2, 3, 1, 0] rfl)
  refine L4 200 _ 0 0 (by omega) (by omega) rfl (fun v2_4e hr4 ls hl => ?_) ls (lv_sub hl [2, 3, 1, 0] rfl)
  rw [hr4] at hG
  refine lv_iload_n hx hb dX3_apartOf_29 rfl (lv_at hl 0 rfl) ?_
  exact end0i S hr hlocks hG dX3_apartOf_30
set_option maxHeartbeats 4000000 in
set_option maxRecDepth 100000 in
theorem c_X3_apart (l : Launch) (ad : Nat → Nat) (D : va_G) (sz : Nat) (σ : St) (p1 : Int32) (p2 : Int32) (hok : OkC σ) : Met l yX3_apart wsX3_apart ({ frames := 2, cells := 0, slots := 0, locals := 44 }) (PreW 41 (eC ad) ad D (tyC ad) σ sz ([.ref (ad 0), .int p1, .int p2] : List Value)) (Q0i (f_X3_apart σ p1 p2)) 0 0 N0 := by
  generalize hG : f_X3_apart σ p1 p2 = T
  refine headW (cc := cX3_apart) (maxL := 3) (ret := (some .int)) ([.ref (ad 0), .int p1, .int p2] : List Value) (by decide) rfl (Nat.le_of_ble_eq_true rfl) ?_
  intro p e s m below meth c S hr hlocks hK hN hsz w ls hl
  have S : CallFix p m c cX3_apart 3 s ([.ref (ad 0), .int p1, .int p2] : List Value).toArray wsX3_apart RX3 := S
  have hx := S.1
  have hb := S.2.1
  have z0 : (0 : Int32).toInt = 0 := by decide
  have z1 : (1 : Int32).toInt = 1 := by decide
  have hl : lv_has ls 3 [(0, .ref (ad 0)), (1, .int p1), (2, .int p2)] := hl
  have hinX3 : ∀ w ∈ wsX30, w ∈ wsX3_apart := (fun _ h => List.mem_cons_of_mem _ (List.mem_append_left _ (List.mem_append_right _ h)))
  have hinX2 : ∀ w ∈ wsX20, w ∈ wsX3_apart := (fun _ h => List.mem_cons_of_mem _ (List.mem_append_right _ h))
  have okf0 := hok.1
  have okf1 := hok.2.1
  have okf2 := hok.2.2.1
  have okf3 := hok.2.2.2.1
  have okf4 := hok.2.2.2.2.1
  have okf5 := hok.2.2.2.2.2
  rw [f_X3_apart] at hG
  refine lv_aload_n hx hb dX3_apart_0 rfl (lv_at hl 0 rfl) ?_
  refine lv_iload_n hx hb dX3_apart_1 rfl (lv_at hl 1 rfl) ?_
  refine call0i (va_runV (As := [.int p1]) (rest := []) S (c_X3_isSign l ad D s.heap.size σ p1) (cwV 1 S.2.2.2.2 gX3_apart_X3_isSign rfl rfl rfl ⟨rfl, hd_X3_isSign⟩ ⟨Nat.le_of_ble_eq_true rfl, Nat.le_of_ble_eq_true rfl⟩) (preV hK hN w (k := 0) (by decide) (eC_0 ad _) (q := (RX3, TX3, 14)) rfl) rfl rfl hl.1 rfl (lv_room (Nat.le_of_ble_eq_true rfl)) dX3_apart_2 ⟨Nat.zero_le _, Nat.zero_le _⟩) ?_
  refine lv_if_eq (tgt := 16) hx hb dX3_apart_5 (by decide) (fun c5 => ?_) (fun c5 => ?_)
  · rw [if_pos c5] at hG
    refine lv_iconst (v := (-1)) hx hb dX3_apart_16 (by decide) ?_
    exact end0i S hr hlocks hG dX3_apart_17
  · have t5 := bf_isSign_n c5
    rw [if_neg c5] at hG
    refine lv_aload_n hx hb dX3_apart_8 rfl (lv_at hl 0 rfl) ?_
    refine lv_iload_n hx hb dX3_apart_9 rfl (lv_at hl 2 rfl) ?_
    refine call0i (va_runV (As := [.int p2]) (rest := []) S (c_X3_isSign l ad D s.heap.size σ p2) (cwV 1 S.2.2.2.2 gX3_apart_X3_isSign rfl rfl rfl ⟨rfl, hd_X3_isSign⟩ ⟨Nat.le_of_ble_eq_true rfl, Nat.le_of_ble_eq_true rfl⟩) (preV hK hN w (k := 0) (by decide) (eC_0 ad _) (q := (RX3, TX3, 14)) rfl) rfl rfl hl.1 rfl (lv_room (Nat.le_of_ble_eq_true rfl)) dX3_apart_10 ⟨Nat.zero_le _, Nat.zero_le _⟩) ?_
    refine lv_if_ne (tgt := 18) hx hb dX3_apart_13 (by decide) (fun c13 => ?_) (fun c13 => ?_)
    · have t13 := bf_isSign_n c13
      rw [if_neg c13] at hG
      refine lv_aload_n hx hb dX3_apart_18 rfl (lv_at hl 0 rfl) ?_
      refine r_get (C := RX3) (T := TX3) (N := 14) S hK w (k := 0) (by decide) (eC_0 ad _) rfl hinX3 1 (by decide) (List.mem_of_getElem? (i := 1) rfl) rfl dX3_apart_19 ?_
      refine lv_iload_n hx hb dX3_apart_22 rfl (lv_at hl 1 rfl) ?_
      have g23 : vp_in p1 8 := vpi (by omega) (by omega)
      refine r_aald S hK w (k := 2) (by decide) (eC_2 ad _) (t0 := 2) rfl g23 dX3_apart_23 ?_
      refine r_getN (C := RX2) (T := TX2) (N := 3) S hK hN w (k := (17 + (ix p1))) (Nat.lt_of_lt_of_le (Nat.add_lt_add_left (vpl g23) 17) (by decide)) (eC_sg ad (vpl g23) _) rfl hinX2 2 (by decide) 5 rfl rfl dX3_apart_24 ?_
      refine lv_aload_n hx hb dX3_apart_27 rfl (lv_at hl 0 rfl) ?_
      refine r_get (C := RX3) (T := TX3) (N := 14) S hK w (k := 0) (by decide) (eC_0 ad _) rfl hinX3 1 (by decide) (List.mem_of_getElem? (i := 1) rfl) rfl dX3_apart_28 ?_
      refine lv_iload_n hx hb dX3_apart_31 rfl (lv_at hl 2 rfl) ?_
      have g32 : vp_in p2 8 := vpi (by omega) (by omega)
      refine r_aald S hK w (k := 2) (by decide) (eC_2 ad _) (t0 := 2) rfl g32 dX3_apart_32 ?_
      refine r_getN (C := RX2) (T := TX2) (N := 3) S hK hN w (k := (17 + (ix p2))) (Nat.lt_of_lt_of_le (Nat.add_lt_add_left (vpl g32) 17) (by decide)) (eC_sg ad (vpl g32) _) rfl hinX2 2 (by decide) 5 rfl rfl dX3_apart_33 ?_
      refine call0i (va_runS (As := [.ref (ad (25 + (ix p1))), .ref (ad (25 + (ix p2)))]) (rest := []) S (c_X3_apartOf l ad D s.heap.size σ (25 + (ix p1)) (25 + (ix p2)) (Or.inr ⟨_, (vpl g23), rfl⟩) (Or.inr ⟨_, (vpl g32), rfl⟩)) (va_cwS 2 S.2.2.2.2 gX3_apart_X3_apartOf rfl rfl rfl hd_X3_apartOf ⟨Nat.le_of_ble_eq_true rfl, Nat.le_of_ble_eq_true rfl⟩) (preS hK hN w) rfl rfl hl.1 rfl (lv_room (Nat.le_of_ble_eq_true rfl)) dX3_apart_36 ⟨Nat.zero_le _, Nat.zero_le _⟩) ?_
      exact end0i S hr hlocks hG dX3_apart_39
    · rw [if_pos c13] at hG
      refine lv_iconst (v := (-1)) hx hb dX3_apart_16 (by decide) ?_
      exact end0i S hr hlocks hG dX3_apart_17
set_option maxHeartbeats 4000000 in
set_option maxRecDepth 100000 in
theorem c_X3_areAlike (l : Launch) (ad : Nat → Nat) (D : va_G) (sz : Nat) (σ : St) (p1 : Nat) (p2 : Nat) (hp1 : st9 p1) (hp2 : st9 p2) : Met l yX3_areAlike wsX3_areAlike ({ frames := 2, cells := 0, slots := 0, locals := 44 }) (PreW 41 (eC ad) ad D (tyC ad) σ sz ([.ref (ad 0), .ref (ad p1), .ref (ad p2)] : List Value)) (Q0i (f_X3_areAlike σ p1 p2)) 0 0 N0 := by
  generalize hG : f_X3_areAlike σ p1 p2 = T
  refine headW (cc := cX3_areAlike) (maxL := 3) (ret := (some .boolean)) ([.ref (ad 0), .ref (ad p1), .ref (ad p2)] : List Value) (by decide) rfl (Nat.le_of_ble_eq_true rfl) ?_
  intro p e s m below meth c S hr hlocks hK hN hsz w ls hl
  have S : CallFix p m c cX3_areAlike 3 s ([.ref (ad 0), .ref (ad p1), .ref (ad p2)] : List Value).toArray wsX3_areAlike RX3 := S
  have hx := S.1
  have hb := S.2.1
  have z0 : (0 : Int32).toInt = 0 := by decide
  have z1 : (1 : Int32).toInt = 1 := by decide
  have hl : lv_has ls 3 [(0, .ref (ad 0)), (1, .ref (ad p1)), (2, .ref (ad p2))] := hl
  have hinX3 : ∀ w ∈ wsX30, w ∈ wsX3_areAlike := (fun _ h => List.mem_cons_of_mem _ (List.mem_append_right _ h))
  rw [f_X3_areAlike] at hG
  refine lv_bipush (v := 8) hx hb dX3_areAlike_0 (by decide) ?_
  refine lv_aload_n hx hb dX3_areAlike_2 rfl (lv_at hl 1 rfl) ?_
  refine lv_aload_n hx hb dX3_areAlike_3 rfl (lv_at hl 2 rfl) ?_
  refine call0i (va_runS (As := [.ref (ad p1), .ref (ad p2)]) (rest := [.int 8]) S (c_X3_apartOf l ad D s.heap.size σ p1 p2 hp1 hp2) (va_cwS 2 S.2.2.2.2 gX3_areAlike_X3_apartOf rfl rfl rfl hd_X3_apartOf ⟨Nat.le_of_ble_eq_true rfl, Nat.le_of_ble_eq_true rfl⟩) (preS hK hN w) rfl rfl hl.1 rfl (lv_room (Nat.le_of_ble_eq_true rfl)) dX3_areAlike_4 ⟨Nat.zero_le _, Nat.zero_le _⟩) ?_
  refine lv_imul hx hb dX3_areAlike_7 ?_
  refine lv_aload_n hx hb dX3_areAlike_8 rfl (lv_at hl 0 rfl) ?_
  refine r_get (C := RX3) (T := TX3) (N := 14) S hK w (k := 0) (by decide) (eC_0 ad _) rfl hinX3 7 (by decide) (List.mem_of_getElem? (i := 1) rfl) rfl dX3_areAlike_9 ?_
  refine lv_icmp_gt (tgt := 19) hx hb dX3_areAlike_12 (by decide) (fun c12 => ?_) (fun c12 => ?_)
  · have t12 : (σ 0 7).toInt < (8 * (f_X3_apartOf σ p1 p2)).toInt := qt_lt c12
    rw [if_pos c12] at hG
    refine lv_iconst (v := 0) hx hb dX3_areAlike_19 (by decide) ?_
    exact end0z S hr hlocks (Or.inl rfl) hG dX3_areAlike_20
  · have t12 : (8 * (f_X3_apartOf σ p1 p2)).toInt ≤ (σ 0 7).toInt := qt_nlt c12
    rw [if_neg c12] at hG
    refine lv_iconst (v := 1) hx hb dX3_areAlike_15 (by decide) ?_
    refine lv_goto (tgt := 20) hx hb dX3_areAlike_16 (by decide) ?_
    exact end0z S hr hlocks (Or.inr rfl) hG dX3_areAlike_20
