/-! the law's walk: its start -/
section LAW3
variable {p : Program} {l : Launch} {e : Env} {R : Room} {s : State} {m : MethodId} {args : Array Value} {below : List Frame} {meth : Method} {c : Code} {H : Heap} {locs : List Loc} {cells slots : Nat} {Q : State → Prop}
variable {pc : Nat} {ls : Array Slot} {rest st0 : List Value} {a : Array Value}
variable {adC adL : Nat → Nat} {D : va_G} {σ τ : St} {b L : Nat} {xs : Nat → Int32}
theorem bCB (wC : CW 41 (eC adC) adC D (fun q : Nat => s.heap.size ≤ q) s.heap σ H locs) (wL : CW 3 (eL adL) adL D (fun q : Nat => s.heap.size ≤ q) s.heap τ H locs) (hbl : b < s.heap.size) : ¬ CB2 adC adL H.size b := by
  rintro (⟨c, hc, h⟩ | ⟨c, hc, h⟩ | h)
  · have q : s.heap.size ≤ adC c := wC.2.1.2 c (adC c, eC adC c (σ c)) (Wd_get hc)
    omega
  · have q : s.heap.size ≤ adL c := wL.2.1.2 c (adL c, eL adL c (τ c)) (Wd_get hc)
    omega
  · have q : s.heap.size ≤ H.size := wC.2.2.1.1
    omega
theorem preY (hX : va_X b L xs s s.heap) (hbl : b < s.heap.size) (hbA : ¬ (fun q : Nat => s.heap.size ≤ q) b) (hKC : va_K D vwCl (tyC adC) s) (hN : NW s) (wC : CW 41 (eC adC) adC D (fun q : Nat => s.heap.size ≤ q) s.heap σ H locs) (wL : CW 3 (eL adL) adL D (fun q : Nat => s.heap.size ≤ q) s.heap τ H locs) {As : List Value} : PreS s H (PreY adC adL D b L xs σ τ H.size As) As :=
  ⟨PreY.blind, fun U hU hW => ⟨rfl, by rw [hU], ⟨by rw [hU]; exact wC.1, by rw [hU]; exact wL.1⟩, va_K.moved hW.alike hKC, ⟨wC.2.1.weaken (fun _ _ _ _ => trivial), wL.2.1.weaken (fun _ _ _ _ => trivial)⟩, hN.warm hW, by rw [hU]; exact va_X.moved hW.alike (va_X.kept hX (wC.2.2.1.2.1 b hbl hbA)), by rw [hU]; exact Nat.lt_of_lt_of_le hbl wC.2.2.1.1⟩⟩
theorem callLay (wC : CW 41 (eC adC) adC D (fun q : Nat => s.heap.size ≤ q) s.heap σ H locs) (wL : CW 3 (eL adL) adL D (fun q : Nat => s.heap.size ≤ q) s.heap τ H locs) (hdis : ∀ i, i < 41 → ∀ j, j < 3 → adC i ≠ adL j) (hr : va_Run p l e R s m args below meth c H locs cells slots 0 0 (F0 m pc ls st0) rest (QY adC adL D (CB2 adC adL H.size) a) (CB2 adC adL H.size))
    (kk : ∀ (v : Int32) (σ1 τ1 : St) (H1 : Heap) (locs1 : List Loc), LayR v (σ1, τ1) → CW 41 (eC adC) adC D (fun q : Nat => s.heap.size ≤ q) s.heap σ1 H1 locs1 → CW 3 (eL adL) adL D (fun q : Nat => s.heap.size ≤ q) s.heap τ1 H1 locs1 → W p l e R s m args below meth c H1 locs1 cells slots Q (F0 m (pc + 3) ls (.int v :: rest))) : W p l e R s m args below meth c H locs cells slots Q (F0 m pc ls st0) := by
  have hf : ∀ q, CB2 adC adL H.size q → s.heap.size ≤ q := by
    rintro q (⟨k, hk, rfl⟩ | ⟨k, hk, rfl⟩ | h)
    · exact wC.2.1.2 k _ (Wd_get hk)
    · exact wL.2.1.2 k _ (Wd_get hk)
    · exact Nat.le_trans wC.2.2.1.1 h
  refine va_calli hr wC.2.2.1 (fun q _ h => hf q h) hf (fun r u t H1 locs1 ht hvm hw hB hz hk1 hS => ?_)
  obtain ⟨σ1, τ1⟩ := u
  rw [ht] at hB
  exact kk r σ1 τ1 H1 locs1 hw ⟨hB.1, Wd_addr wC.2.1 (fun k hk => wC.2.1.2 k _ (Wd_get hk)), hS, wC.2.2.2⟩ ⟨hB.2, Wd_addr wL.2.1 (fun k hk => wL.2.1.2 k _ (Wd_get hk)), hS, wL.2.2.2⟩
end LAW3
set_option maxHeartbeats 8000000 in
set_option maxRecDepth 100000 in
theorem s_start {p : Program} {l : Launch} {e : Env} {s : State} {m : MethodId} {below : List Frame} {meth : Method} {c : Code} {D : va_G} {b L : Nat} {xs : Nat → Int32} {adC : Nat → Nat} (hC : LC p s m meth c D b L xs adC) {adL : Nat → Nat} {σ τ : St} {nc ns : Nat} (hnc : nc ≤ 1000) (hns : ns ≤ 10000) (ok : OkC σ)
    (next : ∀ (σ1 τ1 : St) (v5 : Int32), Rl σ1 τ1 → v5 = σ1 0 4 → σ1 8 0 = -1 → LG p l e s m below meth c D b adC adL 3 σ1 τ1 nc ns 74 [(0, .ref b), (1, .ref (adC 0)), (2, .ref (adL 0)), (3, .ref (adL 1)), (4, .ref (adL 2)), (5, .int v5), (6, .int 0)] []) : LG p l e s m below meth c D b adC adL 3 σ τ nc ns 24 [(0, .ref b), (1, .ref (adC 0)), (2, .ref (adL 0)), (3, .ref (adL 1)), (4, .ref (adL 2))] [] := by
  intro h100 hdis H locs wC wL ls hl
  obtain ⟨hL, C0, hKC⟩ := id hC
  obtain ⟨hx, hb, hr, hml, hown, hts, hX, hbl, hlocks, hgv⟩ := C0
  have hN : NW s := NW_of hts
  have S : CallFix p m c cL_law 30 s #[Value.ref b] wsL_law RL := ⟨hx, hb, hml, hown, fun w h => hts w (wsL_law_in w h)⟩
  have hbA : ¬ (fun q : Nat => s.heap.size ≤ q) b := Nat.not_le.mpr hbl
  have hKL := KL_of hKC h100
  have z0 : (0 : Int32).toInt = 0 := by decide
  have z1 : (1 : Int32).toInt = 1 := by decide
  refine lv_aload_n hx hb dL_law_24 rfl (lv_at hl 1 rfl) ?_
  refine lv_iconst (v := 0) hx hb dL_law_25 (by decide) ?_
  refine lv_iconst (v := 0) hx hb dL_law_26 (by decide) ?_
  refine lv_bipush (v := 90) hx hb dL_law_27 (by decide) ?_
  refine callWi2 wC wL hdis (va_runV (As := [.int 0, .int 0, .int 90]) (rest := []) S (c_X3_sheet l adC D H.size σ 0 0 90) (cwV 3 S.2.2.2.2 gL_law_X3_sheet rfl rfl rfl ⟨rfl, hd_X3_sheet⟩ ⟨Nat.le_of_ble_eq_true rfl, Nat.le_of_ble_eq_true rfl⟩) (preV hKC hN wC (k := 0) (by decide) (eC_0 adC _) (q := (RX3, TX3, 14)) rfl) rfl rfl hl.1 rfl (lv_room (Nat.le_of_ble_eq_true rfl)) dL_law_29 (rm_ok hnc hns)) (fun H locs wC wL => ?_)
  obtain ⟨σ_1, qs29, ok1, h01⟩ := q_sheet0 ok
  rw [pr1 qs29]
  rw [pr2 qs29] at wC
  refine lv_iconst (v := 1) hx hb dL_law_32 (by decide) ?_
  refine lv_icmp_ne (tgt := 64) hx hb dL_law_33 (by decide) (fun c33 => ?_) (fun c33 => ?_)
  · exact absurd rfl c33
  · refine lv_aload_n hx hb dL_law_36 rfl (lv_at hl 1 rfl) ?_
    refine lv_iconst (v := 1) hx hb dL_law_37 (by decide) ?_
    refine lv_iconst (v := 1) hx hb dL_law_38 (by decide) ?_
    refine lv_bipush (v := 24) hx hb dL_law_39 (by decide) ?_
    refine callWi2 wC wL hdis (va_runV (As := [.int 1, .int 1, .int 24]) (rest := []) S (c_X3_sheet l adC D H.size σ_1 1 1 24) (cwV 3 S.2.2.2.2 gL_law_X3_sheet rfl rfl rfl ⟨rfl, hd_X3_sheet⟩ ⟨Nat.le_of_ble_eq_true rfl, Nat.le_of_ble_eq_true rfl⟩) (preV hKC hN wC (k := 0) (by decide) (eC_0 adC _) (q := (RX3, TX3, 14)) rfl) rfl rfl hl.1 rfl (lv_room (Nat.le_of_ble_eq_true rfl)) dL_law_41 (rm_ok hnc hns)) (fun H locs wC wL => ?_)
    obtain ⟨σ_2, qs41, ok2, h02, h12⟩ := q_sheet1 ok1 h01
    rw [pr1 qs41]
    rw [pr2 qs41] at wC
    refine lv_iconst (v := 1) hx hb dL_law_44 (by decide) ?_
    refine lv_icmp_ne (tgt := 64) hx hb dL_law_45 (by decide) (fun c45 => ?_) (fun c45 => ?_)
    · exact absurd rfl c45
    · refine lv_aload_n hx hb dL_law_48 rfl (lv_at hl 1 rfl) ?_
      refine lv_aload_n hx hb dL_law_49 rfl (lv_at hl 2 rfl) ?_
      refine lv_aload_n hx hb dL_law_50 rfl (lv_at hl 3 rfl) ?_
      refine lv_aload hx hb dL_law_51 (lv_at hl 4 rfl) ?_
      refine lv_aload_n hx hb dL_law_53 rfl (lv_at hl 0 rfl) ?_
      refine lv_iconst (v := 0) hx hb dL_law_54 (by decide) ?_
      refine callLay wC wL hdis (va_runS (As := avY adC adL b) (rest := []) S (c_L_lay l adC adL D H.size b L xs σ_2 τ hL h100 hdis (bCB wC wL hbl) ok2 h02 h12) (va_cwS 6 S.2.2.2.2 gL_law_L_lay rfl rfl rfl hd_L_lay ⟨Nat.le_of_ble_eq_true rfl, Nat.le_of_ble_eq_true rfl⟩) (preY hX hbl hbA hKC hN wC wL) rfl rfl hl.1 rfl (lv_room (Nat.le_of_ble_eq_true rfl)) dL_law_55 (rm_ok hnc hns)) (fun v0 σ1 τ1 H locs hY wC wL => ?_)
      refine lv_aload_n hx hb dL_law_58 rfl (lv_at hl 2 rfl) ?_
      refine lv_iconst (v := 0) hx hb dL_law_59 (by decide) ?_
      have g60 : vp_in 0 16 := vpi (by decide) (by decide)
      refine r_iald (cA := adL 100) (N := 16) S hKL wL (k := 0) (by decide) (fun f => rfl) rfl g60 dL_law_60 ?_
      refine lv_icmp_eq (tgt := 66) hx hb dL_law_61 (by decide) (fun c61 => ?_) (fun c61 => ?_)
      · have t61 : v0.toInt = (τ1 0 (ix 0)).toInt := qt_eq c61
        refine lv_aload_n hx hb dL_law_66 rfl (lv_at hl 2 rfl) ?_
        refine lv_iconst (v := 0) hx hb dL_law_67 (by decide) ?_
        have g68 : vp_in 0 16 := vpi (by decide) (by decide)
        refine r_iald (cA := adL 100) (N := 16) S hKL wL (k := 0) (by decide) (fun f => rfl) rfl g68 dL_law_68 ?_
        refine lv_istore (lv' := [(5, .int (τ1 0 (ix 0))), (0, .ref b), (1, .ref (adC 0)), (2, .ref (adL 0)), (3, .ref (adL 1)), (4, .ref (adL 2))]) hx hb dL_law_69 hl (by decide) rfl (fun ls hl => ?_)
        refine lv_iconst (v := 0) hx hb dL_law_71 (by decide) ?_
        refine lv_istore (lv' := [(6, .int 0), (5, .int (τ1 0 (ix 0))), (0, .ref b), (1, .ref (adC 0)), (2, .ref (adL 0)), (3, .ref (adL 1)), (4, .ref (adL 2))]) hx hb dL_law_72 hl (by decide) rfl (fun ls hl => ?_)
        have etn : τ1 0 (ix 0) = σ1 0 4 := hY.2.1.tn
        rw [etn] at hl
        exact (next σ1 τ1 (σ1 0 4) hY.2.1 rfl hY.2.2) h100 hdis H locs wC wL ls (lv_sub hl [2, 3, 4, 5, 6, 1, 0] rfl)
      · exact absurd (hY.1.trans hY.2.1.tn.symm) c61
set_option maxHeartbeats 8000000 in
set_option maxRecDepth 100000 in
theorem whole_start {p : Program} {e : Env} {s : State} {m : MethodId} {below : List Frame} {meth : Method} {c : Code} (l : Launch) (hflags : l.flags = flags0) {b L : Nat} {xs : Nat → Int32} (hL : L ≤ 260) (C0 : lw_At p s m meth c b L xs) : W p l e room_1 s m #[Value.ref b] below meth c s.heap [] 0 0 (lw_Z below #[Value.ref b] s) (entryFrame m ([Value.ref b] : List Value).toArray 30) := by
  obtain ⟨hx, hb, hr, hml, hown, hts, hX, hbl, hlocks, hgv⟩ := id C0
  have hN : NW s := NW_of hts
  have S : CallFix p m c cL_law 30 s #[Value.ref b] wsL_law RL := ⟨hx, hb, hml, hown, fun w h => hts w (wsL_law_in w h)⟩
  have S2 : CallFix p m c cL_law 30 s #[Value.ref b] lw_tbl RL := ⟨hx, hb, hml, hown, hts⟩
  obtain ⟨k0, iS0, hKn0⟩ := u_known (C := RX0) (T := TX0) (N := 6) (n := 6) hts inX0 (hts (.instantiable RX0 6) (tb_t1 (List.mem_of_getElem? (i := 60) rfl)))
  obtain ⟨k1, iS1, hKn1⟩ := u_known (C := RX1) (T := TX1) (N := 4) (n := 4) hts inX1 (hts (.instantiable RX1 4) (tb_t1 (List.mem_of_getElem? (i := 22) rfl)))
  obtain ⟨k2, iS2, hKn2⟩ := u_known (C := RX2) (T := TX2) (N := 3) (n := 3) hts inX2 (hts (.instantiable RX2 3) (tb_t1 (List.mem_of_getElem? (i := 44) rfl)))
  obtain ⟨k3, iS3, hKn3⟩ := u_known (C := RX3) (T := TX3) (N := 14) (n := 14) hts inX3 (hts (.instantiable RX3 14) (tb_t1 (List.mem_of_getElem? (i := 9) rfl)))
  obtain ⟨D, hKc⟩ : ∃ (D : va_G), ∀ (k : Nat) (q : vw_C), vwCl[k]? = some q → u_Kn s q.1 q.2.1 q.2.2 (D.1 k) (D.2 k) := by
    refine ⟨(fun k => if k = 0 then k0 else if k = 1 then k1 else if k = 2 then k2 else k3, fun k => if k = 0 then iS0 else if k = 1 then iS1 else if k = 2 then iS2 else iS3), ?_⟩
    intro k q hq
    match k, hq with
    | 0, hq => cases hq; exact hKn0
    | 1, hq => cases hq; exact hKn1
    | 2, hq => cases hq; exact hKn2
    | 3, hq => cases hq; exact hKn3
    | k + 4, hq => simp [vwCl] at hq
  have hS : va_S (fun q : Nat => s.heap.size ≤ q) s.heap s.heap [] := va_S.rf
  have hK : va_K D vwCl [] s := ⟨hKc, fun k q h => by simp at h⟩
  have w0 : CG 0 (fun _ => 0) (fun _ => .inr (0, [])) D (fun q : Nat => s.heap.size ≤ q) s.heap s.heap [] := ⟨fun k q h => by simp [Wg] at h, ⟨fun i j p q h => by simp [Wg] at h, fun k q h => by simp [Wg] at h⟩, hS, fun q h => h⟩
  have hA3 : AO3 s := ⟨va_AO.use (A := #[]) (va_AO.of (hts _ (tb_t1 (List.mem_of_getElem? (i := 17) rfl)))), va_AO.use (A := #[]) (va_AO.of (hts _ (tb_t1 (List.mem_of_getElem? (i := 19) rfl)))), va_AO.use (A := #[]) (va_AO.of (hts _ (tb_t1 (List.mem_of_getElem? (i := 21) rfl))))⟩
  have hl := lv_entry ([.ref b]) (n := 30) (Nat.le_of_ble_eq_true rfl)
  rw [lg_entry_eq]
  generalize (lg_sl ([.ref b]) ++ List.replicate (30 - (lg_sl ([.ref b])).length) Slot.unset).toArray = ls at hl ⊢
  have hl : lv_has ls 30 [(0, .ref b)] := hl
  refine g_new (C := RX3) (T := TX3) (N := 14) (ci := 3) (fs := zNull) S hK w0 inlX3 tyX3 tyX3_ok (List.mem_of_getElem? (i := 0) rfl) (List.mem_of_getElem? (i := 1) rfl) (List.mem_of_getElem? (i := 2) rfl) rfl (fun j hj => by rcases (show j = 0 ∨ j = 1 ∨ j = 2 ∨ j = 3 ∨ j = 4 ∨ j = 5 ∨ j = 6 ∨ j = 7 ∨ j = 8 ∨ j = 9 ∨ j = 10 ∨ j = 11 ∨ j = 12 ∨ j = 13 by omega) with rfl | rfl | rfl | rfl | rfl | rfl | rfl | rfl | rfl | rfl | rfl | rfl | rfl | rfl <;> rfl) (Nat.le_of_ble_eq_true rfl) (Nat.le_of_ble_eq_true rfl) dL_law_0 (fun q0 H w1 => ?_)
  refine lv_dup hx hb dL_law_3 rfl ?_
  have hP1 : va_P D vwCl [(q0, .inr (3, zNull))] H := w1.1
  have hA1 : ∀ q, va_A [(q0, .inr (3, zNull))] H.size q → s.heap.size ≤ q := fun q h => w1.free (k := 0) (by decide) q h
  refine va_callv (va_runI (As := []) (rest := [.ref q0]) S (c_X3_init l D q0 H.size) (cwI 0 S.2.2.2.2 gL_law_X3_init rfl rfl rfl (S.2.2.2.2 _ (List.mem_of_getElem? (i := 2) rfl)) (S.2.2.2.2 _ (List.mem_of_getElem? (i := 5) rfl)) (S.2.2.2.2 _ (List.mem_of_getElem? (i := 6) rfl)) rfl hd_X3_init ⟨Nat.le_of_ble_eq_true rfl, Nat.le_of_ble_eq_true rfl⟩) ⟨PreC3.blind, fun U hU hW => ⟨rfl, by rw [hU], by rw [hU]; exact hP1, va_K.moved hW.alike hK, hN.warm hW, va_AO.moved hW.alike hA3.1, va_AO.moved hW.alike hA3.2.1, va_AO.moved hW.alike hA3.2.2⟩⟩ rfl rfl hl.1 rfl (lv_room (Nat.le_of_ble_eq_true rfl)) dL_law_4 ⟨Nat.le_of_ble_eq_true rfl, Nat.le_of_ble_eq_true rfl⟩) w1.2.2.1 (fun q _ h => hA1 q h) hA1 (fun adC t H1 locs1 ht hvm had hB hz hk1 hS1 => ?_)
  obtain ⟨hPC, hKC, hDC⟩ := hB
  rw [ht] at hPC
  have hKC := va_K.moved hvm.symm hKC
  have wC : CW 41 (eC adC) adC D (fun q : Nat => s.heap.size ≤ q) s.heap σC0 H1 locs1 := ⟨hPC, hDC.weaken (fun k q _ h => hA1 q.1 h), hS1, fun q h => h⟩
  refine lv_astore_n (lv' := [(1, .ref q0), (0, .ref b)]) hx hb dL_law_7 rfl hl (by decide) rfl (fun ls hl => ?_)
  rw [← had] at hl
  have wL : CW 0 (eL (fun _ => adC 100)) (fun _ => adC 100) D (fun q : Nat => s.heap.size ≤ q) s.heap σC0 H1 locs1 := ⟨fun k q h => by simp [Wd] at h, ⟨fun i j p q h => by simp [Wd] at h, fun k q h => by simp [Wd] at h⟩, hS1, fun q h => h⟩
  refine lv_bipush (v := 16) hx hb dL_law_8 (by decide) ?_
  refine newa2 S2 (KL_of (adL := fun _ => adC 100) hKC rfl) wC wL (fun i hi j hj => absurd hj (Nat.not_lt_zero _)) (by decide) (t := 0) rfl (tb_t1 (List.mem_of_getElem? (i := 43) rfl)) (N := 16) (by decide) rfl rfl (by decide) (Nat.le_of_ble_eq_true rfl) (Nat.le_of_ble_eq_true rfl) dL_law_10 (fun ad1 H hA1' wC wL hd1 => ?_)
  have e1 : ad1 100 = adC 100 := hA1' 100 (by decide)
  refine lv_astore_n (lv' := [(2, .ref (ad1 0)), (1, .ref (adC 0)), (0, .ref b)]) hx hb dL_law_12 rfl hl (by decide) rfl (fun ls hl => ?_)
  refine lv_bipush (v := 60) hx hb dL_law_13 (by decide) ?_
  refine newa2 S2 (KL_of hKC e1) wC wL hd1 (by decide) (t := 0) rfl (tb_t1 (List.mem_of_getElem? (i := 43) rfl)) (N := 60) (by decide) rfl rfl (by decide) (Nat.le_of_ble_eq_true rfl) (Nat.le_of_ble_eq_true rfl) dL_law_15 (fun ad2 H hA2 wC wL hd2 => ?_)
  have e2 : ad2 100 = adC 100 := (hA2 100 (by decide)).trans e1
  rw [← hA2 0 (by decide)] at hl
  refine lv_astore_n (lv' := [(3, .ref (ad2 1)), (2, .ref (ad2 0)), (1, .ref (adC 0)), (0, .ref b)]) hx hb dL_law_17 rfl hl (by decide) rfl (fun ls hl => ?_)
  refine lv_bipush (v := 20) hx hb dL_law_18 (by decide) ?_
  refine newa2 S2 (KL_of hKC e2) wC wL hd2 (by decide) (t := 0) rfl (tb_t1 (List.mem_of_getElem? (i := 43) rfl)) (N := 20) (by decide) rfl rfl (by decide) (Nat.le_of_ble_eq_true rfl) (Nat.le_of_ble_eq_true rfl) dL_law_20 (fun ad3 H hA4 wC wL hd3 => ?_)
  have e3 : ad3 100 = adC 100 := (hA4 100 (by decide)).trans e2
  rw [← hA4 0 (by decide), ← hA4 1 (by decide)] at hl
  refine lv_astore (lv' := [(4, .ref (ad3 2)), (3, .ref (ad3 1)), (2, .ref (ad3 0)), (1, .ref (adC 0)), (0, .ref b)]) hx hb dL_law_22 hl (by decide) rfl (fun ls hl => ?_)
  refine W.widen (k := 100) (n := 2000) (Nat.le_of_ble_eq_true rfl) (Nat.le_of_ble_eq_true rfl) ?_
  have hC : LC p s m meth c D b L xs adC := ⟨hL, C0, hKC⟩
  exact s_start hC (by decide) (by decide) ok_C0 (fun σ1 τ1 v5 hR h5 h8 => l_74 hC 100 0 ad3 σ1 τ1 100 2000 hR h5 (fun _ => h8) (by decide) (by decide) (by decide) (by decide) (by decide)) e3 hd3 _ _ wC wL ls (lv_sub hl [4, 3, 2, 1, 0] rfl)
