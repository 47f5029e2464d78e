set_option maxHeartbeats 8000000 in
set_option maxRecDepth 100000 in
theorem whole_start {p : Program} {e : Env} {s : State} {m : MethodId} {below : List Frame} {meth : Method} {c : Code} (l : Launch) (hflags : l.flags = flags0) {b L : Nat} {xs : Nat → Int32} (hL : L ≤ 3584) (C0 : lw_At p s m meth c b L xs) : W p l e room_1 s m #[Value.ref b] below meth c s.heap [] 0 0 (lw_Z below #[Value.ref b] s) (entryFrame m ([Value.ref b] : List Value).toArray 4) := by
  obtain ⟨hx, hb, hr, hml, hown, hts, hX, hbl, hlocks, hgv⟩ := id C0
  have hN : NW s := NW_of hts
  have S : CallFix p m c cL_law 4 s #[Value.ref b] wsL_law RL := ⟨hx, hb, hml, hown, fun w h => hts w (wsL_law_in w h)⟩
  obtain ⟨k0, iS0, hKn0⟩ := u_known (C := RX0) (T := TX0) (N := 6) (n := 6) hts inX0 (hts (.instantiable RX0 6) (tb_t1 (List.mem_of_getElem? (i := 62) rfl)))
  obtain ⟨k1, iS1, hKn1⟩ := u_known (C := RX1) (T := TX1) (N := 4) (n := 4) hts inX1 (hts (.instantiable RX1 4) (tb_t1 (List.mem_of_getElem? (i := 24) rfl)))
  obtain ⟨k2, iS2, hKn2⟩ := u_known (C := RX2) (T := TX2) (N := 3) (n := 3) hts inX2 (hts (.instantiable RX2 3) (tb_t1 (List.mem_of_getElem? (i := 46) rfl)))
  obtain ⟨k3, iS3, hKn3⟩ := u_known (C := RX3) (T := TX3) (N := 14) (n := 14) hts inX3 (hts (.instantiable RX3 14) (tb_t1 (List.mem_of_getElem? (i := 11) rfl)))
  obtain ⟨k4, iS4, hKn4⟩ := u_known (C := RX4) (T := TX4) (N := 25) (n := 25) hts inX4 (hts (.instantiable RX4 25) (tb_t2 (List.mem_of_getElem? (i := 203) rfl)))
  obtain ⟨D, hKc⟩ : ∃ (D : va_G), ∀ (k : Nat) (q : vw_C), vwCl[k]? = some q → u_Kn s q.1 q.2.1 q.2.2 (D.1 k) (D.2 k) := by
    refine ⟨(fun k => if k = 0 then k0 else if k = 1 then k1 else if k = 2 then k2 else if k = 3 then k3 else k4, fun k => if k = 0 then iS0 else if k = 1 then iS1 else if k = 2 then iS2 else if k = 3 then iS3 else iS4), ?_⟩
    intro k q hq
    match k, hq with
    | 0, hq => cases hq; exact hKn0
    | 1, hq => cases hq; exact hKn1
    | 2, hq => cases hq; exact hKn2
    | 3, hq => cases hq; exact hKn3
    | 4, hq => cases hq; exact hKn4
    | k + 5, hq => simp [vwCl] at hq
  have hS : va_S (fun q : Nat => s.heap.size ≤ q) s.heap s.heap [] := va_S.rf
  have hK : va_K D vwCl [] s := ⟨hKc, fun k q h => by simp at h⟩
  have w0 : CG 0 (fun _ => 0) (fun _ => .inr (0, [])) D (fun q : Nat => s.heap.size ≤ q) s.heap s.heap [] := ⟨fun k q h => by simp [Wg] at h, ⟨fun i j p q h => by simp [Wg] at h, fun k q h => by simp [Wg] at h⟩, hS, fun q h => h⟩
  have hA3 : AO3 s := ⟨va_AO.use (A := #[]) (va_AO.of (hts _ (tb_t1 (List.mem_of_getElem? (i := 19) rfl)))), va_AO.use (A := #[]) (va_AO.of (hts _ (tb_t1 (List.mem_of_getElem? (i := 21) rfl)))), va_AO.use (A := #[]) (va_AO.of (hts _ (tb_t1 (List.mem_of_getElem? (i := 23) rfl))))⟩
  have hl := lv_entry ([.ref b]) (n := 4) (Nat.le_of_ble_eq_true rfl)
  rw [lg_entry_eq]
  generalize (lg_sl ([.ref b]) ++ List.replicate (4 - (lg_sl ([.ref b])).length) Slot.unset).toArray = ls at hl ⊢
  have hl : lv_has ls 4 [(0, .ref b)] := hl
  refine g_new (C := RX3) (T := TX3) (N := 14) (ci := 3) (fs := zNull) S hK w0 inlX3 tyX3 tyX3_ok (List.mem_of_getElem? (i := 0) rfl) (List.mem_of_getElem? (i := 1) rfl) (List.mem_of_getElem? (i := 2) rfl) rfl (fun j hj => by rcases (show j = 0 ∨ j = 1 ∨ j = 2 ∨ j = 3 ∨ j = 4 ∨ j = 5 ∨ j = 6 ∨ j = 7 ∨ j = 8 ∨ j = 9 ∨ j = 10 ∨ j = 11 ∨ j = 12 ∨ j = 13 by omega) with rfl | rfl | rfl | rfl | rfl | rfl | rfl | rfl | rfl | rfl | rfl | rfl | rfl | rfl <;> rfl) (Nat.le_of_ble_eq_true rfl) (Nat.le_of_ble_eq_true rfl) dL_law_0 (fun q0 H w1 => ?_)
  refine lv_dup hx hb dL_law_3 rfl ?_
  have hP1 : va_P D vwCl [(q0, .inr (3, zNull))] H := w1.1
  have hA1 : ∀ q, va_A [(q0, .inr (3, zNull))] H.size q → s.heap.size ≤ q := fun q h => w1.free (k := 0) (by decide) q h
  refine va_callv (va_runI (As := []) (rest := [.ref q0]) S (c_X3_init l D q0 H.size) (cwI 0 S.2.2.2.2 gL_law_X3_init rfl rfl rfl (S.2.2.2.2 _ (List.mem_of_getElem? (i := 2) rfl)) (S.2.2.2.2 _ (List.mem_of_getElem? (i := 6) rfl)) (S.2.2.2.2 _ (List.mem_of_getElem? (i := 7) rfl)) rfl hd_X3_init ⟨Nat.le_of_ble_eq_true rfl, Nat.le_of_ble_eq_true rfl⟩) ⟨PreC3.blind, fun U hU hW => ⟨rfl, by rw [hU], by rw [hU]; exact hP1, va_K.moved hW.alike hK, hN.warm hW, va_AO.moved hW.alike hA3.1, va_AO.moved hW.alike hA3.2.1, va_AO.moved hW.alike hA3.2.2⟩⟩ rfl rfl hl.1 rfl (lv_room (Nat.le_of_ble_eq_true rfl)) dL_law_4 ⟨Nat.le_of_ble_eq_true rfl, Nat.le_of_ble_eq_true rfl⟩) w1.2.2.1 (fun q _ h => hA1 q h) hA1 (fun adC t H1 locs1 ht hvm had hB hz hk1 hS1 => ?_)
  obtain ⟨hPC, hKC, hDC⟩ := hB
  rw [ht] at hPC
  have hKC := va_K.moved hvm.symm hKC
  have wC : CW 41 (eC adC) adC D (fun q : Nat => s.heap.size ≤ q) s.heap σC0 H1 locs1 := ⟨hPC, hDC.weaken (fun k q _ h => hA1 q.1 h), hS1, fun q h => h⟩
  refine lv_astore_n (lv' := [(1, .ref q0), (0, .ref b)]) hx hb dL_law_7 rfl hl (by decide) rfl (fun ls hl => ?_)
  have w2 : CG 0 (fun _ => 0) (fun _ => .inr (0, [])) D (fun q : Nat => s.heap.size ≤ q) s.heap H1 locs1 := ⟨fun k q h => by simp [Wg] at h, ⟨fun i j p q h => by simp [Wg] at h, fun k q h => by simp [Wg] at h⟩, hS1, fun q h => h⟩
  refine W.newcK hx hb S.2.2.2.1 (S.2.2.2.2 _ (List.mem_of_getElem? (i := 3) rfl)) (S.2.2.2.2 _ (List.mem_of_getElem? (i := 4) rfl)) (S.2.2.2.2 _ (List.mem_of_getElem? (i := 5) rfl)) rfl dL_law_8 (Nat.le_of_ble_eq_true rfl) (Nat.le_of_ble_eq_true rfl) (hK.1 4 _ rfl).2.1 rfl (fun H2 kC hkC e1 z1 o1 => ?_)
  have hb1 : va_at D vwCl (H1.size, .inr (4, zNullM)) H2 := ⟨_, rfl, (u_born tyX4 hts inX4 (hK.1 4 _ rfl) hkC e1 tyX4_ok).to (fun j hj => by rcases (show j = 0 ∨ j = 1 ∨ j = 2 ∨ j = 3 ∨ j = 4 ∨ j = 5 ∨ j = 6 ∨ j = 7 ∨ j = 8 ∨ j = 9 ∨ j = 10 ∨ j = 11 ∨ j = 12 ∨ j = 13 ∨ j = 14 ∨ j = 15 ∨ j = 16 ∨ j = 17 ∨ j = 18 ∨ j = 19 ∨ j = 20 ∨ j = 21 ∨ j = 22 ∨ j = 23 ∨ j = 24 by omega) with rfl | rfl | rfl | rfl | rfl | rfl | rfl | rfl | rfl | rfl | rfl | rfl | rfl | rfl | rfl | rfl | rfl | rfl | rfl | rfl | rfl | rfl | rfl | rfl | rfl <;> rfl)⟩
  have wC2 : CW 41 (eC adC) adC D (fun q : Nat => s.heap.size ≤ q) s.heap σC0 H2 locs1 := ⟨fun k q hk => by
    have hat := wC.1 k q hk
    exact hat.kept (o1 q.1 hat.lt), wC.2.1, ⟨Nat.le_trans hS1.1 (by omega), fun q h1 h2 => (o1 q (Nat.lt_of_lt_of_le h1 hS1.1)).trans (hS1.2.1 q h1 h2), hS1.2.2⟩, fun q h => h⟩
  refine lv_dup hx hb dL_law_11 rfl ?_
  have hP2 : va_P D vwCl [(H1.size, .inr (4, zNullM))] H2 := fun i q hi => by
    have h1 := (List.getElem?_eq_some_iff.mp hi).1
    simp at h1
    subst h1
    cases hi
    exact hb1
  have hA2 : ∀ q, va_A [(H1.size, .inr (4, zNullM))] H2.size q → s.heap.size ≤ q := by
    intro q h
    rcases h with ⟨i, e2, h⟩ | h
    · have h1 := (List.getElem?_eq_some_iff.mp h).1
      simp at h1
      subst h1
      have h2 : H1.size = q := congrArg Prod.fst (Option.some.inj h)
      rw [← h2]
      exact hS1.1
    · exact Nat.le_trans hS1.1 (by omega)
  have hlt : ∀ i, i < 41 → adC i < H1.size := fun i hi => (wC.1 i _ (Wd_get hi)).lt
  refine va_callv (va_runI (As := []) (rest := [.ref H1.size]) S (c_X4_init l D H1.size H2.size) (cwI 0 S.2.2.2.2 gL_law_X4_init rfl rfl rfl (S.2.2.2.2 _ (List.mem_of_getElem? (i := 5) rfl)) (S.2.2.2.2 _ (List.mem_of_getElem? (i := 41) rfl)) (S.2.2.2.2 _ (List.mem_of_getElem? (i := 42) rfl)) rfl hd_X4_init ⟨Nat.le_of_ble_eq_true rfl, Nat.le_of_ble_eq_true rfl⟩) ⟨PreM4.blind, fun U hU hW => ⟨rfl, by rw [hU], by rw [hU]; exact hP2, va_K.moved hW.alike hK⟩⟩ rfl rfl hl.1 rfl (lv_room (Nat.le_of_ble_eq_true rfl)) dL_law_12 ⟨Nat.le_of_ble_eq_true rfl, Nat.le_of_ble_eq_true rfl⟩) wC2.2.2.1 (fun q _ h => hA2 q h) hA2 (fun adM t3 H3 locs3 ht3 hvm3 had3 hB3 hz3 hk3 hS3 => ?_)
  obtain ⟨hPM, hKM, hDM⟩ := hB3
  rw [ht3] at hPM
  have hKM := va_K.moved hvm3.symm hKM
  have hge : ∀ i, i < 18 → H1.size ≤ adM i := fun i hi => by
    have h := hDM.2 i _ (Wd_get hi)
    rcases h with ⟨j, e2, h⟩ | h
    · have h1 := (List.getElem?_eq_some_iff.mp h).1
      simp at h1
      subst h1
      have h2 : H1.size = adM i := congrArg Prod.fst (Option.some.inj h)
      omega
    · have : H2.size ≤ adM i := h
      omega
  have hdis : ∀ i, i < 41 → ∀ j, j < 18 → adC i ≠ adM j := fun i hi j hj h => by
    have h1 := hlt i hi
    have h2 := hge j hj
    omega
  have wM : CW 18 (eM adM) adM D (fun q : Nat => s.heap.size ≤ q) s.heap σM0 H3 locs3 := ⟨hPM, hDM.weaken (fun k q _ h => hA2 q.1 h), hS3, fun q h => h⟩
  have wC3 : CW 41 (eC adC) adC D (fun q : Nat => s.heap.size ≤ q) s.heap σC0 H3 locs3 := ⟨fun k q hk => by
    obtain ⟨hkn, rfl⟩ := Wd_get_inv hk
    have hat := wC2.1 k _ hk
    refine hat.kept (hk3 _ hat.lt (fun h => ?_))
    have h0 := hlt k hkn
    rcases h with ⟨j, e2, h⟩ | h
    · have h1 := (List.getElem?_eq_some_iff.mp h).1
      simp at h1
      subst h1
      have h2 : H1.size = adC k := congrArg Prod.fst (Option.some.inj h)
      omega
    · have : H2.size ≤ adC k := h
      omega, wC.2.1, hS3, fun q h => h⟩
  refine lv_astore_n (lv' := [(2, .ref H1.size), (1, .ref q0), (0, .ref b)]) hx hb dL_law_15 rfl hl (by decide) rfl (fun ls hl => ?_)
  refine lv_iconst (v := 0) hx hb dL_law_16 (by decide) ?_
  refine lv_istore_n (lv' := [(3, .int 0), (2, .ref H1.size), (1, .ref q0), (0, .ref b)]) hx hb dL_law_17 rfl hl (by decide) rfl (fun ls hl => ?_)
  have hl2 : lv_has ls 4 [(0, .ref b), (1, .ref (adC 0)), (2, .ref (adM 0)), (3, .int 0)] := by
    rw [had, had3]
    exact lv_sub hl [3, 2, 1, 0] rfl
  refine W.widen (k := 59) (n := 1311) (Nat.le_of_ble_eq_true rfl) (Nat.le_of_ble_eq_true rfl) ?_
  exact law_loop hL C0 hKC hKM hdis (L + 1) 0 0 (Nat.zero_le _) (by omega) (by decide) σC0 σM0 R_0 H3 locs3 wC3 wM ls hl2
-- ===== YOUR PART ENDS =====
set_option maxHeartbeats 4000000 in
theorem lw_walk (l : Launch) (hflags : l.flags = flags0) (b : Addr) (xs : List Int32) : MetFree l x (headSpec (Jvm.Cond.code x code maxLocals ret :: tables_1) room_1) (lw_P b xs) (fun _ _ _ _ _ => True) lw_Q := by
  refine MetFree.of_bodyS (code := code) (maxLocals := maxLocals) (ret := ret) (by decide) ?_ ?_
  · intro args s m h hn
    obtain ⟨meth, c, h1, h2, h3, h4, h5, h6, -, -⟩ := Cond.code_spec hn (atoms_spec (ws := Jvm.Cond.code x code maxLocals ret :: tables_1) h _ List.mem_cons_self)
    exact ⟨meth, c, h1, h2, h3, h4, h5, h6⟩
  · intro p e s m args below meth c s₁ B hml0 hP _
    obtain ⟨rfl, hx, hbd, hgv⟩ := hP
    obtain ⟨scr, harrAt, hlist, hof, hsmall⟩ := hx
    obtain ⟨hcb, hkn, -, -⟩ := State.arrayAt?_spec harrAt
    have hown : s.vm.findClass R_law = some m.cls := findClass_of_methodNamed B.named
    have hts0 : ∀ c ∈ (Jvm.Cond.code x code maxLocals ret :: tables_1), c.before #[Value.ref b] s = true := atoms_spec (ws := Jvm.Cond.code x code maxLocals ret :: tables_1) B.pre
    have hts : ∀ w ∈ lw_tbl, w.before #[Value.ref b] s = true := k2_hts_sels lw_privs (fun w hw => hts0 w (List.mem_cons_of_mem _ hw)) lw_privs_ok
    have hml : c.maxLocals = 4 := B.maxLocals_eq (hts0 _ List.mem_cons_self)
    have X₀ : Stand p l e room_1 s m #[Value.ref b] below meth c s₁ [] 0 0 := Stand.of_body B
    have hh0 : s₁.heap = s.heap := by rw [B.state]; rfl
    have hsz : scr.slots.size = xs.length := by rw [← Array.length_toList, hlist, List.length_map]
    have hval : ∀ j : Nat, j < xs.length → scr.slots[j]? = some (.int (xs.getD j 0)) := fun j hj => by
      rw [← Array.getElem?_toList, hlist]
      simp [hj]
    have hbl : b < s.heap.size := (Array.getElem?_eq_some_iff.mp hcb).1
    have hX : va_X b xs.length (fun j => xs.getD j 0) s s.heap := ⟨scr, hcb, hof, hkn, hsz, hval⟩
    have K : W p l e room_1 s m #[Value.ref b] below meth c s₁.heap [] 0 0 (lw_Z below #[Value.ref b] s) (entryFrame m ([Value.ref b] : List Value).toArray 4) := by
      rw [hh0]
      exact whole_start l hflags hbd ⟨B.exec, B.bytes, B.returns, hml, hown, hts, hX, hbl, B.notSynchronized, hgv⟩
    obtain ⟨t, a1, o, b1, b2, b3⟩ := K s₁ rfl X₀
    exact ⟨t, o, a1, b1, b2, b3⟩
theorem lw_pre_spec {args : Array Value} {s : State} (h : (Jvm.Cond.and given_1 narrow_1).before args s = true) (hr : rest_1_c.before args s = true) : ∃ (b : Addr) (xs : List Int32), lw_P b xs args s := by
  have hs := flat_of_before _ h
  have hq := flat_of_before _ hr
  have hc : (Cond.count 1).before args s = true := hs _ (by decide +kernel)
  have harr : (Cond.arrayOf (.arg 0) .int).before args s = true := hs _ (by decide +kernel)
  have hle : (Cond.le (.length (.arg 0)) (.int 3584)).before args s = true := hs _ (by decide +kernel)
  have hlen : (Cond.isInt (.length (.arg 0))).before args s = true := hq _ (by decide +kernel)
  have hall : (Cond.all (.arg 0) (.isInt (.elem (.arg 0) (.index 0)))).before args s = true := hq _ (by decide +kernel)
  obtain ⟨b, xs, hb, hx⟩ := State.ints_of_pre rfl harr hlen hall
  have hsm : xs.length < 2 ^ 31 := hx.choose_spec.2.2.2
  have hev : (Term.length (.arg 0)).eval args s none [] s = some (.int xs.length.toInt32) := hx.length_eval hb
  have hv := Cond.le_ints hev (show (Term.int 3584).eval args s none [] s = some (.int 3584) from rfl)
  have hd : xs.length.toInt32 ≤ 3584 := by
    simpa [Cond.before, Cond.holds, hv] using hle
  have hN : xs.length ≤ 3584 := (Int32.ofNat_le_ofNat hsm (by decide)).mp (show Int32.ofNat xs.length ≤ Int32.ofNat 3584 from hd)
  exact ⟨b, xs, Cond.one_arg hc (show args[0]? = some (.ref b) from hb), hx, hN, h⟩
theorem lw_comes (l : Launch) (hflags : l.flags = flags0) : Comes l x (Jvm.Cond.code x code maxLocals ret :: tables_1) room_1 (fun tb e args s => Calls_1 tb e args s ∧ rest_1 tb e args s ∧ Pre_1 tb e args s)
    (fun _ _ args s o t => lw_Q args s o t) := by
  intro p e ha hc hk s m args below hf hfit hheap happ hpre
  obtain ⟨b, xs, hP⟩ := lw_pre_spec hpre.2.2 hpre.2.1
  obtain ⟨k, o, h1, h2, h3, hQ⟩ := lw_walk l hflags b xs p e ha hc hk s m args below hf ((Spec.applies_iff_loose hf).mp happ).1 hP trivial
  exact ⟨k, o, h1, h2, h3, hQ⟩
theorem lw_frame {s t : State} {o : Outcome} {args : Array Value} (h : Framed s o t [] 600000 7302250) :
    Framed s o t (fieldLocs frame_1_writes args s ++ arrayLocs frame_1_arrays args s ++ staticLocs frame_1_statics s) 600000 7302250 := h
theorem lw_limb (L : Cond) (hL : ∀ (args : Array Value) (s t : State), L.after args s (.returned (some (.int 1))) t = true) :
    ArmFor flags0 classFile x code maxLocals ret World_1 tables_1 room_1 Calls_1 rest_1 Pre_1
      (fun tb e a s o t => postC L tb e a s o t ∧ Framed s o t (fieldLocs frame_1_writes a s ++ arrayLocs frame_1_arrays a s ++ staticLocs frame_1_statics s) 600000 7302250) := by
  intro l hflags _ _ p e ha hc hk s m args below hf hfit hheap happ hpre
  obtain ⟨k, o, h1, h2, h3, rfl, hF⟩ := lw_comes l hflags p e ha hc hk s m args below hf hfit hheap happ hpre
  exact ⟨k, _, h1, h2, h3, hL args s _, lw_frame hF⟩
theorem i_vc : Claimed_1_1 ∧ Claimed_1_2 := ⟨lw_limb limb_1_1 (fun args s t => by simp [limb_1_1, Cond.after, Cond.holds, Cond.value]), lw_limb limb_1_2 (fun args s t => Cond.after_iff.mpr (by
  first | (rw [show limb_1_2 = Cond.eq .result (.int 1) from rfl, Cond.eq_ints (x := 1) (y := 1) rfl rfl]; simp; done) | (simp [limb_1_2, Cond.value, Term.eval]; done)))⟩
