/-! THE CLAIM OUT OF ONE WALK OF THE LAW'S BODY. Your part is whole_start (and what it stands on); all else here is the same for every law, but numbers. -/
theorem dL_law_1409 : decode cL_law 1409 = .ok (.ireturn, 1) := by decide +kernel
def R_law : String := "NineSmellsLaw"
def lw_P (b : Addr) (xs : List Int32) (args : Array Value) (s : State) : Prop := args = #[.ref b] ∧ s.IntsAt b xs ∧ xs.length ≤ 3584 ∧ (Jvm.Cond.and given_1 narrow_1).before args s = true
def lw_Q (_ : Array Value) (s : State) (o : Outcome) (t : State) : Prop := o = .returned (some (.int 1)) ∧ Framed s o t [] 600000 7302250
def lw_Z (below : List Frame) (a : Array Value) (s : State) : State → Prop := fun t => ∃ o, t.status = .running ∧ Ended t below o ∧ lw_Q a s o t
/-- the law's own end, with 1 on the stack, nothing written that was there before, its room as the claim has it -/
theorem lw_ret {p : Program} {l : Launch} {e : Env} {s : State} {m : MethodId} {below : List Frame} {meth : Method} {c : Code} {b : Nat} (hx : p.tables.exec = Jvm.exec) (hb : c.code = code) (hr : meth.sig.returnType = ret) (hlocks : meth.locks = false) {pc : Nat} {H : Heap} {ls : Array Slot} (hdg : decode code pc = .ok (.ireturn, 1)) : W p l e room_1 s m #[Value.ref b] below meth c H [] 600000 7302250 (lw_Z below #[Value.ref b] s) (F0 m pc ls [.int 1]) := by
  intro T hT X
  obtain ⟨fs, hret, hrun, hended, hW, hframe⟩ := X.leave (v := some (.int 1)) (hlocks := hlocks) (fun h => by rw [hr] at h; cases h)
  have hmeth' : T.vm.method? m = some meth := X.method'
  refine ⟨T.setFrames fs, ?_, .returned (some (.int 1)), hrun, hended, rfl, ⟨_, rfl⟩, hW, hframe⟩
  jvm_step X.here [X.here.top, hx, hb, hdg, hmeth', hr, ret, narrow_b1]
  (try refine ⟨rfl, ?_⟩); (try refine ⟨rfl, ?_⟩)
  first | (intro acts; rw [hret _ acts rfl rfl rfl]) | rw [hret _ _ rfl rfl rfl]
  exact Steps.refl _
/-- what holds at the law's entry: the machine, the code, the tables' words (any of lw_tbl by 'hts w (by decide +kernel)'), the script of L ints xs at the cell b, what the Statement gives of the start (any of its parts by flat_of_before) -/
def lw_At (p : Program) (s : State) (m : MethodId) (meth : Method) (c : Code) (b L : Nat) (xs : Nat → Int32) : Prop :=
  p.tables.exec = Jvm.exec ∧ c.code = code ∧ meth.sig.returnType = ret ∧ c.maxLocals = 4 ∧ s.vm.findClass R_law = some m.cls ∧ (∀ w ∈ lw_tbl, w.before #[Value.ref b] s = true) ∧ va_X b L xs s s.heap ∧ b < s.heap.size ∧ meth.locks = false ∧ (Jvm.Cond.and given_1 narrow_1).before #[Value.ref b] s = true
/-! the law's walk -/
section LAW2
variable {p : Program} {l : Launch} {e : Env} {R : Room} {s : State} {m : MethodId} {args : Array Value} {below : List Frame} {meth : Method} {c : Code} {H : Heap} {locs : List Loc} {cells slots : Nat} {Q : State → Prop}
variable {pc : Nat} {ls : Array Slot} {rest st0 : List Value} {a : Array Value}
variable {n : Nat} {E : Nat → (Nat → Int32) → va_E} {ad : Nat → Nat} {D : va_G} {A : Nat → Prop} {H0 : Heap} {σ : St}
variable {n2 : Nat} {E2 : Nat → (Nat → Int32) → va_E} {ad2 : Nat → Nat} {τ : St}
theorem CW.beside (w2 : CW n2 E2 ad2 D A H0 τ H locs) (hdis : ∀ i, i < n → ∀ j, j < n2 → ad i ≠ ad2 j) {H1 : Heap} {locs1 : List Loc} (hk1 : ∀ q : Nat, q < H.size → ¬ CA n ad H.size q → H1[q]? = H[q]?) (hS : va_S A H0 H1 locs1) : CW n2 E2 ad2 D A H0 τ H1 locs1 := by
  refine ⟨fun c q hc => ?_, w2.2.1, hS, w2.2.2.2⟩
  obtain ⟨hcn, rfl⟩ := Wd_get_inv hc
  have hat := w2.1 c _ (Wd_get hcn)
  refine hat.kept (hk1 _ hat.lt (fun h => ?_))
  rcases h with ⟨i, hi, h⟩ | h
  · exact hdis i hi c hcn h.symm
  · exact absurd hat.lt (Nat.not_lt.mpr h)
theorem callWi2 (w : CW n E ad D A H0 σ H locs) (w2 : CW n2 E2 ad2 D A H0 τ H locs) (hdis : ∀ i, i < n → ∀ j, j < n2 → ad i ≠ ad2 j) {tgt : Int32 × St} (hr : va_Run p l e R s m args below meth c H locs cells slots 0 0 (F0 m pc ls st0) rest (QWi n E ad D tgt (CA n ad H.size) a) (CA n ad H.size))
    (kk : ∀ (H1 : Heap) (locs1 : List Loc), CW n E ad D A H0 tgt.2 H1 locs1 → CW n2 E2 ad2 D A H0 τ H1 locs1 → W p l e R s m args below meth c H1 locs1 cells slots Q (F0 m (pc + 3) ls (.int tgt.1 :: rest))) : W p l e R s m args below meth c H locs cells slots Q (F0 m pc ls st0) := by
  refine va_calli hr w.2.2.1 (fun q _ h => w.free q h) w.free (fun r u t H1 locs1 ht hvm hw hB hz hk1 hS => ?_)
  subst hw
  rw [ht] at hB
  exact kk H1 locs1 ⟨hB, Wd_addr w.2.1 (fun k hk => w.2.1.2 k _ (Wd_get hk)), hS, w.2.2.2⟩ (w2.beside hdis hk1 hS)
theorem callWl2 (w : CW n E ad D A H0 σ H locs) (w2 : CW n2 E2 ad2 D A H0 τ H locs) (hdis : ∀ i, i < n → ∀ j, j < n2 → ad i ≠ ad2 j) {tgt : Int64 × St} (hr : va_Run p l e R s m args below meth c H locs cells slots 0 0 (F0 m pc ls st0) rest (QWl n E ad D tgt (CA n ad H.size) a) (CA n ad H.size))
    (kk : ∀ (H1 : Heap) (locs1 : List Loc), CW n E ad D A H0 tgt.2 H1 locs1 → CW n2 E2 ad2 D A H0 τ H1 locs1 → W p l e R s m args below meth c H1 locs1 cells slots Q (F0 m (pc + 3) ls (.long tgt.1 :: rest))) : W p l e R s m args below meth c H locs cells slots Q (F0 m pc ls st0) := by
  refine va_calll hr w.2.2.1 (fun q _ h => w.free q h) w.free (fun r u t H1 locs1 ht hvm hw hB hz hk1 hS => ?_)
  subst hw
  rw [ht] at hB
  exact kk H1 locs1 ⟨hB, Wd_addr w.2.1 (fun k hk => w.2.1.2 k _ (Wd_get hk)), hS, w.2.2.2⟩ (w2.beside hdis hk1 hS)
end LAW2
theorem arg_in {v : Int32} {L : Nat} (h0 : 0 ≤ v.toInt) (h1 : v.toInt + 7 ≤ L) (hL : L ≤ 3584) (k : Int32) (z : Int) (hz : k.toInt = z) (hk : 0 ≤ z ∧ z < 7) : vp_in (v + k) L := by
  have e := a_toInt (a := v) (b := k) (by omega) (by omega)
  exact vpi (by omega) (by omega)
theorem lgc_self (x : Int64) : lg_cmp x x = 0 := by
  have h : ¬ x < x := fun q => by
    have := Int64.lt_iff_toInt_lt.mp q
    omega
  simp [lg_cmp, h]
set_option maxRecDepth 20000 in
theorem nestF_in : ∀ q ∈ nestF, Cond.fieldLinkNest RX3 q.1 q.2.1 q.2.2.1 q.2.2.2 RX3 ∈ lw_tbl := List.forall_mem_cons.mpr ⟨tb_t1 (List.mem_of_getElem? (i := 30) rfl), List.forall_mem_cons.mpr ⟨tb_t1 (List.mem_of_getElem? (i := 32) rfl), List.forall_mem_cons.mpr ⟨tb_t1 (List.mem_of_getElem? (i := 35) rfl), List.forall_mem_cons.mpr ⟨tb_t1 (List.mem_of_getElem? (i := 51) rfl), List.forall_mem_cons.mpr ⟨tb_t1 (List.mem_of_getElem? (i := 52) rfl), List.forall_mem_cons.mpr ⟨tb_t1 (List.mem_of_getElem? (i := 54) rfl), List.forall_mem_cons.mpr ⟨tb_t1 (List.mem_of_getElem? (i := 67) rfl), List.forall_mem_cons.mpr ⟨tb_t1 (List.mem_of_getElem? (i := 68) rfl), List.forall_mem_cons.mpr ⟨tb_t1 (List.mem_of_getElem? (i := 69) rfl), List.forall_mem_cons.mpr ⟨tb_t1 (List.mem_of_getElem? (i := 70) rfl), List.forall_mem_cons.mpr ⟨tb_t1 (List.mem_of_getElem? (i := 71) rfl), List.forall_mem_cons.mpr ⟨tb_t1 (List.mem_of_getElem? (i := 72) rfl), fun _ h => absurd h List.not_mem_nil⟩⟩⟩⟩⟩⟩⟩⟩⟩⟩⟩⟩
set_option maxRecDepth 20000 in
theorem nestM_in : ∀ q ∈ nestM, Cond.methodLinkNest RX3 q.1 q.2 RX3 ∈ lw_tbl := List.forall_mem_cons.mpr ⟨tb_t1 (List.mem_of_getElem? (i := 25) rfl), List.forall_mem_cons.mpr ⟨tb_t1 (List.mem_of_getElem? (i := 47) rfl), List.forall_mem_cons.mpr ⟨tb_t1 (List.mem_of_getElem? (i := 63) rfl), List.forall_mem_cons.mpr ⟨tb_t1 (List.mem_of_getElem? (i := 151) rfl), List.forall_mem_cons.mpr ⟨tb_t2 (List.mem_of_getElem? (i := 134) rfl), List.forall_mem_cons.mpr ⟨tb_t2 (List.mem_of_getElem? (i := 147) rfl), fun _ h => absurd h List.not_mem_nil⟩⟩⟩⟩⟩⟩
theorem NW_of {s : State} {args : Array Value} (hts : ∀ w ∈ lw_tbl, w.before args s = true) : NW s := ⟨fun q hq => va_Nw.of rfl (hts _ (nestF_in q hq)), fun q hq => va_Nw.of rfl (hts _ (nestM_in q hq))⟩
set_option maxHeartbeats 16000000 in
set_option maxRecDepth 100000 in
/-- THE LAW'S LOOP: at its head, with j calls done, both sides agree -/
theorem law_loop {p : Program} {l : Launch} {e : Env} {s : State} {m : MethodId} {below : List Frame} {meth : Method} {c : Code} {D : va_G} {b L : Nat} {xs : Nat → Int32} {adC adM : Nat → Nat} (hL : L ≤ 3584) (C0 : lw_At p s m meth c b L xs) (hKC : va_K D vwCl (tyC adC) s) (hKM : va_K D vwCl (tyM adM) s) (hdis : ∀ i, i < 41 → ∀ j, j < 18 → adC i ≠ adM j) :
    ∀ (n j : Nat) (v : Int32), 7 * j ≤ L → L + 1 ≤ 7 * j + n → v.toInt = 7 * j → ∀ (σ τ : St), R j σ τ → ∀ (H : Heap) (locs : List Loc), CW 41 (eC adC) adC D (fun q : Nat => s.heap.size ≤ q) s.heap σ H locs → CW 18 (eM adM) adM D (fun q : Nat => s.heap.size ≤ q) s.heap τ H locs → ∀ (ls : Array Slot), lv_has ls 4 [(0, .ref b), (1, .ref (adC 0)), (2, .ref (adM 0)), (3, .int v)] → W p l e room_1 s m #[Value.ref b] below meth c H locs 59 1311 (lw_Z below #[Value.ref b] s) (F0 m 18 ls []) := by
  obtain ⟨hx, hb, hr, hml, hown, hts, hX, hbl, hlocks, hgv⟩ := C0
  have hN : NW s := NW_of hts
  have S : CallFix p m c cL_law 4 s #[Value.ref b] wsL_law RL := ⟨hx, hb, hml, hown, fun w h => hts w (wsL_law_in w h)⟩
  have hbA : ¬ (fun q : Nat => s.heap.size ≤ q) b := Nat.not_le.mpr hbl
  have hdis2 : ∀ i, i < 18 → ∀ j, j < 41 → adM i ≠ adC j := fun i hi j hj h => hdis j hj i hi h.symm
  intro n
  induction n with
  | zero =>
    intro j v h1 h2
    exact absurd h2 (by omega)
  | succ n ih =>
    intro j v h1 h2 hv σ τ hR H locs wC wM ls hl
    have z7 : (7 : Int32).toInt = 7 := by decide
    have eL : (nI L).toInt = (L : Int) := nI_toInt (by omega)
    have e7 := s_toInt (a := nI L) (b := 7) (by omega) (by omega)
    refine lv_iload_n hx hb dL_law_18 rfl (lv_at hl 3 rfl) ?_
    refine lv_aload_n hx hb dL_law_19 rfl (lv_at hl 0 rfl) ?_
    refine va_slen hx hb hX hbl hbA wC.2.2.1 dL_law_20 ?_
    refine lv_bipush (v := 7) hx hb dL_law_21 (by decide) ?_
    refine lv_isub hx hb dL_law_23 ?_
    refine lv_icmp_gt (tgt := 1408) hx hb dL_law_24 (by decide) (fun c24 => ?_) (fun c24 => ?_)
    · refine lv_iconst (v := 1) hx hb dL_law_1408 (by decide) ?_
      refine va_forget (fun q hq => wC.2.2.1.2.2 q hq) ?_
      refine W.widen (k := 600000) (n := 7302250) (Nat.le_of_ble_eq_true rfl) (Nat.le_of_ble_eq_true rfl) ?_
      exact lw_ret hx hb hr hlocks dL_law_1409
    · have t24 : v.toInt ≤ (nI L - 7).toInt := qt_nlt c24
      have hj : j < 512 := by omega
      have hv0 : 0 ≤ v.toInt := by omega
      have hv7 : v.toInt + 7 ≤ L := by omega
      have K : ∀ (σ' τ' : St), R (j + 1) σ' τ' → ∀ (H : Heap) (locs : List Loc), CW 41 (eC adC) adC D (fun q : Nat => s.heap.size ≤ q) s.heap σ' H locs → CW 18 (eM adM) adM D (fun q : Nat => s.heap.size ≤ q) s.heap τ' H locs → ∀ (ls : Array Slot), lv_has ls 4 [(0, .ref b), (1, .ref (adC 0)), (2, .ref (adM 0)), (3, .int v)] → W p l e room_1 s m #[Value.ref b] below meth c H locs 59 1311 (lw_Z below #[Value.ref b] s) (F0 m 1402 ls []) := by
        intro σ' τ' hR H locs wC wM ls hl
        have ev := a_toInt (a := v) (b := 7) (by omega) (by omega)
        refine lv_iinc (v := v + 7) (lv' := [(3, .int (v + 7)), (0, .ref b), (1, .ref (adC 0)), (2, .ref (adM 0))]) hx hb dL_law_1402 hl (k := 3) rfl rfl (by decide) rfl (fun ls hl => ?_)
        refine lv_goto (tgt := 18) hx hb dL_law_1405 (by decide) ?_
        exact ih (j + 1) (v + 7) (by omega) (by omega) (by omega) σ' τ' hR H locs wC wM ls (lv_sub hl [1, 2, 3, 0] rfl)
      have okC : OkC σ := hR.1
      have okM : OkM τ := hR.2.1
      have g0 : vp_in v L := vpi hv0 (by omega)
      have g1 : vp_in (v + 1) L := arg_in hv0 hv7 hL 1 1 (by decide) (by decide)
      have g2 : vp_in (v + 2) L := arg_in hv0 hv7 hL 2 2 (by decide) (by decide)
      have g3 : vp_in (v + 3) L := arg_in hv0 hv7 hL 3 3 (by decide) (by decide)
      have g4 : vp_in (v + 4) L := arg_in hv0 hv7 hL 4 4 (by decide) (by decide)
      have g5 : vp_in (v + 5) L := arg_in hv0 hv7 hL 5 5 (by decide) (by decide)
      have g6 : vp_in (v + 6) L := arg_in hv0 hv7 hL 6 6 (by decide) (by decide)
      refine lv_aload_n hx hb dL_law_27 rfl (lv_at hl 0 rfl) ?_
      refine lv_iload_n hx hb dL_law_28 rfl (lv_at hl 3 rfl) ?_
      refine va_sld hx hb hX hbl hbA wC.2.2.1 g0 dL_law_29 ?_
      refine lv_bipush (v := 63) hx hb dL_law_30 (by decide) ?_
      refine lv_iand hx hb dL_law_32 ?_
      by_cases c33_0 : (xs (ix v) &&& 63) = 0
      · refine lv_tableIn (tgt := 184) hx hb dL_law_33 (by rw [c33_0]; decide) (by rw [c33_0]; decide) (off := 151) (by rw [c33_0]; decide) (by decide) ?_
        refine lv_aload_n hx hb dL_law_184 rfl (lv_at hl 1 rfl) ?_
        refine lv_aload_n hx hb dL_law_185 rfl (lv_at hl 0 rfl) ?_
        refine lv_iload_n hx hb dL_law_186 rfl (lv_at hl 3 rfl) ?_
        refine lv_iconst (v := 1) hx hb dL_law_187 (by decide) ?_
        refine lv_iadd hx hb dL_law_188 ?_
        refine va_sld hx hb hX hbl hbA wC.2.2.1 g1 dL_law_189 ?_
        refine lv_aload_n hx hb dL_law_190 rfl (lv_at hl 0 rfl) ?_
        refine lv_iload_n hx hb dL_law_191 rfl (lv_at hl 3 rfl) ?_
        refine lv_iconst (v := 2) hx hb dL_law_192 (by decide) ?_
        refine lv_iadd hx hb dL_law_193 ?_
        refine va_sld hx hb hX hbl hbA wC.2.2.1 g2 dL_law_194 ?_
        refine lv_aload_n hx hb dL_law_195 rfl (lv_at hl 0 rfl) ?_
        refine lv_iload_n hx hb dL_law_196 rfl (lv_at hl 3 rfl) ?_
        refine lv_iconst (v := 3) hx hb dL_law_197 (by decide) ?_
        refine lv_iadd hx hb dL_law_198 ?_
        refine va_sld hx hb hX hbl hbA wC.2.2.1 g3 dL_law_199 ?_
        refine lv_aload_n hx hb dL_law_200 rfl (lv_at hl 0 rfl) ?_
        refine lv_iload_n hx hb dL_law_201 rfl (lv_at hl 3 rfl) ?_
        refine lv_iconst (v := 4) hx hb dL_law_202 (by decide) ?_
        refine lv_iadd hx hb dL_law_203 ?_
        refine va_sld hx hb hX hbl hbA wC.2.2.1 g4 dL_law_204 ?_
        refine callWi2 wC wM hdis (va_runV (As := [.int (xs (ix (v + 1))), .int (xs (ix (v + 2))), .int (xs (ix (v + 3))), .int (xs (ix (v + 4)))]) (rest := []) S (c_X3_register l adC D H.size σ (xs (ix (v + 1))) (xs (ix (v + 2))) (xs (ix (v + 3))) (xs (ix (v + 4))) okC) (cwV 4 S.2.2.2.2 gL_law_X3_register rfl rfl rfl ⟨rfl, hd_X3_register⟩ ⟨Nat.le_of_ble_eq_true rfl, Nat.le_of_ble_eq_true rfl⟩) (preV hKC hN wC (k := 0) (by decide) (eC_0 adC _) (q := (RX3, TX3, 14)) rfl) rfl rfl hl.1 rfl (lv_room (Nat.le_of_ble_eq_true rfl)) dL_law_205 ⟨Nat.le_of_ble_eq_true rfl, Nat.le_of_ble_eq_true rfl⟩) (fun H locs wC wM => ?_)
        refine lv_aload_n hx hb dL_law_208 rfl (lv_at hl 2 rfl) ?_
        refine lv_aload_n hx hb dL_law_209 rfl (lv_at hl 0 rfl) ?_
        refine lv_iload_n hx hb dL_law_210 rfl (lv_at hl 3 rfl) ?_
        refine lv_iconst (v := 1) hx hb dL_law_211 (by decide) ?_
        refine lv_iadd hx hb dL_law_212 ?_
        refine va_sld hx hb hX hbl hbA wC.2.2.1 g1 dL_law_213 ?_
        refine lv_aload_n hx hb dL_law_214 rfl (lv_at hl 0 rfl) ?_
        refine lv_iload_n hx hb dL_law_215 rfl (lv_at hl 3 rfl) ?_
        refine lv_iconst (v := 2) hx hb dL_law_216 (by decide) ?_
        refine lv_iadd hx hb dL_law_217 ?_
        refine va_sld hx hb hX hbl hbA wC.2.2.1 g2 dL_law_218 ?_
        refine lv_aload_n hx hb dL_law_219 rfl (lv_at hl 0 rfl) ?_
        refine lv_iload_n hx hb dL_law_220 rfl (lv_at hl 3 rfl) ?_
        refine lv_iconst (v := 3) hx hb dL_law_221 (by decide) ?_
        refine lv_iadd hx hb dL_law_222 ?_
        refine va_sld hx hb hX hbl hbA wC.2.2.1 g3 dL_law_223 ?_
        refine lv_aload_n hx hb dL_law_224 rfl (lv_at hl 0 rfl) ?_
        refine lv_iload_n hx hb dL_law_225 rfl (lv_at hl 3 rfl) ?_
        refine lv_iconst (v := 4) hx hb dL_law_226 (by decide) ?_
        refine lv_iadd hx hb dL_law_227 ?_
        refine va_sld hx hb hX hbl hbA wC.2.2.1 g4 dL_law_228 ?_
        refine callWi2 wM wC hdis2 (va_runV (As := [.int (xs (ix (v + 1))), .int (xs (ix (v + 2))), .int (xs (ix (v + 3))), .int (xs (ix (v + 4)))]) (rest := [.int (f_X3_register σ (xs (ix (v + 1))) (xs (ix (v + 2))) (xs (ix (v + 3))) (xs (ix (v + 4)))).1]) S (c_X4_register l adM D H.size τ (xs (ix (v + 1))) (xs (ix (v + 2))) (xs (ix (v + 3))) (xs (ix (v + 4))) okM) (cwV 4 S.2.2.2.2 gL_law_X4_register rfl rfl rfl ⟨rfl, hd_X4_register⟩ ⟨Nat.le_of_ble_eq_true rfl, Nat.le_of_ble_eq_true rfl⟩) (preV hKM hN wM (k := 0) (by decide) (eM_0 adM _) (q := (RX4, TX4, 25)) rfl) rfl rfl hl.1 rfl (lv_room (Nat.le_of_ble_eq_true rfl)) dL_law_229 ⟨Nat.le_of_ble_eq_true rfl, Nat.le_of_ble_eq_true rfl⟩) (fun H locs wM wC => ?_)
        have hq := q_register hR hj (xs (ix (v + 1))) (xs (ix (v + 2))) (xs (ix (v + 3))) (xs (ix (v + 4)))
        refine lv_icmp_eq (tgt := 1402) hx hb dL_law_232 (by decide) (fun c232 => ?_) (fun c232 => ?_)
        · exact K _ _ hq.2 H locs wC wM ls hl
        · exact absurd hq.1 c232
      by_cases c33_1 : (xs (ix v) &&& 63) = 1
      · refine lv_tableIn (tgt := 237) hx hb dL_law_33 (by rw [c33_1]; decide) (by rw [c33_1]; decide) (off := 204) (by rw [c33_1]; decide) (by decide) ?_
        refine lv_aload_n hx hb dL_law_237 rfl (lv_at hl 1 rfl) ?_
        refine lv_aload_n hx hb dL_law_238 rfl (lv_at hl 0 rfl) ?_
        refine lv_iload_n hx hb dL_law_239 rfl (lv_at hl 3 rfl) ?_
        refine lv_iconst (v := 1) hx hb dL_law_240 (by decide) ?_
        refine lv_iadd hx hb dL_law_241 ?_
        refine va_sld hx hb hX hbl hbA wC.2.2.1 g1 dL_law_242 ?_
        refine lv_aload_n hx hb dL_law_243 rfl (lv_at hl 0 rfl) ?_
        refine lv_iload_n hx hb dL_law_244 rfl (lv_at hl 3 rfl) ?_
        refine lv_iconst (v := 2) hx hb dL_law_245 (by decide) ?_
        refine lv_iadd hx hb dL_law_246 ?_
        refine va_sld hx hb hX hbl hbA wC.2.2.1 g2 dL_law_247 ?_
        refine call0i (va_runV (As := [.int (xs (ix (v + 1))), .int (xs (ix (v + 2)))]) (rest := []) S (c_X3_ofSign l adC D H.size σ (xs (ix (v + 1))) (xs (ix (v + 2))) okC) (cwV 2 S.2.2.2.2 gL_law_X3_ofSign rfl rfl rfl ⟨rfl, hd_X3_ofSign⟩ ⟨Nat.le_of_ble_eq_true rfl, Nat.le_of_ble_eq_true rfl⟩) (preV hKC hN wC (k := 0) (by decide) (eC_0 adC _) (q := (RX3, TX3, 14)) rfl) rfl rfl hl.1 rfl (lv_room (Nat.le_of_ble_eq_true rfl)) dL_law_248 ⟨Nat.le_of_ble_eq_true rfl, Nat.le_of_ble_eq_true rfl⟩) ?_
        refine lv_aload_n hx hb dL_law_251 rfl (lv_at hl 2 rfl) ?_
        refine lv_aload_n hx hb dL_law_252 rfl (lv_at hl 0 rfl) ?_
        refine lv_iload_n hx hb dL_law_253 rfl (lv_at hl 3 rfl) ?_
        refine lv_iconst (v := 1) hx hb dL_law_254 (by decide) ?_
        refine lv_iadd hx hb dL_law_255 ?_
        refine va_sld hx hb hX hbl hbA wC.2.2.1 g1 dL_law_256 ?_
        refine lv_aload_n hx hb dL_law_257 rfl (lv_at hl 0 rfl) ?_
        refine lv_iload_n hx hb dL_law_258 rfl (lv_at hl 3 rfl) ?_
        refine lv_iconst (v := 2) hx hb dL_law_259 (by decide) ?_
        refine lv_iadd hx hb dL_law_260 ?_
        refine va_sld hx hb hX hbl hbA wC.2.2.1 g2 dL_law_261 ?_
        refine call0i (va_runV (As := [.int (xs (ix (v + 1))), .int (xs (ix (v + 2)))]) (rest := [.int (f_X3_ofSign σ (xs (ix (v + 1))) (xs (ix (v + 2))))]) S (c_X4_ofSign l adM D H.size τ (xs (ix (v + 1))) (xs (ix (v + 2))) okM) (cwV 2 S.2.2.2.2 gL_law_X4_ofSign rfl rfl rfl ⟨rfl, hd_X4_ofSign⟩ ⟨Nat.le_of_ble_eq_true rfl, Nat.le_of_ble_eq_true rfl⟩) (preV hKM hN wM (k := 0) (by decide) (eM_0 adM _) (q := (RX4, TX4, 25)) rfl) rfl rfl hl.1 rfl (lv_room (Nat.le_of_ble_eq_true rfl)) dL_law_262 ⟨Nat.le_of_ble_eq_true rfl, Nat.le_of_ble_eq_true rfl⟩) ?_
        have hq := q_ofSign hR hj (xs (ix (v + 1))) (xs (ix (v + 2)))
        refine lv_icmp_eq (tgt := 1402) hx hb dL_law_265 (by decide) (fun c265 => ?_) (fun c265 => ?_)
        · exact K _ _ hq.2 H locs wC wM ls hl
        · exact absurd hq.1 c265
      by_cases c33_2 : (xs (ix v) &&& 63) = 2
      · refine lv_tableIn (tgt := 270) hx hb dL_law_33 (by rw [c33_2]; decide) (by rw [c33_2]; decide) (off := 237) (by rw [c33_2]; decide) (by decide) ?_
        refine lv_aload_n hx hb dL_law_270 rfl (lv_at hl 1 rfl) ?_
        refine lv_aload_n hx hb dL_law_271 rfl (lv_at hl 0 rfl) ?_
        refine lv_iload_n hx hb dL_law_272 rfl (lv_at hl 3 rfl) ?_
        refine lv_iconst (v := 1) hx hb dL_law_273 (by decide) ?_
        refine lv_iadd hx hb dL_law_274 ?_
        refine va_sld hx hb hX hbl hbA wC.2.2.1 g1 dL_law_275 ?_
        refine lv_aload_n hx hb dL_law_276 rfl (lv_at hl 0 rfl) ?_
        refine lv_iload_n hx hb dL_law_277 rfl (lv_at hl 3 rfl) ?_
        refine lv_iconst (v := 2) hx hb dL_law_278 (by decide) ?_
        refine lv_iadd hx hb dL_law_279 ?_
        refine va_sld hx hb hX hbl hbA wC.2.2.1 g2 dL_law_280 ?_
        refine callWi2 wC wM hdis (va_runV (As := [.int (xs (ix (v + 1))), .int (xs (ix (v + 2)))]) (rest := []) S (c_X3_half l adC D H.size σ (xs (ix (v + 1))) (xs (ix (v + 2)))) (cwV 2 S.2.2.2.2 gL_law_X3_half rfl rfl rfl ⟨rfl, hd_X3_half⟩ ⟨Nat.le_of_ble_eq_true rfl, Nat.le_of_ble_eq_true rfl⟩) (preV hKC hN wC (k := 0) (by decide) (eC_0 adC _) (q := (RX3, TX3, 14)) rfl) rfl rfl hl.1 rfl (lv_room (Nat.le_of_ble_eq_true rfl)) dL_law_281 ⟨Nat.le_of_ble_eq_true rfl, Nat.le_of_ble_eq_true rfl⟩) (fun H locs wC wM => ?_)
        refine lv_aload_n hx hb dL_law_284 rfl (lv_at hl 2 rfl) ?_
        refine lv_aload_n hx hb dL_law_285 rfl (lv_at hl 0 rfl) ?_
        refine lv_iload_n hx hb dL_law_286 rfl (lv_at hl 3 rfl) ?_
        refine lv_iconst (v := 1) hx hb dL_law_287 (by decide) ?_
        refine lv_iadd hx hb dL_law_288 ?_
        refine va_sld hx hb hX hbl hbA wC.2.2.1 g1 dL_law_289 ?_
        refine lv_aload_n hx hb dL_law_290 rfl (lv_at hl 0 rfl) ?_
        refine lv_iload_n hx hb dL_law_291 rfl (lv_at hl 3 rfl) ?_
        refine lv_iconst (v := 2) hx hb dL_law_292 (by decide) ?_
        refine lv_iadd hx hb dL_law_293 ?_
        refine va_sld hx hb hX hbl hbA wC.2.2.1 g2 dL_law_294 ?_
        refine callWi2 wM wC hdis2 (va_runV (As := [.int (xs (ix (v + 1))), .int (xs (ix (v + 2)))]) (rest := [.int (f_X3_half σ (xs (ix (v + 1))) (xs (ix (v + 2)))).1]) S (c_X4_half l adM D H.size τ (xs (ix (v + 1))) (xs (ix (v + 2)))) (cwV 2 S.2.2.2.2 gL_law_X4_half rfl rfl rfl ⟨rfl, hd_X4_half⟩ ⟨Nat.le_of_ble_eq_true rfl, Nat.le_of_ble_eq_true rfl⟩) (preV hKM hN wM (k := 0) (by decide) (eM_0 adM _) (q := (RX4, TX4, 25)) rfl) rfl rfl hl.1 rfl (lv_room (Nat.le_of_ble_eq_true rfl)) dL_law_295 ⟨Nat.le_of_ble_eq_true rfl, Nat.le_of_ble_eq_true rfl⟩) (fun H locs wM wC => ?_)
        have hq := q_half hR hj (xs (ix (v + 1))) (xs (ix (v + 2)))
        refine lv_icmp_eq (tgt := 1402) hx hb dL_law_298 (by decide) (fun c298 => ?_) (fun c298 => ?_)
        · exact K _ _ hq.2 H locs wC wM ls hl
        · exact absurd hq.1 c298
      by_cases c33_3 : (xs (ix v) &&& 63) = 3
      · refine lv_tableIn (tgt := 303) hx hb dL_law_33 (by rw [c33_3]; decide) (by rw [c33_3]; decide) (off := 270) (by rw [c33_3]; decide) (by decide) ?_
        refine lv_aload_n hx hb dL_law_303 rfl (lv_at hl 1 rfl) ?_
        refine lv_aload_n hx hb dL_law_304 rfl (lv_at hl 0 rfl) ?_
        refine lv_iload_n hx hb dL_law_305 rfl (lv_at hl 3 rfl) ?_
        refine lv_iconst (v := 1) hx hb dL_law_306 (by decide) ?_
        refine lv_iadd hx hb dL_law_307 ?_
        refine va_sld hx hb hX hbl hbA wC.2.2.1 g1 dL_law_308 ?_
        refine callWi2 wC wM hdis (va_runV (As := [.int (xs (ix (v + 1)))]) (rest := []) S (c_X3_bound l adC D H.size σ (xs (ix (v + 1)))) (cwV 1 S.2.2.2.2 gL_law_X3_bound rfl rfl rfl ⟨rfl, hd_X3_bound⟩ ⟨Nat.le_of_ble_eq_true rfl, Nat.le_of_ble_eq_true rfl⟩) (preV hKC hN wC (k := 0) (by decide) (eC_0 adC _) (q := (RX3, TX3, 14)) rfl) rfl rfl hl.1 rfl (lv_room (Nat.le_of_ble_eq_true rfl)) dL_law_309 ⟨Nat.le_of_ble_eq_true rfl, Nat.le_of_ble_eq_true rfl⟩) (fun H locs wC wM => ?_)
        refine lv_aload_n hx hb dL_law_312 rfl (lv_at hl 2 rfl) ?_
        refine lv_aload_n hx hb dL_law_313 rfl (lv_at hl 0 rfl) ?_
        refine lv_iload_n hx hb dL_law_314 rfl (lv_at hl 3 rfl) ?_
        refine lv_iconst (v := 1) hx hb dL_law_315 (by decide) ?_
        refine lv_iadd hx hb dL_law_316 ?_
        refine va_sld hx hb hX hbl hbA wC.2.2.1 g1 dL_law_317 ?_
        refine callWi2 wM wC hdis2 (va_runV (As := [.int (xs (ix (v + 1)))]) (rest := [.int (f_X3_bound σ (xs (ix (v + 1)))).1]) S (c_X4_bound l adM D H.size τ (xs (ix (v + 1)))) (cwV 1 S.2.2.2.2 gL_law_X4_bound rfl rfl rfl ⟨rfl, hd_X4_bound⟩ ⟨Nat.le_of_ble_eq_true rfl, Nat.le_of_ble_eq_true rfl⟩) (preV hKM hN wM (k := 0) (by decide) (eM_0 adM _) (q := (RX4, TX4, 25)) rfl) rfl rfl hl.1 rfl (lv_room (Nat.le_of_ble_eq_true rfl)) dL_law_318 ⟨Nat.le_of_ble_eq_true rfl, Nat.le_of_ble_eq_true rfl⟩) (fun H locs wM wC => ?_)
        have hq := q_bound hR hj (xs (ix (v + 1)))
        refine lv_icmp_eq (tgt := 1402) hx hb dL_law_321 (by decide) (fun c321 => ?_) (fun c321 => ?_)
        · exact K _ _ hq.2 H locs wC wM ls hl
        · exact absurd hq.1 c321
      by_cases c33_4 : (xs (ix v) &&& 63) = 4
      · refine lv_tableIn (tgt := 326) hx hb dL_law_33 (by rw [c33_4]; decide) (by rw [c33_4]; decide) (off := 293) (by rw [c33_4]; decide) (by decide) ?_
        refine lv_aload_n hx hb dL_law_326 rfl (lv_at hl 1 rfl) ?_
        refine lv_aload_n hx hb dL_law_327 rfl (lv_at hl 0 rfl) ?_
        refine lv_iload_n hx hb dL_law_328 rfl (lv_at hl 3 rfl) ?_
        refine lv_iconst (v := 1) hx hb dL_law_329 (by decide) ?_
        refine lv_iadd hx hb dL_law_330 ?_
        refine va_sld hx hb hX hbl hbA wC.2.2.1 g1 dL_law_331 ?_
        refine callWi2 wC wM hdis (va_runV (As := [.int (xs (ix (v + 1)))]) (rest := []) S (c_X3_year l adC D H.size σ (xs (ix (v + 1)))) (cwV 1 S.2.2.2.2 gL_law_X3_year rfl rfl rfl ⟨rfl, hd_X3_year⟩ ⟨Nat.le_of_ble_eq_true rfl, Nat.le_of_ble_eq_true rfl⟩) (preV hKC hN wC (k := 0) (by decide) (eC_0 adC _) (q := (RX3, TX3, 14)) rfl) rfl rfl hl.1 rfl (lv_room (Nat.le_of_ble_eq_true rfl)) dL_law_332 ⟨Nat.le_of_ble_eq_true rfl, Nat.le_of_ble_eq_true rfl⟩) (fun H locs wC wM => ?_)
        refine lv_aload_n hx hb dL_law_335 rfl (lv_at hl 2 rfl) ?_
        refine lv_aload_n hx hb dL_law_336 rfl (lv_at hl 0 rfl) ?_
        refine lv_iload_n hx hb dL_law_337 rfl (lv_at hl 3 rfl) ?_
        refine lv_iconst (v := 1) hx hb dL_law_338 (by decide) ?_
        refine lv_iadd hx hb dL_law_339 ?_
        refine va_sld hx hb hX hbl hbA wC.2.2.1 g1 dL_law_340 ?_
        refine callWi2 wM wC hdis2 (va_runV (As := [.int (xs (ix (v + 1)))]) (rest := [.int (f_X3_year σ (xs (ix (v + 1)))).1]) S (c_X4_year l adM D H.size τ (xs (ix (v + 1)))) (cwV 1 S.2.2.2.2 gL_law_X4_year rfl rfl rfl ⟨rfl, hd_X4_year⟩ ⟨Nat.le_of_ble_eq_true rfl, Nat.le_of_ble_eq_true rfl⟩) (preV hKM hN wM (k := 0) (by decide) (eM_0 adM _) (q := (RX4, TX4, 25)) rfl) rfl rfl hl.1 rfl (lv_room (Nat.le_of_ble_eq_true rfl)) dL_law_341 ⟨Nat.le_of_ble_eq_true rfl, Nat.le_of_ble_eq_true rfl⟩) (fun H locs wM wC => ?_)
        have hq := q_year hR hj (xs (ix (v + 1)))
        refine lv_icmp_eq (tgt := 1402) hx hb dL_law_344 (by decide) (fun c344 => ?_) (fun c344 => ?_)
        · exact K _ _ hq.2 H locs wC wM ls hl
        · exact absurd hq.1 c344
      by_cases c33_5 : (xs (ix v) &&& 63) = 5
      · refine lv_tableIn (tgt := 349) hx hb dL_law_33 (by rw [c33_5]; decide) (by rw [c33_5]; decide) (off := 316) (by rw [c33_5]; decide) (by decide) ?_
        refine lv_aload_n hx hb dL_law_349 rfl (lv_at hl 1 rfl) ?_
        refine lv_aload_n hx hb dL_law_350 rfl (lv_at hl 0 rfl) ?_
        refine lv_iload_n hx hb dL_law_351 rfl (lv_at hl 3 rfl) ?_
        refine lv_iconst (v := 1) hx hb dL_law_352 (by decide) ?_
        refine lv_iadd hx hb dL_law_353 ?_
        refine va_sld hx hb hX hbl hbA wC.2.2.1 g1 dL_law_354 ?_
        refine lv_aload_n hx hb dL_law_355 rfl (lv_at hl 0 rfl) ?_
        refine lv_iload_n hx hb dL_law_356 rfl (lv_at hl 3 rfl) ?_
        refine lv_iconst (v := 2) hx hb dL_law_357 (by decide) ?_
        refine lv_iadd hx hb dL_law_358 ?_
        refine va_sld hx hb hX hbl hbA wC.2.2.1 g2 dL_law_359 ?_
        refine lv_aload_n hx hb dL_law_360 rfl (lv_at hl 0 rfl) ?_
        refine lv_iload_n hx hb dL_law_361 rfl (lv_at hl 3 rfl) ?_
        refine lv_iconst (v := 3) hx hb dL_law_362 (by decide) ?_
        refine lv_iadd hx hb dL_law_363 ?_
        refine va_sld hx hb hX hbl hbA wC.2.2.1 g3 dL_law_364 ?_
        refine lv_aload_n hx hb dL_law_365 rfl (lv_at hl 0 rfl) ?_
        refine lv_iload_n hx hb dL_law_366 rfl (lv_at hl 3 rfl) ?_
        refine lv_iconst (v := 4) hx hb dL_law_367 (by decide) ?_
        refine lv_iadd hx hb dL_law_368 ?_
        refine va_sld hx hb hX hbl hbA wC.2.2.1 g4 dL_law_369 ?_
        refine call0i (va_runV (As := [.int (xs (ix (v + 1))), .int (xs (ix (v + 2))), .int (xs (ix (v + 3))), .int (xs (ix (v + 4)))]) (rest := []) S (c_X3_faded l adC D H.size σ (xs (ix (v + 1))) (xs (ix (v + 2))) (xs (ix (v + 3))) (xs (ix (v + 4))) okC) (cwV 4 S.2.2.2.2 gL_law_X3_faded rfl rfl rfl ⟨rfl, hd_X3_faded⟩ ⟨Nat.le_of_ble_eq_true rfl, Nat.le_of_ble_eq_true rfl⟩) (preV hKC hN wC (k := 0) (by decide) (eC_0 adC _) (q := (RX3, TX3, 14)) rfl) rfl rfl hl.1 rfl (lv_room (Nat.le_of_ble_eq_true rfl)) dL_law_370 ⟨Nat.le_of_ble_eq_true rfl, Nat.le_of_ble_eq_true rfl⟩) ?_
        refine lv_aload_n hx hb dL_law_373 rfl (lv_at hl 2 rfl) ?_
        refine lv_aload_n hx hb dL_law_374 rfl (lv_at hl 0 rfl) ?_
        refine lv_iload_n hx hb dL_law_375 rfl (lv_at hl 3 rfl) ?_
        refine lv_iconst (v := 1) hx hb dL_law_376 (by decide) ?_
        refine lv_iadd hx hb dL_law_377 ?_
        refine va_sld hx hb hX hbl hbA wC.2.2.1 g1 dL_law_378 ?_
        refine lv_aload_n hx hb dL_law_379 rfl (lv_at hl 0 rfl) ?_
        refine lv_iload_n hx hb dL_law_380 rfl (lv_at hl 3 rfl) ?_
        refine lv_iconst (v := 2) hx hb dL_law_381 (by decide) ?_
        refine lv_iadd hx hb dL_law_382 ?_
        refine va_sld hx hb hX hbl hbA wC.2.2.1 g2 dL_law_383 ?_
        refine lv_aload_n hx hb dL_law_384 rfl (lv_at hl 0 rfl) ?_
        refine lv_iload_n hx hb dL_law_385 rfl (lv_at hl 3 rfl) ?_
        refine lv_iconst (v := 3) hx hb dL_law_386 (by decide) ?_
        refine lv_iadd hx hb dL_law_387 ?_
        refine va_sld hx hb hX hbl hbA wC.2.2.1 g3 dL_law_388 ?_
        refine lv_aload_n hx hb dL_law_389 rfl (lv_at hl 0 rfl) ?_
        refine lv_iload_n hx hb dL_law_390 rfl (lv_at hl 3 rfl) ?_
        refine lv_iconst (v := 4) hx hb dL_law_391 (by decide) ?_
        refine lv_iadd hx hb dL_law_392 ?_
        refine va_sld hx hb hX hbl hbA wC.2.2.1 g4 dL_law_393 ?_
        refine call0i (va_runV (As := [.int (xs (ix (v + 1))), .int (xs (ix (v + 2))), .int (xs (ix (v + 3))), .int (xs (ix (v + 4)))]) (rest := [.int (f_X3_faded σ (xs (ix (v + 1))) (xs (ix (v + 2))) (xs (ix (v + 3))) (xs (ix (v + 4))))]) S (c_X4_faded l adM D H.size τ (xs (ix (v + 1))) (xs (ix (v + 2))) (xs (ix (v + 3))) (xs (ix (v + 4))) okM) (cwV 4 S.2.2.2.2 gL_law_X4_faded rfl rfl rfl ⟨rfl, hd_X4_faded⟩ ⟨Nat.le_of_ble_eq_true rfl, Nat.le_of_ble_eq_true rfl⟩) (preV hKM hN wM (k := 0) (by decide) (eM_0 adM _) (q := (RX4, TX4, 25)) rfl) rfl rfl hl.1 rfl (lv_room (Nat.le_of_ble_eq_true rfl)) dL_law_394 ⟨Nat.le_of_ble_eq_true rfl, Nat.le_of_ble_eq_true rfl⟩) ?_
        have hq := q_faded hR hj (xs (ix (v + 1))) (xs (ix (v + 2))) (xs (ix (v + 3))) (xs (ix (v + 4)))
        refine lv_icmp_eq (tgt := 1402) hx hb dL_law_397 (by decide) (fun c397 => ?_) (fun c397 => ?_)
        · exact K _ _ hq.2 H locs wC wM ls hl
        · exact absurd hq.1 c397
      by_cases c33_6 : (xs (ix v) &&& 63) = 6
      · refine lv_tableIn (tgt := 402) hx hb dL_law_33 (by rw [c33_6]; decide) (by rw [c33_6]; decide) (off := 369) (by rw [c33_6]; decide) (by decide) ?_
        refine lv_aload_n hx hb dL_law_402 rfl (lv_at hl 1 rfl) ?_
        refine lv_aload_n hx hb dL_law_403 rfl (lv_at hl 0 rfl) ?_
        refine lv_iload_n hx hb dL_law_404 rfl (lv_at hl 3 rfl) ?_
        refine lv_iconst (v := 1) hx hb dL_law_405 (by decide) ?_
        refine lv_iadd hx hb dL_law_406 ?_
        refine va_sld hx hb hX hbl hbA wC.2.2.1 g1 dL_law_407 ?_
        refine lv_aload_n hx hb dL_law_408 rfl (lv_at hl 0 rfl) ?_
        refine lv_iload_n hx hb dL_law_409 rfl (lv_at hl 3 rfl) ?_
        refine lv_iconst (v := 2) hx hb dL_law_410 (by decide) ?_
        refine lv_iadd hx hb dL_law_411 ?_
        refine va_sld hx hb hX hbl hbA wC.2.2.1 g2 dL_law_412 ?_
        refine lv_aload_n hx hb dL_law_413 rfl (lv_at hl 0 rfl) ?_
        refine lv_iload_n hx hb dL_law_414 rfl (lv_at hl 3 rfl) ?_
        refine lv_iconst (v := 3) hx hb dL_law_415 (by decide) ?_
        refine lv_iadd hx hb dL_law_416 ?_
        refine va_sld hx hb hX hbl hbA wC.2.2.1 g3 dL_law_417 ?_
        refine callWi2 wC wM hdis (va_runV (As := [.int (xs (ix (v + 1))), .int (xs (ix (v + 2))), .int (xs (ix (v + 3)))]) (rest := []) S (c_X3_paper l adC D H.size σ (xs (ix (v + 1))) (xs (ix (v + 2))) (xs (ix (v + 3))) okC) (cwV 3 S.2.2.2.2 gL_law_X3_paper rfl rfl rfl ⟨rfl, hd_X3_paper⟩ ⟨Nat.le_of_ble_eq_true rfl, Nat.le_of_ble_eq_true rfl⟩) (preV hKC hN wC (k := 0) (by decide) (eC_0 adC _) (q := (RX3, TX3, 14)) rfl) rfl rfl hl.1 rfl (lv_room (Nat.le_of_ble_eq_true rfl)) dL_law_418 ⟨Nat.le_of_ble_eq_true rfl, Nat.le_of_ble_eq_true rfl⟩) (fun H locs wC wM => ?_)
        refine lv_aload_n hx hb dL_law_421 rfl (lv_at hl 2 rfl) ?_
        refine lv_aload_n hx hb dL_law_422 rfl (lv_at hl 0 rfl) ?_
        refine lv_iload_n hx hb dL_law_423 rfl (lv_at hl 3 rfl) ?_
        refine lv_iconst (v := 1) hx hb dL_law_424 (by decide) ?_
        refine lv_iadd hx hb dL_law_425 ?_
        refine va_sld hx hb hX hbl hbA wC.2.2.1 g1 dL_law_426 ?_
        refine lv_aload_n hx hb dL_law_427 rfl (lv_at hl 0 rfl) ?_
        refine lv_iload_n hx hb dL_law_428 rfl (lv_at hl 3 rfl) ?_
        refine lv_iconst (v := 2) hx hb dL_law_429 (by decide) ?_
        refine lv_iadd hx hb dL_law_430 ?_
        refine va_sld hx hb hX hbl hbA wC.2.2.1 g2 dL_law_431 ?_
        refine lv_aload_n hx hb dL_law_432 rfl (lv_at hl 0 rfl) ?_
        refine lv_iload_n hx hb dL_law_433 rfl (lv_at hl 3 rfl) ?_
        refine lv_iconst (v := 3) hx hb dL_law_434 (by decide) ?_
        refine lv_iadd hx hb dL_law_435 ?_
        refine va_sld hx hb hX hbl hbA wC.2.2.1 g3 dL_law_436 ?_
        refine callWi2 wM wC hdis2 (va_runV (As := [.int (xs (ix (v + 1))), .int (xs (ix (v + 2))), .int (xs (ix (v + 3)))]) (rest := [.int (f_X3_paper σ (xs (ix (v + 1))) (xs (ix (v + 2))) (xs (ix (v + 3)))).1]) S (c_X4_paper l adM D H.size τ (xs (ix (v + 1))) (xs (ix (v + 2))) (xs (ix (v + 3))) okM) (cwV 3 S.2.2.2.2 gL_law_X4_paper rfl rfl rfl ⟨rfl, hd_X4_paper⟩ ⟨Nat.le_of_ble_eq_true rfl, Nat.le_of_ble_eq_true rfl⟩) (preV hKM hN wM (k := 0) (by decide) (eM_0 adM _) (q := (RX4, TX4, 25)) rfl) rfl rfl hl.1 rfl (lv_room (Nat.le_of_ble_eq_true rfl)) dL_law_437 ⟨Nat.le_of_ble_eq_true rfl, Nat.le_of_ble_eq_true rfl⟩) (fun H locs wM wC => ?_)
        have hq := q_paper hR hj (xs (ix (v + 1))) (xs (ix (v + 2))) (xs (ix (v + 3)))
        refine lv_icmp_eq (tgt := 1402) hx hb dL_law_440 (by decide) (fun c440 => ?_) (fun c440 => ?_)
        · exact K _ _ hq.2 H locs wC wM ls hl
        · exact absurd hq.1 c440
      by_cases c33_7 : (xs (ix v) &&& 63) = 7
      · refine lv_tableIn (tgt := 445) hx hb dL_law_33 (by rw [c33_7]; decide) (by rw [c33_7]; decide) (off := 412) (by rw [c33_7]; decide) (by decide) ?_
        refine lv_aload_n hx hb dL_law_445 rfl (lv_at hl 1 rfl) ?_
        refine lv_aload_n hx hb dL_law_446 rfl (lv_at hl 0 rfl) ?_
        refine lv_iload_n hx hb dL_law_447 rfl (lv_at hl 3 rfl) ?_
        refine lv_iconst (v := 1) hx hb dL_law_448 (by decide) ?_
        refine lv_iadd hx hb dL_law_449 ?_
        refine va_sld hx hb hX hbl hbA wC.2.2.1 g1 dL_law_450 ?_
        refine lv_aload_n hx hb dL_law_451 rfl (lv_at hl 0 rfl) ?_
        refine lv_iload_n hx hb dL_law_452 rfl (lv_at hl 3 rfl) ?_
        refine lv_iconst (v := 2) hx hb dL_law_453 (by decide) ?_
        refine lv_iadd hx hb dL_law_454 ?_
        refine va_sld hx hb hX hbl hbA wC.2.2.1 g2 dL_law_455 ?_
        refine call0i (va_runV (As := [.int (xs (ix (v + 1))), .int (xs (ix (v + 2)))]) (rest := []) S (c_X3_ofPaper l adC D H.size σ (xs (ix (v + 1))) (xs (ix (v + 2))) okC) (cwV 2 S.2.2.2.2 gL_law_X3_ofPaper rfl rfl rfl ⟨rfl, hd_X3_ofPaper⟩ ⟨Nat.le_of_ble_eq_true rfl, Nat.le_of_ble_eq_true rfl⟩) (preV hKC hN wC (k := 0) (by decide) (eC_0 adC _) (q := (RX3, TX3, 14)) rfl) rfl rfl hl.1 rfl (lv_room (Nat.le_of_ble_eq_true rfl)) dL_law_456 ⟨Nat.le_of_ble_eq_true rfl, Nat.le_of_ble_eq_true rfl⟩) ?_
        refine lv_aload_n hx hb dL_law_459 rfl (lv_at hl 2 rfl) ?_
        refine lv_aload_n hx hb dL_law_460 rfl (lv_at hl 0 rfl) ?_
        refine lv_iload_n hx hb dL_law_461 rfl (lv_at hl 3 rfl) ?_
        refine lv_iconst (v := 1) hx hb dL_law_462 (by decide) ?_
        refine lv_iadd hx hb dL_law_463 ?_
        refine va_sld hx hb hX hbl hbA wC.2.2.1 g1 dL_law_464 ?_
        refine lv_aload_n hx hb dL_law_465 rfl (lv_at hl 0 rfl) ?_
        refine lv_iload_n hx hb dL_law_466 rfl (lv_at hl 3 rfl) ?_
        refine lv_iconst (v := 2) hx hb dL_law_467 (by decide) ?_
        refine lv_iadd hx hb dL_law_468 ?_
        refine va_sld hx hb hX hbl hbA wC.2.2.1 g2 dL_law_469 ?_
        refine call0i (va_runV (As := [.int (xs (ix (v + 1))), .int (xs (ix (v + 2)))]) (rest := [.int (f_X3_ofPaper σ (xs (ix (v + 1))) (xs (ix (v + 2))))]) S (c_X4_ofPaper l adM D H.size τ (xs (ix (v + 1))) (xs (ix (v + 2))) okM) (cwV 2 S.2.2.2.2 gL_law_X4_ofPaper rfl rfl rfl ⟨rfl, hd_X4_ofPaper⟩ ⟨Nat.le_of_ble_eq_true rfl, Nat.le_of_ble_eq_true rfl⟩) (preV hKM hN wM (k := 0) (by decide) (eM_0 adM _) (q := (RX4, TX4, 25)) rfl) rfl rfl hl.1 rfl (lv_room (Nat.le_of_ble_eq_true rfl)) dL_law_470 ⟨Nat.le_of_ble_eq_true rfl, Nat.le_of_ble_eq_true rfl⟩) ?_
        have hq := q_ofPaper hR hj (xs (ix (v + 1))) (xs (ix (v + 2)))
        refine lv_icmp_eq (tgt := 1402) hx hb dL_law_473 (by decide) (fun c473 => ?_) (fun c473 => ?_)
        · exact K _ _ hq.2 H locs wC wM ls hl
        · exact absurd hq.1 c473
      by_cases c33_8 : (xs (ix v) &&& 63) = 8
      · refine lv_tableIn (tgt := 478) hx hb dL_law_33 (by rw [c33_8]; decide) (by rw [c33_8]; decide) (off := 445) (by rw [c33_8]; decide) (by decide) ?_
        refine lv_aload_n hx hb dL_law_478 rfl (lv_at hl 1 rfl) ?_
        refine lv_aload_n hx hb dL_law_479 rfl (lv_at hl 0 rfl) ?_
        refine lv_iload_n hx hb dL_law_480 rfl (lv_at hl 3 rfl) ?_
        refine lv_iconst (v := 1) hx hb dL_law_481 (by decide) ?_
        refine lv_iadd hx hb dL_law_482 ?_
        refine va_sld hx hb hX hbl hbA wC.2.2.1 g1 dL_law_483 ?_
        refine lv_aload_n hx hb dL_law_484 rfl (lv_at hl 0 rfl) ?_
        refine lv_iload_n hx hb dL_law_485 rfl (lv_at hl 3 rfl) ?_
        refine lv_iconst (v := 2) hx hb dL_law_486 (by decide) ?_
        refine lv_iadd hx hb dL_law_487 ?_
        refine va_sld hx hb hX hbl hbA wC.2.2.1 g2 dL_law_488 ?_
        refine lv_aload_n hx hb dL_law_489 rfl (lv_at hl 0 rfl) ?_
        refine lv_iload_n hx hb dL_law_490 rfl (lv_at hl 3 rfl) ?_
        refine lv_iconst (v := 3) hx hb dL_law_491 (by decide) ?_
        refine lv_iadd hx hb dL_law_492 ?_
        refine va_sld hx hb hX hbl hbA wC.2.2.1 g3 dL_law_493 ?_
        refine call0i (va_runV (As := [.int (xs (ix (v + 1))), .int (xs (ix (v + 2))), .int (xs (ix (v + 3)))]) (rest := []) S (c_X3_smells l adC D H.size σ (xs (ix (v + 1))) (xs (ix (v + 2))) (xs (ix (v + 3))) okC) (cwV 3 S.2.2.2.2 gL_law_X3_smells rfl rfl rfl ⟨rfl, hd_X3_smells⟩ ⟨Nat.le_of_ble_eq_true rfl, Nat.le_of_ble_eq_true rfl⟩) (preV hKC hN wC (k := 0) (by decide) (eC_0 adC _) (q := (RX3, TX3, 14)) rfl) rfl rfl hl.1 rfl (lv_room (Nat.le_of_ble_eq_true rfl)) dL_law_494 ⟨Nat.le_of_ble_eq_true rfl, Nat.le_of_ble_eq_true rfl⟩) ?_
        refine lv_aload_n hx hb dL_law_497 rfl (lv_at hl 2 rfl) ?_
        refine lv_aload_n hx hb dL_law_498 rfl (lv_at hl 0 rfl) ?_
        refine lv_iload_n hx hb dL_law_499 rfl (lv_at hl 3 rfl) ?_
        refine lv_iconst (v := 1) hx hb dL_law_500 (by decide) ?_
        refine lv_iadd hx hb dL_law_501 ?_
        refine va_sld hx hb hX hbl hbA wC.2.2.1 g1 dL_law_502 ?_
        refine lv_aload_n hx hb dL_law_503 rfl (lv_at hl 0 rfl) ?_
        refine lv_iload_n hx hb dL_law_504 rfl (lv_at hl 3 rfl) ?_
        refine lv_iconst (v := 2) hx hb dL_law_505 (by decide) ?_
        refine lv_iadd hx hb dL_law_506 ?_
        refine va_sld hx hb hX hbl hbA wC.2.2.1 g2 dL_law_507 ?_
        refine lv_aload_n hx hb dL_law_508 rfl (lv_at hl 0 rfl) ?_
        refine lv_iload_n hx hb dL_law_509 rfl (lv_at hl 3 rfl) ?_
        refine lv_iconst (v := 3) hx hb dL_law_510 (by decide) ?_
        refine lv_iadd hx hb dL_law_511 ?_
        refine va_sld hx hb hX hbl hbA wC.2.2.1 g3 dL_law_512 ?_
        refine call0i (va_runV (As := [.int (xs (ix (v + 1))), .int (xs (ix (v + 2))), .int (xs (ix (v + 3)))]) (rest := [.int (f_X3_smells σ (xs (ix (v + 1))) (xs (ix (v + 2))) (xs (ix (v + 3))))]) S (c_X4_smells l adM D H.size τ (xs (ix (v + 1))) (xs (ix (v + 2))) (xs (ix (v + 3))) okM) (cwV 3 S.2.2.2.2 gL_law_X4_smells rfl rfl rfl ⟨rfl, hd_X4_smells⟩ ⟨Nat.le_of_ble_eq_true rfl, Nat.le_of_ble_eq_true rfl⟩) (preV hKM hN wM (k := 0) (by decide) (eM_0 adM _) (q := (RX4, TX4, 25)) rfl) rfl rfl hl.1 rfl (lv_room (Nat.le_of_ble_eq_true rfl)) dL_law_513 ⟨Nat.le_of_ble_eq_true rfl, Nat.le_of_ble_eq_true rfl⟩) ?_
        have hq := q_smells hR hj (xs (ix (v + 1))) (xs (ix (v + 2))) (xs (ix (v + 3)))
        refine lv_icmp_eq (tgt := 1402) hx hb dL_law_516 (by decide) (fun c516 => ?_) (fun c516 => ?_)
        · exact K _ _ hq.2 H locs wC wM ls hl
        · exact absurd hq.1 c516
      by_cases c33_9 : (xs (ix v) &&& 63) = 9
      · refine lv_tableIn (tgt := 521) hx hb dL_law_33 (by rw [c33_9]; decide) (by rw [c33_9]; decide) (off := 488) (by rw [c33_9]; decide) (by decide) ?_
        refine lv_aload_n hx hb dL_law_521 rfl (lv_at hl 1 rfl) ?_
        refine lv_aload_n hx hb dL_law_522 rfl (lv_at hl 0 rfl) ?_
        refine lv_iload_n hx hb dL_law_523 rfl (lv_at hl 3 rfl) ?_
        refine lv_iconst (v := 1) hx hb dL_law_524 (by decide) ?_
        refine lv_iadd hx hb dL_law_525 ?_
        refine va_sld hx hb hX hbl hbA wC.2.2.1 g1 dL_law_526 ?_
        refine lv_aload_n hx hb dL_law_527 rfl (lv_at hl 0 rfl) ?_
        refine lv_iload_n hx hb dL_law_528 rfl (lv_at hl 3 rfl) ?_
        refine lv_iconst (v := 2) hx hb dL_law_529 (by decide) ?_
        refine lv_iadd hx hb dL_law_530 ?_
        refine va_sld hx hb hX hbl hbA wC.2.2.1 g2 dL_law_531 ?_
        refine callWi2 wC wM hdis (va_runV (As := [.int (xs (ix (v + 1))), .int (xs (ix (v + 2)))]) (rest := []) S (c_X3_wash l adC D H.size σ (xs (ix (v + 1))) (xs (ix (v + 2))) okC) (cwV 2 S.2.2.2.2 gL_law_X3_wash rfl rfl rfl ⟨rfl, hd_X3_wash⟩ ⟨Nat.le_of_ble_eq_true rfl, Nat.le_of_ble_eq_true rfl⟩) (preV hKC hN wC (k := 0) (by decide) (eC_0 adC _) (q := (RX3, TX3, 14)) rfl) rfl rfl hl.1 rfl (lv_room (Nat.le_of_ble_eq_true rfl)) dL_law_532 ⟨Nat.le_of_ble_eq_true rfl, Nat.le_of_ble_eq_true rfl⟩) (fun H locs wC wM => ?_)
        refine lv_aload_n hx hb dL_law_535 rfl (lv_at hl 2 rfl) ?_
        refine lv_aload_n hx hb dL_law_536 rfl (lv_at hl 0 rfl) ?_
        refine lv_iload_n hx hb dL_law_537 rfl (lv_at hl 3 rfl) ?_
        refine lv_iconst (v := 1) hx hb dL_law_538 (by decide) ?_
        refine lv_iadd hx hb dL_law_539 ?_
        refine va_sld hx hb hX hbl hbA wC.2.2.1 g1 dL_law_540 ?_
        refine lv_aload_n hx hb dL_law_541 rfl (lv_at hl 0 rfl) ?_
        refine lv_iload_n hx hb dL_law_542 rfl (lv_at hl 3 rfl) ?_
        refine lv_iconst (v := 2) hx hb dL_law_543 (by decide) ?_
        refine lv_iadd hx hb dL_law_544 ?_
        refine va_sld hx hb hX hbl hbA wC.2.2.1 g2 dL_law_545 ?_
        refine callWi2 wM wC hdis2 (va_runV (As := [.int (xs (ix (v + 1))), .int (xs (ix (v + 2)))]) (rest := [.int (f_X3_wash σ (xs (ix (v + 1))) (xs (ix (v + 2)))).1]) S (c_X4_wash l adM D H.size τ (xs (ix (v + 1))) (xs (ix (v + 2))) okM) (cwV 2 S.2.2.2.2 gL_law_X4_wash rfl rfl rfl ⟨rfl, hd_X4_wash⟩ ⟨Nat.le_of_ble_eq_true rfl, Nat.le_of_ble_eq_true rfl⟩) (preV hKM hN wM (k := 0) (by decide) (eM_0 adM _) (q := (RX4, TX4, 25)) rfl) rfl rfl hl.1 rfl (lv_room (Nat.le_of_ble_eq_true rfl)) dL_law_546 ⟨Nat.le_of_ble_eq_true rfl, Nat.le_of_ble_eq_true rfl⟩) (fun H locs wM wC => ?_)
        have hq := q_wash hR hj (xs (ix (v + 1))) (xs (ix (v + 2)))
        refine lv_icmp_eq (tgt := 1402) hx hb dL_law_549 (by decide) (fun c549 => ?_) (fun c549 => ?_)
        · exact K _ _ hq.2 H locs wC wM ls hl
        · exact absurd hq.1 c549
      by_cases c33_10 : (xs (ix v) &&& 63) = 10
      · refine lv_tableIn (tgt := 554) hx hb dL_law_33 (by rw [c33_10]; decide) (by rw [c33_10]; decide) (off := 521) (by rw [c33_10]; decide) (by decide) ?_
        refine lv_aload_n hx hb dL_law_554 rfl (lv_at hl 1 rfl) ?_
        refine lv_aload_n hx hb dL_law_555 rfl (lv_at hl 0 rfl) ?_
        refine lv_iload_n hx hb dL_law_556 rfl (lv_at hl 3 rfl) ?_
        refine lv_iconst (v := 1) hx hb dL_law_557 (by decide) ?_
        refine lv_iadd hx hb dL_law_558 ?_
        refine va_sld hx hb hX hbl hbA wC.2.2.1 g1 dL_law_559 ?_
        refine callWi2 wC wM hdis (va_runV (As := [.int (xs (ix (v + 1)))]) (rest := []) S (c_X3_flood l adC D H.size σ (xs (ix (v + 1))) okC) (cwV 1 S.2.2.2.2 gL_law_X3_flood rfl rfl rfl ⟨rfl, hd_X3_flood⟩ ⟨Nat.le_of_ble_eq_true rfl, Nat.le_of_ble_eq_true rfl⟩) (preV hKC hN wC (k := 0) (by decide) (eC_0 adC _) (q := (RX3, TX3, 14)) rfl) rfl rfl hl.1 rfl (lv_room (Nat.le_of_ble_eq_true rfl)) dL_law_560 ⟨Nat.le_of_ble_eq_true rfl, Nat.le_of_ble_eq_true rfl⟩) (fun H locs wC wM => ?_)
        refine lv_aload_n hx hb dL_law_563 rfl (lv_at hl 2 rfl) ?_
        refine lv_aload_n hx hb dL_law_564 rfl (lv_at hl 0 rfl) ?_
        refine lv_iload_n hx hb dL_law_565 rfl (lv_at hl 3 rfl) ?_
        refine lv_iconst (v := 1) hx hb dL_law_566 (by decide) ?_
        refine lv_iadd hx hb dL_law_567 ?_
        refine va_sld hx hb hX hbl hbA wC.2.2.1 g1 dL_law_568 ?_
        refine callWi2 wM wC hdis2 (va_runV (As := [.int (xs (ix (v + 1)))]) (rest := [.int (f_X3_flood σ (xs (ix (v + 1)))).1]) S (c_X4_flood l adM D H.size τ (xs (ix (v + 1))) okM) (cwV 1 S.2.2.2.2 gL_law_X4_flood rfl rfl rfl ⟨rfl, hd_X4_flood⟩ ⟨Nat.le_of_ble_eq_true rfl, Nat.le_of_ble_eq_true rfl⟩) (preV hKM hN wM (k := 0) (by decide) (eM_0 adM _) (q := (RX4, TX4, 25)) rfl) rfl rfl hl.1 rfl (lv_room (Nat.le_of_ble_eq_true rfl)) dL_law_569 ⟨Nat.le_of_ble_eq_true rfl, Nat.le_of_ble_eq_true rfl⟩) (fun H locs wM wC => ?_)
        have hq := q_flood hR hj (xs (ix (v + 1)))
        refine lv_icmp_eq (tgt := 1402) hx hb dL_law_572 (by decide) (fun c572 => ?_) (fun c572 => ?_)
        · exact K _ _ hq.2 H locs wC wM ls hl
        · exact absurd hq.1 c572
      by_cases c33_11 : (xs (ix v) &&& 63) = 11
      · refine lv_tableIn (tgt := 577) hx hb dL_law_33 (by rw [c33_11]; decide) (by rw [c33_11]; decide) (off := 544) (by rw [c33_11]; decide) (by decide) ?_
        refine lv_aload_n hx hb dL_law_577 rfl (lv_at hl 1 rfl) ?_
        refine lv_aload_n hx hb dL_law_578 rfl (lv_at hl 0 rfl) ?_
        refine lv_iload_n hx hb dL_law_579 rfl (lv_at hl 3 rfl) ?_
        refine lv_iconst (v := 1) hx hb dL_law_580 (by decide) ?_
        refine lv_iadd hx hb dL_law_581 ?_
        refine va_sld hx hb hX hbl hbA wC.2.2.1 g1 dL_law_582 ?_
        refine lv_aload_n hx hb dL_law_583 rfl (lv_at hl 0 rfl) ?_
        refine lv_iload_n hx hb dL_law_584 rfl (lv_at hl 3 rfl) ?_
        refine lv_iconst (v := 2) hx hb dL_law_585 (by decide) ?_
        refine lv_iadd hx hb dL_law_586 ?_
        refine va_sld hx hb hX hbl hbA wC.2.2.1 g2 dL_law_587 ?_
        refine lv_aload_n hx hb dL_law_588 rfl (lv_at hl 0 rfl) ?_
        refine lv_iload_n hx hb dL_law_589 rfl (lv_at hl 3 rfl) ?_
        refine lv_iconst (v := 3) hx hb dL_law_590 (by decide) ?_
        refine lv_iadd hx hb dL_law_591 ?_
        refine va_sld hx hb hX hbl hbA wC.2.2.1 g3 dL_law_592 ?_
        refine callWi2 wC wM hdis (va_runV (As := [.int (xs (ix (v + 1))), .int (xs (ix (v + 2))), .int (xs (ix (v + 3)))]) (rest := []) S (c_X3_far l adC D H.size σ (xs (ix (v + 1))) (xs (ix (v + 2))) (xs (ix (v + 3))) okC) (cwV 3 S.2.2.2.2 gL_law_X3_far rfl rfl rfl ⟨rfl, hd_X3_far⟩ ⟨Nat.le_of_ble_eq_true rfl, Nat.le_of_ble_eq_true rfl⟩) (preV hKC hN wC (k := 0) (by decide) (eC_0 adC _) (q := (RX3, TX3, 14)) rfl) rfl rfl hl.1 rfl (lv_room (Nat.le_of_ble_eq_true rfl)) dL_law_593 ⟨Nat.le_of_ble_eq_true rfl, Nat.le_of_ble_eq_true rfl⟩) (fun H locs wC wM => ?_)
        refine lv_aload_n hx hb dL_law_596 rfl (lv_at hl 2 rfl) ?_
        refine lv_aload_n hx hb dL_law_597 rfl (lv_at hl 0 rfl) ?_
        refine lv_iload_n hx hb dL_law_598 rfl (lv_at hl 3 rfl) ?_
        refine lv_iconst (v := 1) hx hb dL_law_599 (by decide) ?_
        refine lv_iadd hx hb dL_law_600 ?_
        refine va_sld hx hb hX hbl hbA wC.2.2.1 g1 dL_law_601 ?_
        refine lv_aload_n hx hb dL_law_602 rfl (lv_at hl 0 rfl) ?_
        refine lv_iload_n hx hb dL_law_603 rfl (lv_at hl 3 rfl) ?_
        refine lv_iconst (v := 2) hx hb dL_law_604 (by decide) ?_
        refine lv_iadd hx hb dL_law_605 ?_
        refine va_sld hx hb hX hbl hbA wC.2.2.1 g2 dL_law_606 ?_
        refine lv_aload_n hx hb dL_law_607 rfl (lv_at hl 0 rfl) ?_
        refine lv_iload_n hx hb dL_law_608 rfl (lv_at hl 3 rfl) ?_
        refine lv_iconst (v := 3) hx hb dL_law_609 (by decide) ?_
        refine lv_iadd hx hb dL_law_610 ?_
        refine va_sld hx hb hX hbl hbA wC.2.2.1 g3 dL_law_611 ?_
        refine call0i (va_runV (As := [.int (xs (ix (v + 1))), .int (xs (ix (v + 2))), .int (xs (ix (v + 3)))]) (rest := [.int (f_X3_far σ (xs (ix (v + 1))) (xs (ix (v + 2))) (xs (ix (v + 3)))).1]) S (c_X4_far l adM D H.size τ (xs (ix (v + 1))) (xs (ix (v + 2))) (xs (ix (v + 3))) okM) (cwV 3 S.2.2.2.2 gL_law_X4_far rfl rfl rfl ⟨rfl, hd_X4_far⟩ ⟨Nat.le_of_ble_eq_true rfl, Nat.le_of_ble_eq_true rfl⟩) (preV hKM hN wM (k := 0) (by decide) (eM_0 adM _) (q := (RX4, TX4, 25)) rfl) rfl rfl hl.1 rfl (lv_room (Nat.le_of_ble_eq_true rfl)) dL_law_612 ⟨Nat.le_of_ble_eq_true rfl, Nat.le_of_ble_eq_true rfl⟩) ?_
        have hq := q_far hR hj (xs (ix (v + 1))) (xs (ix (v + 2))) (xs (ix (v + 3)))
        refine lv_icmp_eq (tgt := 1402) hx hb dL_law_615 (by decide) (fun c615 => ?_) (fun c615 => ?_)
        · exact K _ _ hq.2 H locs wC wM ls hl
        · exact absurd hq.1 c615
      by_cases c33_12 : (xs (ix v) &&& 63) = 12
      · refine lv_tableIn (tgt := 620) hx hb dL_law_33 (by rw [c33_12]; decide) (by rw [c33_12]; decide) (off := 587) (by rw [c33_12]; decide) (by decide) ?_
        refine lv_aload_n hx hb dL_law_620 rfl (lv_at hl 1 rfl) ?_
        refine lv_aload_n hx hb dL_law_621 rfl (lv_at hl 0 rfl) ?_
        refine lv_iload_n hx hb dL_law_622 rfl (lv_at hl 3 rfl) ?_
        refine lv_iconst (v := 1) hx hb dL_law_623 (by decide) ?_
        refine lv_iadd hx hb dL_law_624 ?_
        refine va_sld hx hb hX hbl hbA wC.2.2.1 g1 dL_law_625 ?_
        refine lv_aload_n hx hb dL_law_626 rfl (lv_at hl 0 rfl) ?_
        refine lv_iload_n hx hb dL_law_627 rfl (lv_at hl 3 rfl) ?_
        refine lv_iconst (v := 2) hx hb dL_law_628 (by decide) ?_
        refine lv_iadd hx hb dL_law_629 ?_
        refine va_sld hx hb hX hbl hbA wC.2.2.1 g2 dL_law_630 ?_
        refine callWi2 wC wM hdis (va_runV (As := [.int (xs (ix (v + 1))), .int (xs (ix (v + 2)))]) (rest := []) S (c_X3_fits l adC D H.size σ (xs (ix (v + 1))) (xs (ix (v + 2))) okC) (cwV 2 S.2.2.2.2 gL_law_X3_fits rfl rfl rfl ⟨rfl, hd_X3_fits⟩ ⟨Nat.le_of_ble_eq_true rfl, Nat.le_of_ble_eq_true rfl⟩) (preV hKC hN wC (k := 0) (by decide) (eC_0 adC _) (q := (RX3, TX3, 14)) rfl) rfl rfl hl.1 rfl (lv_room (Nat.le_of_ble_eq_true rfl)) dL_law_631 ⟨Nat.le_of_ble_eq_true rfl, Nat.le_of_ble_eq_true rfl⟩) (fun H locs wC wM => ?_)
        refine lv_aload_n hx hb dL_law_634 rfl (lv_at hl 2 rfl) ?_
        refine lv_aload_n hx hb dL_law_635 rfl (lv_at hl 0 rfl) ?_
        refine lv_iload_n hx hb dL_law_636 rfl (lv_at hl 3 rfl) ?_
        refine lv_iconst (v := 1) hx hb dL_law_637 (by decide) ?_
        refine lv_iadd hx hb dL_law_638 ?_
        refine va_sld hx hb hX hbl hbA wC.2.2.1 g1 dL_law_639 ?_
        refine lv_aload_n hx hb dL_law_640 rfl (lv_at hl 0 rfl) ?_
        refine lv_iload_n hx hb dL_law_641 rfl (lv_at hl 3 rfl) ?_
        refine lv_iconst (v := 2) hx hb dL_law_642 (by decide) ?_
        refine lv_iadd hx hb dL_law_643 ?_
        refine va_sld hx hb hX hbl hbA wC.2.2.1 g2 dL_law_644 ?_
        refine call0i (va_runV (As := [.int (xs (ix (v + 1))), .int (xs (ix (v + 2)))]) (rest := [.int (f_X3_fits σ (xs (ix (v + 1))) (xs (ix (v + 2)))).1]) S (c_X4_fits l adM D H.size τ (xs (ix (v + 1))) (xs (ix (v + 2))) okM) (cwV 2 S.2.2.2.2 gL_law_X4_fits rfl rfl rfl ⟨rfl, hd_X4_fits⟩ ⟨Nat.le_of_ble_eq_true rfl, Nat.le_of_ble_eq_true rfl⟩) (preV hKM hN wM (k := 0) (by decide) (eM_0 adM _) (q := (RX4, TX4, 25)) rfl) rfl rfl hl.1 rfl (lv_room (Nat.le_of_ble_eq_true rfl)) dL_law_645 ⟨Nat.le_of_ble_eq_true rfl, Nat.le_of_ble_eq_true rfl⟩) ?_
        have hq := q_fits hR hj (xs (ix (v + 1))) (xs (ix (v + 2)))
        refine lv_icmp_eq (tgt := 1402) hx hb dL_law_648 (by decide) (fun c648 => ?_) (fun c648 => ?_)
        · exact K _ _ hq.2 H locs wC wM ls hl
        · exact absurd hq.1 c648
      by_cases c33_13 : (xs (ix v) &&& 63) = 13
      · refine lv_tableIn (tgt := 653) hx hb dL_law_33 (by rw [c33_13]; decide) (by rw [c33_13]; decide) (off := 620) (by rw [c33_13]; decide) (by decide) ?_
        refine lv_aload_n hx hb dL_law_653 rfl (lv_at hl 1 rfl) ?_
        refine callWi2 wC wM hdis (va_runV (As := []) (rest := []) S (c_X3_proved l adC D H.size σ okC) (cwV 0 S.2.2.2.2 gL_law_X3_proved rfl rfl rfl ⟨rfl, hd_X3_proved⟩ ⟨Nat.le_of_ble_eq_true rfl, Nat.le_of_ble_eq_true rfl⟩) (preV hKC hN wC (k := 0) (by decide) (eC_0 adC _) (q := (RX3, TX3, 14)) rfl) rfl rfl hl.1 rfl (lv_room (Nat.le_of_ble_eq_true rfl)) dL_law_654 ⟨Nat.le_of_ble_eq_true rfl, Nat.le_of_ble_eq_true rfl⟩) (fun H locs wC wM => ?_)
        refine lv_aload_n hx hb dL_law_657 rfl (lv_at hl 2 rfl) ?_
        refine call0i (va_runV (As := []) (rest := [.int (f_X3_proved σ).1]) S (c_X4_proved l adM D H.size τ okM) (cwV 0 S.2.2.2.2 gL_law_X4_proved rfl rfl rfl ⟨rfl, hd_X4_proved⟩ ⟨Nat.le_of_ble_eq_true rfl, Nat.le_of_ble_eq_true rfl⟩) (preV hKM hN wM (k := 0) (by decide) (eM_0 adM _) (q := (RX4, TX4, 25)) rfl) rfl rfl hl.1 rfl (lv_room (Nat.le_of_ble_eq_true rfl)) dL_law_658 ⟨Nat.le_of_ble_eq_true rfl, Nat.le_of_ble_eq_true rfl⟩) ?_
        have hq := q_proved hR hj 
        refine lv_icmp_eq (tgt := 1402) hx hb dL_law_661 (by decide) (fun c661 => ?_) (fun c661 => ?_)
        · exact K _ _ hq.2 H locs wC wM ls hl
        · exact absurd hq.1 c661
      by_cases c33_14 : (xs (ix v) &&& 63) = 14
      · refine lv_tableIn (tgt := 666) hx hb dL_law_33 (by rw [c33_14]; decide) (by rw [c33_14]; decide) (off := 633) (by rw [c33_14]; decide) (by decide) ?_
        refine lv_aload_n hx hb dL_law_666 rfl (lv_at hl 1 rfl) ?_
        refine lv_aload_n hx hb dL_law_667 rfl (lv_at hl 0 rfl) ?_
        refine lv_iload_n hx hb dL_law_668 rfl (lv_at hl 3 rfl) ?_
        refine lv_iconst (v := 1) hx hb dL_law_669 (by decide) ?_
        refine lv_iadd hx hb dL_law_670 ?_
        refine va_sld hx hb hX hbl hbA wC.2.2.1 g1 dL_law_671 ?_
        refine callWi2 wC wM hdis (va_runV (As := [.int (xs (ix (v + 1)))]) (rest := []) S (c_X3_again l adC D H.size σ (xs (ix (v + 1))) okC) (cwV 1 S.2.2.2.2 gL_law_X3_again rfl rfl rfl ⟨rfl, hd_X3_again⟩ ⟨Nat.le_of_ble_eq_true rfl, Nat.le_of_ble_eq_true rfl⟩) (preV hKC hN wC (k := 0) (by decide) (eC_0 adC _) (q := (RX3, TX3, 14)) rfl) rfl rfl hl.1 rfl (lv_room (Nat.le_of_ble_eq_true rfl)) dL_law_672 ⟨Nat.le_of_ble_eq_true rfl, Nat.le_of_ble_eq_true rfl⟩) (fun H locs wC wM => ?_)
        refine lv_aload_n hx hb dL_law_675 rfl (lv_at hl 2 rfl) ?_
        refine lv_aload_n hx hb dL_law_676 rfl (lv_at hl 0 rfl) ?_
        refine lv_iload_n hx hb dL_law_677 rfl (lv_at hl 3 rfl) ?_
        refine lv_iconst (v := 1) hx hb dL_law_678 (by decide) ?_
        refine lv_iadd hx hb dL_law_679 ?_
        refine va_sld hx hb hX hbl hbA wC.2.2.1 g1 dL_law_680 ?_
        refine call0i (va_runV (As := [.int (xs (ix (v + 1)))]) (rest := [.int (f_X3_again σ (xs (ix (v + 1)))).1]) S (c_X4_again l adM D H.size τ (xs (ix (v + 1))) okM) (cwV 1 S.2.2.2.2 gL_law_X4_again rfl rfl rfl ⟨rfl, hd_X4_again⟩ ⟨Nat.le_of_ble_eq_true rfl, Nat.le_of_ble_eq_true rfl⟩) (preV hKM hN wM (k := 0) (by decide) (eM_0 adM _) (q := (RX4, TX4, 25)) rfl) rfl rfl hl.1 rfl (lv_room (Nat.le_of_ble_eq_true rfl)) dL_law_681 ⟨Nat.le_of_ble_eq_true rfl, Nat.le_of_ble_eq_true rfl⟩) ?_
        have hq := q_again hR hj (xs (ix (v + 1)))
        refine lv_icmp_eq (tgt := 1402) hx hb dL_law_684 (by decide) (fun c684 => ?_) (fun c684 => ?_)
        · exact K _ _ hq.2 H locs wC wM ls hl
        · exact absurd hq.1 c684
      by_cases c33_15 : (xs (ix v) &&& 63) = 15
      · refine lv_tableIn (tgt := 689) hx hb dL_law_33 (by rw [c33_15]; decide) (by rw [c33_15]; decide) (off := 656) (by rw [c33_15]; decide) (by decide) ?_
        refine lv_aload_n hx hb dL_law_689 rfl (lv_at hl 1 rfl) ?_
        refine lv_aload_n hx hb dL_law_690 rfl (lv_at hl 0 rfl) ?_
        refine lv_iload_n hx hb dL_law_691 rfl (lv_at hl 3 rfl) ?_
        refine lv_iconst (v := 1) hx hb dL_law_692 (by decide) ?_
        refine lv_iadd hx hb dL_law_693 ?_
        refine va_sld hx hb hX hbl hbA wC.2.2.1 g1 dL_law_694 ?_
        refine lv_aload_n hx hb dL_law_695 rfl (lv_at hl 0 rfl) ?_
        refine lv_iload_n hx hb dL_law_696 rfl (lv_at hl 3 rfl) ?_
        refine lv_iconst (v := 2) hx hb dL_law_697 (by decide) ?_
        refine lv_iadd hx hb dL_law_698 ?_
        refine va_sld hx hb hX hbl hbA wC.2.2.1 g2 dL_law_699 ?_
        refine call0i (va_runV (As := [.int (xs (ix (v + 1))), .int (xs (ix (v + 2)))]) (rest := []) S (c_X3_apart l adC D H.size σ (xs (ix (v + 1))) (xs (ix (v + 2))) okC) (cwV 2 S.2.2.2.2 gL_law_X3_apart rfl rfl rfl ⟨rfl, hd_X3_apart⟩ ⟨Nat.le_of_ble_eq_true rfl, Nat.le_of_ble_eq_true rfl⟩) (preV hKC hN wC (k := 0) (by decide) (eC_0 adC _) (q := (RX3, TX3, 14)) rfl) rfl rfl hl.1 rfl (lv_room (Nat.le_of_ble_eq_true rfl)) dL_law_700 ⟨Nat.le_of_ble_eq_true rfl, Nat.le_of_ble_eq_true rfl⟩) ?_
        refine lv_aload_n hx hb dL_law_703 rfl (lv_at hl 2 rfl) ?_
        refine lv_aload_n hx hb dL_law_704 rfl (lv_at hl 0 rfl) ?_
        refine lv_iload_n hx hb dL_law_705 rfl (lv_at hl 3 rfl) ?_
        refine lv_iconst (v := 1) hx hb dL_law_706 (by decide) ?_
        refine lv_iadd hx hb dL_law_707 ?_
        refine va_sld hx hb hX hbl hbA wC.2.2.1 g1 dL_law_708 ?_
        refine lv_aload_n hx hb dL_law_709 rfl (lv_at hl 0 rfl) ?_
        refine lv_iload_n hx hb dL_law_710 rfl (lv_at hl 3 rfl) ?_
        refine lv_iconst (v := 2) hx hb dL_law_711 (by decide) ?_
        refine lv_iadd hx hb dL_law_712 ?_
        refine va_sld hx hb hX hbl hbA wC.2.2.1 g2 dL_law_713 ?_
        refine call0i (va_runV (As := [.int (xs (ix (v + 1))), .int (xs (ix (v + 2)))]) (rest := [.int (f_X3_apart σ (xs (ix (v + 1))) (xs (ix (v + 2))))]) S (c_X4_apart l adM D H.size τ (xs (ix (v + 1))) (xs (ix (v + 2))) okM) (cwV 2 S.2.2.2.2 gL_law_X4_apart rfl rfl rfl ⟨rfl, hd_X4_apart⟩ ⟨Nat.le_of_ble_eq_true rfl, Nat.le_of_ble_eq_true rfl⟩) (preV hKM hN wM (k := 0) (by decide) (eM_0 adM _) (q := (RX4, TX4, 25)) rfl) rfl rfl hl.1 rfl (lv_room (Nat.le_of_ble_eq_true rfl)) dL_law_714 ⟨Nat.le_of_ble_eq_true rfl, Nat.le_of_ble_eq_true rfl⟩) ?_
        have hq := q_apart hR hj (xs (ix (v + 1))) (xs (ix (v + 2)))
        refine lv_icmp_eq (tgt := 1402) hx hb dL_law_717 (by decide) (fun c717 => ?_) (fun c717 => ?_)
        · exact K _ _ hq.2 H locs wC wM ls hl
        · exact absurd hq.1 c717
      by_cases c33_16 : (xs (ix v) &&& 63) = 16
      · refine lv_tableIn (tgt := 722) hx hb dL_law_33 (by rw [c33_16]; decide) (by rw [c33_16]; decide) (off := 689) (by rw [c33_16]; decide) (by decide) ?_
        refine lv_aload_n hx hb dL_law_722 rfl (lv_at hl 1 rfl) ?_
        refine lv_aload_n hx hb dL_law_723 rfl (lv_at hl 0 rfl) ?_
        refine lv_iload_n hx hb dL_law_724 rfl (lv_at hl 3 rfl) ?_
        refine lv_iconst (v := 1) hx hb dL_law_725 (by decide) ?_
        refine lv_iadd hx hb dL_law_726 ?_
        refine va_sld hx hb hX hbl hbA wC.2.2.1 g1 dL_law_727 ?_
        refine call0i (va_runV (As := [.int (xs (ix (v + 1)))]) (rest := []) S (c_X3_twins l adC D H.size σ (xs (ix (v + 1))) okC) (cwV 1 S.2.2.2.2 gL_law_X3_twins rfl rfl rfl ⟨rfl, hd_X3_twins⟩ ⟨Nat.le_of_ble_eq_true rfl, Nat.le_of_ble_eq_true rfl⟩) (preV hKC hN wC (k := 0) (by decide) (eC_0 adC _) (q := (RX3, TX3, 14)) rfl) rfl rfl hl.1 rfl (lv_room (Nat.le_of_ble_eq_true rfl)) dL_law_728 ⟨Nat.le_of_ble_eq_true rfl, Nat.le_of_ble_eq_true rfl⟩) ?_
        refine lv_aload_n hx hb dL_law_731 rfl (lv_at hl 2 rfl) ?_
        refine lv_aload_n hx hb dL_law_732 rfl (lv_at hl 0 rfl) ?_
        refine lv_iload_n hx hb dL_law_733 rfl (lv_at hl 3 rfl) ?_
        refine lv_iconst (v := 1) hx hb dL_law_734 (by decide) ?_
        refine lv_iadd hx hb dL_law_735 ?_
        refine va_sld hx hb hX hbl hbA wC.2.2.1 g1 dL_law_736 ?_
        refine call0i (va_runV (As := [.int (xs (ix (v + 1)))]) (rest := [.int (f_X3_twins σ (xs (ix (v + 1))))]) S (c_X4_twins l adM D H.size τ (xs (ix (v + 1))) okM) (cwV 1 S.2.2.2.2 gL_law_X4_twins rfl rfl rfl ⟨rfl, hd_X4_twins⟩ ⟨Nat.le_of_ble_eq_true rfl, Nat.le_of_ble_eq_true rfl⟩) (preV hKM hN wM (k := 0) (by decide) (eM_0 adM _) (q := (RX4, TX4, 25)) rfl) rfl rfl hl.1 rfl (lv_room (Nat.le_of_ble_eq_true rfl)) dL_law_737 ⟨Nat.le_of_ble_eq_true rfl, Nat.le_of_ble_eq_true rfl⟩) ?_
        have hq := q_twins hR hj (xs (ix (v + 1)))
        refine lv_icmp_eq (tgt := 1402) hx hb dL_law_740 (by decide) (fun c740 => ?_) (fun c740 => ?_)
        · exact K _ _ hq.2 H locs wC wM ls hl
        · exact absurd hq.1 c740
      by_cases c33_17 : (xs (ix v) &&& 63) = 17
      · refine lv_tableIn (tgt := 745) hx hb dL_law_33 (by rw [c33_17]; decide) (by rw [c33_17]; decide) (off := 712) (by rw [c33_17]; decide) (by decide) ?_
        refine lv_aload_n hx hb dL_law_745 rfl (lv_at hl 1 rfl) ?_
        refine lv_aload_n hx hb dL_law_746 rfl (lv_at hl 0 rfl) ?_
        refine lv_iload_n hx hb dL_law_747 rfl (lv_at hl 3 rfl) ?_
        refine lv_iconst (v := 1) hx hb dL_law_748 (by decide) ?_
        refine lv_iadd hx hb dL_law_749 ?_
        refine va_sld hx hb hX hbl hbA wC.2.2.1 g1 dL_law_750 ?_
        refine lv_aload_n hx hb dL_law_751 rfl (lv_at hl 0 rfl) ?_
        refine lv_iload_n hx hb dL_law_752 rfl (lv_at hl 3 rfl) ?_
        refine lv_iconst (v := 2) hx hb dL_law_753 (by decide) ?_
        refine lv_iadd hx hb dL_law_754 ?_
        refine va_sld hx hb hX hbl hbA wC.2.2.1 g2 dL_law_755 ?_
        refine lv_aload_n hx hb dL_law_756 rfl (lv_at hl 0 rfl) ?_
        refine lv_iload_n hx hb dL_law_757 rfl (lv_at hl 3 rfl) ?_
        refine lv_iconst (v := 3) hx hb dL_law_758 (by decide) ?_
        refine lv_iadd hx hb dL_law_759 ?_
        refine va_sld hx hb hX hbl hbA wC.2.2.1 g3 dL_law_760 ?_
        refine lv_aload_n hx hb dL_law_761 rfl (lv_at hl 0 rfl) ?_
        refine lv_iload_n hx hb dL_law_762 rfl (lv_at hl 3 rfl) ?_
        refine lv_iconst (v := 4) hx hb dL_law_763 (by decide) ?_
        refine lv_iadd hx hb dL_law_764 ?_
        refine va_sld hx hb hX hbl hbA wC.2.2.1 g4 dL_law_765 ?_
        refine lv_aload_n hx hb dL_law_766 rfl (lv_at hl 0 rfl) ?_
        refine lv_iload_n hx hb dL_law_767 rfl (lv_at hl 3 rfl) ?_
        refine lv_iconst (v := 5) hx hb dL_law_768 (by decide) ?_
        refine lv_iadd hx hb dL_law_769 ?_
        refine va_sld hx hb hX hbl hbA wC.2.2.1 g5 dL_law_770 ?_
        refine lv_aload_n hx hb dL_law_771 rfl (lv_at hl 0 rfl) ?_
        refine lv_iload_n hx hb dL_law_772 rfl (lv_at hl 3 rfl) ?_
        refine lv_bipush (v := 6) hx hb dL_law_773 (by decide) ?_
        refine lv_iadd hx hb dL_law_775 ?_
        refine va_sld hx hb hX hbl hbA wC.2.2.1 g6 dL_law_776 ?_
        refine callWi2 wC wM hdis (va_runV (As := [.int (xs (ix (v + 1))), .int (xs (ix (v + 2))), .int (xs (ix (v + 3))), .int (xs (ix (v + 4))), .int (xs (ix (v + 5))), .int (xs (ix (v + 6)))]) (rest := []) S (c_X3_forged l adC D H.size σ (xs (ix (v + 1))) (xs (ix (v + 2))) (xs (ix (v + 3))) (xs (ix (v + 4))) (xs (ix (v + 5))) (xs (ix (v + 6))) okC) (cwV 6 S.2.2.2.2 gL_law_X3_forged rfl rfl rfl ⟨rfl, hd_X3_forged⟩ ⟨Nat.le_of_ble_eq_true rfl, Nat.le_of_ble_eq_true rfl⟩) (preV hKC hN wC (k := 0) (by decide) (eC_0 adC _) (q := (RX3, TX3, 14)) rfl) rfl rfl hl.1 rfl (lv_room (Nat.le_of_ble_eq_true rfl)) dL_law_777 ⟨Nat.le_of_ble_eq_true rfl, Nat.le_of_ble_eq_true rfl⟩) (fun H locs wC wM => ?_)
        refine lv_aload_n hx hb dL_law_780 rfl (lv_at hl 2 rfl) ?_
        refine lv_aload_n hx hb dL_law_781 rfl (lv_at hl 0 rfl) ?_
        refine lv_iload_n hx hb dL_law_782 rfl (lv_at hl 3 rfl) ?_
        refine lv_iconst (v := 1) hx hb dL_law_783 (by decide) ?_
        refine lv_iadd hx hb dL_law_784 ?_
        refine va_sld hx hb hX hbl hbA wC.2.2.1 g1 dL_law_785 ?_
        refine lv_aload_n hx hb dL_law_786 rfl (lv_at hl 0 rfl) ?_
        refine lv_iload_n hx hb dL_law_787 rfl (lv_at hl 3 rfl) ?_
        refine lv_iconst (v := 2) hx hb dL_law_788 (by decide) ?_
        refine lv_iadd hx hb dL_law_789 ?_
        refine va_sld hx hb hX hbl hbA wC.2.2.1 g2 dL_law_790 ?_
        refine lv_aload_n hx hb dL_law_791 rfl (lv_at hl 0 rfl) ?_
        refine lv_iload_n hx hb dL_law_792 rfl (lv_at hl 3 rfl) ?_
        refine lv_iconst (v := 3) hx hb dL_law_793 (by decide) ?_
        refine lv_iadd hx hb dL_law_794 ?_
        refine va_sld hx hb hX hbl hbA wC.2.2.1 g3 dL_law_795 ?_
        refine lv_aload_n hx hb dL_law_796 rfl (lv_at hl 0 rfl) ?_
        refine lv_iload_n hx hb dL_law_797 rfl (lv_at hl 3 rfl) ?_
        refine lv_iconst (v := 4) hx hb dL_law_798 (by decide) ?_
        refine lv_iadd hx hb dL_law_799 ?_
        refine va_sld hx hb hX hbl hbA wC.2.2.1 g4 dL_law_800 ?_
        refine lv_aload_n hx hb dL_law_801 rfl (lv_at hl 0 rfl) ?_
        refine lv_iload_n hx hb dL_law_802 rfl (lv_at hl 3 rfl) ?_
        refine lv_iconst (v := 5) hx hb dL_law_803 (by decide) ?_
        refine lv_iadd hx hb dL_law_804 ?_
        refine va_sld hx hb hX hbl hbA wC.2.2.1 g5 dL_law_805 ?_
        refine lv_aload_n hx hb dL_law_806 rfl (lv_at hl 0 rfl) ?_
        refine lv_iload_n hx hb dL_law_807 rfl (lv_at hl 3 rfl) ?_
        refine lv_bipush (v := 6) hx hb dL_law_808 (by decide) ?_
        refine lv_iadd hx hb dL_law_810 ?_
        refine va_sld hx hb hX hbl hbA wC.2.2.1 g6 dL_law_811 ?_
        refine callWi2 wM wC hdis2 (va_runV (As := [.int (xs (ix (v + 1))), .int (xs (ix (v + 2))), .int (xs (ix (v + 3))), .int (xs (ix (v + 4))), .int (xs (ix (v + 5))), .int (xs (ix (v + 6)))]) (rest := [.int (f_X3_forged σ (xs (ix (v + 1))) (xs (ix (v + 2))) (xs (ix (v + 3))) (xs (ix (v + 4))) (xs (ix (v + 5))) (xs (ix (v + 6)))).1]) S (c_X4_forged l adM D H.size τ (xs (ix (v + 1))) (xs (ix (v + 2))) (xs (ix (v + 3))) (xs (ix (v + 4))) (xs (ix (v + 5))) (xs (ix (v + 6))) okM) (cwV 6 S.2.2.2.2 gL_law_X4_forged rfl rfl rfl ⟨rfl, hd_X4_forged⟩ ⟨Nat.le_of_ble_eq_true rfl, Nat.le_of_ble_eq_true rfl⟩) (preV hKM hN wM (k := 0) (by decide) (eM_0 adM _) (q := (RX4, TX4, 25)) rfl) rfl rfl hl.1 rfl (lv_room (Nat.le_of_ble_eq_true rfl)) dL_law_812 ⟨Nat.le_of_ble_eq_true rfl, Nat.le_of_ble_eq_true rfl⟩) (fun H locs wM wC => ?_)
        have hq := q_forged hR hj (xs (ix (v + 1))) (xs (ix (v + 2))) (xs (ix (v + 3))) (xs (ix (v + 4))) (xs (ix (v + 5))) (xs (ix (v + 6)))
        refine lv_icmp_eq (tgt := 1402) hx hb dL_law_815 (by decide) (fun c815 => ?_) (fun c815 => ?_)
        · exact K _ _ hq.2 H locs wC wM ls hl
        · exact absurd hq.1 c815
      by_cases c33_18 : (xs (ix v) &&& 63) = 18
      · refine lv_tableIn (tgt := 820) hx hb dL_law_33 (by rw [c33_18]; decide) (by rw [c33_18]; decide) (off := 787) (by rw [c33_18]; decide) (by decide) ?_
        refine lv_aload_n hx hb dL_law_820 rfl (lv_at hl 1 rfl) ?_
        refine lv_aload_n hx hb dL_law_821 rfl (lv_at hl 0 rfl) ?_
        refine lv_iload_n hx hb dL_law_822 rfl (lv_at hl 3 rfl) ?_
        refine lv_iconst (v := 1) hx hb dL_law_823 (by decide) ?_
        refine lv_iadd hx hb dL_law_824 ?_
        refine va_sld hx hb hX hbl hbA wC.2.2.1 g1 dL_law_825 ?_
        refine lv_aload_n hx hb dL_law_826 rfl (lv_at hl 0 rfl) ?_
        refine lv_iload_n hx hb dL_law_827 rfl (lv_at hl 3 rfl) ?_
        refine lv_iconst (v := 2) hx hb dL_law_828 (by decide) ?_
        refine lv_iadd hx hb dL_law_829 ?_
        refine va_sld hx hb hX hbl hbA wC.2.2.1 g2 dL_law_830 ?_
        refine lv_aload_n hx hb dL_law_831 rfl (lv_at hl 0 rfl) ?_
        refine lv_iload_n hx hb dL_law_832 rfl (lv_at hl 3 rfl) ?_
        refine lv_iconst (v := 3) hx hb dL_law_833 (by decide) ?_
        refine lv_iadd hx hb dL_law_834 ?_
        refine va_sld hx hb hX hbl hbA wC.2.2.1 g3 dL_law_835 ?_
        refine lv_aload_n hx hb dL_law_836 rfl (lv_at hl 0 rfl) ?_
        refine lv_iload_n hx hb dL_law_837 rfl (lv_at hl 3 rfl) ?_
        refine lv_iconst (v := 4) hx hb dL_law_838 (by decide) ?_
        refine lv_iadd hx hb dL_law_839 ?_
        refine va_sld hx hb hX hbl hbA wC.2.2.1 g4 dL_law_840 ?_
        refine call0i (va_runV (As := [.int (xs (ix (v + 1))), .int (xs (ix (v + 2))), .int (xs (ix (v + 3))), .int (xs (ix (v + 4)))]) (rest := []) S (c_X3_near l adC D H.size σ (xs (ix (v + 1))) (xs (ix (v + 2))) (xs (ix (v + 3))) (xs (ix (v + 4))) okC) (cwV 4 S.2.2.2.2 gL_law_X3_near rfl rfl rfl ⟨rfl, hd_X3_near⟩ ⟨Nat.le_of_ble_eq_true rfl, Nat.le_of_ble_eq_true rfl⟩) (preV hKC hN wC (k := 0) (by decide) (eC_0 adC _) (q := (RX3, TX3, 14)) rfl) rfl rfl hl.1 rfl (lv_room (Nat.le_of_ble_eq_true rfl)) dL_law_841 ⟨Nat.le_of_ble_eq_true rfl, Nat.le_of_ble_eq_true rfl⟩) ?_
        refine lv_aload_n hx hb dL_law_844 rfl (lv_at hl 2 rfl) ?_
        refine lv_aload_n hx hb dL_law_845 rfl (lv_at hl 0 rfl) ?_
        refine lv_iload_n hx hb dL_law_846 rfl (lv_at hl 3 rfl) ?_
        refine lv_iconst (v := 1) hx hb dL_law_847 (by decide) ?_
        refine lv_iadd hx hb dL_law_848 ?_
        refine va_sld hx hb hX hbl hbA wC.2.2.1 g1 dL_law_849 ?_
        refine lv_aload_n hx hb dL_law_850 rfl (lv_at hl 0 rfl) ?_
        refine lv_iload_n hx hb dL_law_851 rfl (lv_at hl 3 rfl) ?_
        refine lv_iconst (v := 2) hx hb dL_law_852 (by decide) ?_
        refine lv_iadd hx hb dL_law_853 ?_
        refine va_sld hx hb hX hbl hbA wC.2.2.1 g2 dL_law_854 ?_
        refine lv_aload_n hx hb dL_law_855 rfl (lv_at hl 0 rfl) ?_
        refine lv_iload_n hx hb dL_law_856 rfl (lv_at hl 3 rfl) ?_
        refine lv_iconst (v := 3) hx hb dL_law_857 (by decide) ?_
        refine lv_iadd hx hb dL_law_858 ?_
        refine va_sld hx hb hX hbl hbA wC.2.2.1 g3 dL_law_859 ?_
        refine lv_aload_n hx hb dL_law_860 rfl (lv_at hl 0 rfl) ?_
        refine lv_iload_n hx hb dL_law_861 rfl (lv_at hl 3 rfl) ?_
        refine lv_iconst (v := 4) hx hb dL_law_862 (by decide) ?_
        refine lv_iadd hx hb dL_law_863 ?_
        refine va_sld hx hb hX hbl hbA wC.2.2.1 g4 dL_law_864 ?_
        refine call0i (va_runV (As := [.int (xs (ix (v + 1))), .int (xs (ix (v + 2))), .int (xs (ix (v + 3))), .int (xs (ix (v + 4)))]) (rest := [.int (f_X3_near σ (xs (ix (v + 1))) (xs (ix (v + 2))) (xs (ix (v + 3))) (xs (ix (v + 4))))]) S (c_X4_near l adM D H.size τ (xs (ix (v + 1))) (xs (ix (v + 2))) (xs (ix (v + 3))) (xs (ix (v + 4))) okM) (cwV 4 S.2.2.2.2 gL_law_X4_near rfl rfl rfl ⟨rfl, hd_X4_near⟩ ⟨Nat.le_of_ble_eq_true rfl, Nat.le_of_ble_eq_true rfl⟩) (preV hKM hN wM (k := 0) (by decide) (eM_0 adM _) (q := (RX4, TX4, 25)) rfl) rfl rfl hl.1 rfl (lv_room (Nat.le_of_ble_eq_true rfl)) dL_law_865 ⟨Nat.le_of_ble_eq_true rfl, Nat.le_of_ble_eq_true rfl⟩) ?_
        have hq := q_near hR hj (xs (ix (v + 1))) (xs (ix (v + 2))) (xs (ix (v + 3))) (xs (ix (v + 4)))
        refine lv_icmp_eq (tgt := 1402) hx hb dL_law_868 (by decide) (fun c868 => ?_) (fun c868 => ?_)
        · exact K _ _ hq.2 H locs wC wM ls hl
        · exact absurd hq.1 c868
      by_cases c33_19 : (xs (ix v) &&& 63) = 19
      · refine lv_tableIn (tgt := 873) hx hb dL_law_33 (by rw [c33_19]; decide) (by rw [c33_19]; decide) (off := 840) (by rw [c33_19]; decide) (by decide) ?_
        refine lv_aload_n hx hb dL_law_873 rfl (lv_at hl 1 rfl) ?_
        refine lv_aload_n hx hb dL_law_874 rfl (lv_at hl 0 rfl) ?_
        refine lv_iload_n hx hb dL_law_875 rfl (lv_at hl 3 rfl) ?_
        refine lv_iconst (v := 1) hx hb dL_law_876 (by decide) ?_
        refine lv_iadd hx hb dL_law_877 ?_
        refine va_sld hx hb hX hbl hbA wC.2.2.1 g1 dL_law_878 ?_
        refine lv_aload_n hx hb dL_law_879 rfl (lv_at hl 0 rfl) ?_
        refine lv_iload_n hx hb dL_law_880 rfl (lv_at hl 3 rfl) ?_
        refine lv_iconst (v := 2) hx hb dL_law_881 (by decide) ?_
        refine lv_iadd hx hb dL_law_882 ?_
        refine va_sld hx hb hX hbl hbA wC.2.2.1 g2 dL_law_883 ?_
        refine callWi2 wC wM hdis (va_runV (As := [.int (xs (ix (v + 1))), .int (xs (ix (v + 2)))]) (rest := []) S (c_X3_steals l adC D H.size σ (xs (ix (v + 1))) (xs (ix (v + 2))) okC) (cwV 2 S.2.2.2.2 gL_law_X3_steals rfl rfl rfl ⟨rfl, hd_X3_steals⟩ ⟨Nat.le_of_ble_eq_true rfl, Nat.le_of_ble_eq_true rfl⟩) (preV hKC hN wC (k := 0) (by decide) (eC_0 adC _) (q := (RX3, TX3, 14)) rfl) rfl rfl hl.1 rfl (lv_room (Nat.le_of_ble_eq_true rfl)) dL_law_884 ⟨Nat.le_of_ble_eq_true rfl, Nat.le_of_ble_eq_true rfl⟩) (fun H locs wC wM => ?_)
        refine lv_aload_n hx hb dL_law_887 rfl (lv_at hl 2 rfl) ?_
        refine lv_aload_n hx hb dL_law_888 rfl (lv_at hl 0 rfl) ?_
        refine lv_iload_n hx hb dL_law_889 rfl (lv_at hl 3 rfl) ?_
        refine lv_iconst (v := 1) hx hb dL_law_890 (by decide) ?_
        refine lv_iadd hx hb dL_law_891 ?_
        refine va_sld hx hb hX hbl hbA wC.2.2.1 g1 dL_law_892 ?_
        refine lv_aload_n hx hb dL_law_893 rfl (lv_at hl 0 rfl) ?_
        refine lv_iload_n hx hb dL_law_894 rfl (lv_at hl 3 rfl) ?_
        refine lv_iconst (v := 2) hx hb dL_law_895 (by decide) ?_
        refine lv_iadd hx hb dL_law_896 ?_
        refine va_sld hx hb hX hbl hbA wC.2.2.1 g2 dL_law_897 ?_
        refine callWi2 wM wC hdis2 (va_runV (As := [.int (xs (ix (v + 1))), .int (xs (ix (v + 2)))]) (rest := [.int (f_X3_steals σ (xs (ix (v + 1))) (xs (ix (v + 2)))).1]) S (c_X4_steals l adM D H.size τ (xs (ix (v + 1))) (xs (ix (v + 2))) okM) (cwV 2 S.2.2.2.2 gL_law_X4_steals rfl rfl rfl ⟨rfl, hd_X4_steals⟩ ⟨Nat.le_of_ble_eq_true rfl, Nat.le_of_ble_eq_true rfl⟩) (preV hKM hN wM (k := 0) (by decide) (eM_0 adM _) (q := (RX4, TX4, 25)) rfl) rfl rfl hl.1 rfl (lv_room (Nat.le_of_ble_eq_true rfl)) dL_law_898 ⟨Nat.le_of_ble_eq_true rfl, Nat.le_of_ble_eq_true rfl⟩) (fun H locs wM wC => ?_)
        have hq := q_steals hR hj (xs (ix (v + 1))) (xs (ix (v + 2)))
        refine lv_icmp_eq (tgt := 1402) hx hb dL_law_901 (by decide) (fun c901 => ?_) (fun c901 => ?_)
        · exact K _ _ hq.2 H locs wC wM ls hl
        · exact absurd hq.1 c901
      by_cases c33_20 : (xs (ix v) &&& 63) = 20
      · refine lv_tableIn (tgt := 906) hx hb dL_law_33 (by rw [c33_20]; decide) (by rw [c33_20]; decide) (off := 873) (by rw [c33_20]; decide) (by decide) ?_
        refine lv_aload_n hx hb dL_law_906 rfl (lv_at hl 1 rfl) ?_
        refine lv_aload_n hx hb dL_law_907 rfl (lv_at hl 0 rfl) ?_
        refine lv_iload_n hx hb dL_law_908 rfl (lv_at hl 3 rfl) ?_
        refine lv_iconst (v := 1) hx hb dL_law_909 (by decide) ?_
        refine lv_iadd hx hb dL_law_910 ?_
        refine va_sld hx hb hX hbl hbA wC.2.2.1 g1 dL_law_911 ?_
        refine callWi2 wC wM hdis (va_runV (As := [.int (xs (ix (v + 1)))]) (rest := []) S (c_X3_fresh l adC D H.size σ (xs (ix (v + 1))) okC) (cwV 1 S.2.2.2.2 gL_law_X3_fresh rfl rfl rfl ⟨rfl, hd_X3_fresh⟩ ⟨Nat.le_of_ble_eq_true rfl, Nat.le_of_ble_eq_true rfl⟩) (preV hKC hN wC (k := 0) (by decide) (eC_0 adC _) (q := (RX3, TX3, 14)) rfl) rfl rfl hl.1 rfl (lv_room (Nat.le_of_ble_eq_true rfl)) dL_law_912 ⟨Nat.le_of_ble_eq_true rfl, Nat.le_of_ble_eq_true rfl⟩) (fun H locs wC wM => ?_)
        refine lv_aload_n hx hb dL_law_915 rfl (lv_at hl 2 rfl) ?_
        refine lv_aload_n hx hb dL_law_916 rfl (lv_at hl 0 rfl) ?_
        refine lv_iload_n hx hb dL_law_917 rfl (lv_at hl 3 rfl) ?_
        refine lv_iconst (v := 1) hx hb dL_law_918 (by decide) ?_
        refine lv_iadd hx hb dL_law_919 ?_
        refine va_sld hx hb hX hbl hbA wC.2.2.1 g1 dL_law_920 ?_
        refine call0i (va_runV (As := [.int (xs (ix (v + 1)))]) (rest := [.int (f_X3_fresh σ (xs (ix (v + 1)))).1]) S (c_X4_fresh l adM D H.size τ (xs (ix (v + 1))) okM) (cwV 1 S.2.2.2.2 gL_law_X4_fresh rfl rfl rfl ⟨rfl, hd_X4_fresh⟩ ⟨Nat.le_of_ble_eq_true rfl, Nat.le_of_ble_eq_true rfl⟩) (preV hKM hN wM (k := 0) (by decide) (eM_0 adM _) (q := (RX4, TX4, 25)) rfl) rfl rfl hl.1 rfl (lv_room (Nat.le_of_ble_eq_true rfl)) dL_law_921 ⟨Nat.le_of_ble_eq_true rfl, Nat.le_of_ble_eq_true rfl⟩) ?_
        have hq := q_fresh hR hj (xs (ix (v + 1)))
        refine lv_icmp_eq (tgt := 1402) hx hb dL_law_924 (by decide) (fun c924 => ?_) (fun c924 => ?_)
        · exact K _ _ hq.2 H locs wC wM ls hl
        · exact absurd hq.1 c924
      by_cases c33_21 : (xs (ix v) &&& 63) = 21
      · refine lv_tableIn (tgt := 929) hx hb dL_law_33 (by rw [c33_21]; decide) (by rw [c33_21]; decide) (off := 896) (by rw [c33_21]; decide) (by decide) ?_
        refine lv_aload_n hx hb dL_law_929 rfl (lv_at hl 1 rfl) ?_
        refine lv_aload_n hx hb dL_law_930 rfl (lv_at hl 0 rfl) ?_
        refine lv_iload_n hx hb dL_law_931 rfl (lv_at hl 3 rfl) ?_
        refine lv_iconst (v := 1) hx hb dL_law_932 (by decide) ?_
        refine lv_iadd hx hb dL_law_933 ?_
        refine va_sld hx hb hX hbl hbA wC.2.2.1 g1 dL_law_934 ?_
        refine lv_aload_n hx hb dL_law_935 rfl (lv_at hl 0 rfl) ?_
        refine lv_iload_n hx hb dL_law_936 rfl (lv_at hl 3 rfl) ?_
        refine lv_iconst (v := 2) hx hb dL_law_937 (by decide) ?_
        refine lv_iadd hx hb dL_law_938 ?_
        refine va_sld hx hb hX hbl hbA wC.2.2.1 g2 dL_law_939 ?_
        refine lv_aload_n hx hb dL_law_940 rfl (lv_at hl 0 rfl) ?_
        refine lv_iload_n hx hb dL_law_941 rfl (lv_at hl 3 rfl) ?_
        refine lv_iconst (v := 3) hx hb dL_law_942 (by decide) ?_
        refine lv_iadd hx hb dL_law_943 ?_
        refine va_sld hx hb hX hbl hbA wC.2.2.1 g3 dL_law_944 ?_
        refine lv_aload_n hx hb dL_law_945 rfl (lv_at hl 0 rfl) ?_
        refine lv_iload_n hx hb dL_law_946 rfl (lv_at hl 3 rfl) ?_
        refine lv_iconst (v := 4) hx hb dL_law_947 (by decide) ?_
        refine lv_iadd hx hb dL_law_948 ?_
        refine va_sld hx hb hX hbl hbA wC.2.2.1 g4 dL_law_949 ?_
        refine lv_aload_n hx hb dL_law_950 rfl (lv_at hl 0 rfl) ?_
        refine lv_iload_n hx hb dL_law_951 rfl (lv_at hl 3 rfl) ?_
        refine lv_iconst (v := 5) hx hb dL_law_952 (by decide) ?_
        refine lv_iadd hx hb dL_law_953 ?_
        refine va_sld hx hb hX hbl hbA wC.2.2.1 g5 dL_law_954 ?_
        refine lv_aload_n hx hb dL_law_955 rfl (lv_at hl 0 rfl) ?_
        refine lv_iload_n hx hb dL_law_956 rfl (lv_at hl 3 rfl) ?_
        refine lv_bipush (v := 6) hx hb dL_law_957 (by decide) ?_
        refine lv_iadd hx hb dL_law_959 ?_
        refine va_sld hx hb hX hbl hbA wC.2.2.1 g6 dL_law_960 ?_
        refine callWl2 wC wM hdis (va_runV (As := [.int (xs (ix (v + 1))), .int (xs (ix (v + 2))), .int (xs (ix (v + 3))), .int (xs (ix (v + 4))), .int (xs (ix (v + 5))), .int (xs (ix (v + 6)))]) (rest := []) S (c_X3_odds l adC D H.size σ (xs (ix (v + 1))) (xs (ix (v + 2))) (xs (ix (v + 3))) (xs (ix (v + 4))) (xs (ix (v + 5))) (xs (ix (v + 6))) okC) (cwV 6 S.2.2.2.2 gL_law_X3_odds rfl rfl rfl ⟨rfl, hd_X3_odds⟩ ⟨Nat.le_of_ble_eq_true rfl, Nat.le_of_ble_eq_true rfl⟩) (preV hKC hN wC (k := 0) (by decide) (eC_0 adC _) (q := (RX3, TX3, 14)) rfl) rfl rfl hl.1 rfl (lv_room (Nat.le_of_ble_eq_true rfl)) dL_law_961 ⟨Nat.le_of_ble_eq_true rfl, Nat.le_of_ble_eq_true rfl⟩) (fun H locs wC wM => ?_)
        refine lv_aload_n hx hb dL_law_964 rfl (lv_at hl 2 rfl) ?_
        refine lv_aload_n hx hb dL_law_965 rfl (lv_at hl 0 rfl) ?_
        refine lv_iload_n hx hb dL_law_966 rfl (lv_at hl 3 rfl) ?_
        refine lv_iconst (v := 1) hx hb dL_law_967 (by decide) ?_
        refine lv_iadd hx hb dL_law_968 ?_
        refine va_sld hx hb hX hbl hbA wC.2.2.1 g1 dL_law_969 ?_
        refine lv_aload_n hx hb dL_law_970 rfl (lv_at hl 0 rfl) ?_
        refine lv_iload_n hx hb dL_law_971 rfl (lv_at hl 3 rfl) ?_
        refine lv_iconst (v := 2) hx hb dL_law_972 (by decide) ?_
        refine lv_iadd hx hb dL_law_973 ?_
        refine va_sld hx hb hX hbl hbA wC.2.2.1 g2 dL_law_974 ?_
        refine lv_aload_n hx hb dL_law_975 rfl (lv_at hl 0 rfl) ?_
        refine lv_iload_n hx hb dL_law_976 rfl (lv_at hl 3 rfl) ?_
        refine lv_iconst (v := 3) hx hb dL_law_977 (by decide) ?_
        refine lv_iadd hx hb dL_law_978 ?_
        refine va_sld hx hb hX hbl hbA wC.2.2.1 g3 dL_law_979 ?_
        refine lv_aload_n hx hb dL_law_980 rfl (lv_at hl 0 rfl) ?_
        refine lv_iload_n hx hb dL_law_981 rfl (lv_at hl 3 rfl) ?_
        refine lv_iconst (v := 4) hx hb dL_law_982 (by decide) ?_
        refine lv_iadd hx hb dL_law_983 ?_
        refine va_sld hx hb hX hbl hbA wC.2.2.1 g4 dL_law_984 ?_
        refine lv_aload_n hx hb dL_law_985 rfl (lv_at hl 0 rfl) ?_
        refine lv_iload_n hx hb dL_law_986 rfl (lv_at hl 3 rfl) ?_
        refine lv_iconst (v := 5) hx hb dL_law_987 (by decide) ?_
        refine lv_iadd hx hb dL_law_988 ?_
        refine va_sld hx hb hX hbl hbA wC.2.2.1 g5 dL_law_989 ?_
        refine lv_aload_n hx hb dL_law_990 rfl (lv_at hl 0 rfl) ?_
        refine lv_iload_n hx hb dL_law_991 rfl (lv_at hl 3 rfl) ?_
        refine lv_bipush (v := 6) hx hb dL_law_992 (by decide) ?_
        refine lv_iadd hx hb dL_law_994 ?_
        refine va_sld hx hb hX hbl hbA wC.2.2.1 g6 dL_law_995 ?_
        refine callWl2 wM wC hdis2 (va_runV (As := [.int (xs (ix (v + 1))), .int (xs (ix (v + 2))), .int (xs (ix (v + 3))), .int (xs (ix (v + 4))), .int (xs (ix (v + 5))), .int (xs (ix (v + 6)))]) (rest := [.long (f_X3_odds σ (xs (ix (v + 1))) (xs (ix (v + 2))) (xs (ix (v + 3))) (xs (ix (v + 4))) (xs (ix (v + 5))) (xs (ix (v + 6)))).1]) S (c_X4_odds l adM D H.size τ (xs (ix (v + 1))) (xs (ix (v + 2))) (xs (ix (v + 3))) (xs (ix (v + 4))) (xs (ix (v + 5))) (xs (ix (v + 6))) okM) (cwV 6 S.2.2.2.2 gL_law_X4_odds rfl rfl rfl ⟨rfl, hd_X4_odds⟩ ⟨Nat.le_of_ble_eq_true rfl, Nat.le_of_ble_eq_true rfl⟩) (preV hKM hN wM (k := 0) (by decide) (eM_0 adM _) (q := (RX4, TX4, 25)) rfl) rfl rfl hl.1 rfl (lv_room (Nat.le_of_ble_eq_true rfl)) dL_law_996 ⟨Nat.le_of_ble_eq_true rfl, Nat.le_of_ble_eq_true rfl⟩) (fun H locs wM wC => ?_)
        refine W.lcmp hx hb dL_law_999 ?_
        have hq := q_odds hR hj (xs (ix (v + 1))) (xs (ix (v + 2))) (xs (ix (v + 3))) (xs (ix (v + 4))) (xs (ix (v + 5))) (xs (ix (v + 6)))
        refine lv_if_eq (tgt := 1402) hx hb dL_law_1000 (by decide) (fun c1000 => ?_) (fun c1000 => ?_)
        · exact K _ _ hq.2 H locs wC wM ls hl
        · exact absurd (by rw [hq.1]; exact lgc_self _) c1000
      by_cases c33_22 : (xs (ix v) &&& 63) = 22
      · refine lv_tableIn (tgt := 1005) hx hb dL_law_33 (by rw [c33_22]; decide) (by rw [c33_22]; decide) (off := 972) (by rw [c33_22]; decide) (by decide) ?_
        refine lv_aload_n hx hb dL_law_1005 rfl (lv_at hl 1 rfl) ?_
        refine lv_aload_n hx hb dL_law_1006 rfl (lv_at hl 0 rfl) ?_
        refine lv_iload_n hx hb dL_law_1007 rfl (lv_at hl 3 rfl) ?_
        refine lv_iconst (v := 1) hx hb dL_law_1008 (by decide) ?_
        refine lv_iadd hx hb dL_law_1009 ?_
        refine va_sld hx hb hX hbl hbA wC.2.2.1 g1 dL_law_1010 ?_
        refine lv_aload_n hx hb dL_law_1011 rfl (lv_at hl 0 rfl) ?_
        refine lv_iload_n hx hb dL_law_1012 rfl (lv_at hl 3 rfl) ?_
        refine lv_iconst (v := 2) hx hb dL_law_1013 (by decide) ?_
        refine lv_iadd hx hb dL_law_1014 ?_
        refine va_sld hx hb hX hbl hbA wC.2.2.1 g2 dL_law_1015 ?_
        refine lv_aload_n hx hb dL_law_1016 rfl (lv_at hl 0 rfl) ?_
        refine lv_iload_n hx hb dL_law_1017 rfl (lv_at hl 3 rfl) ?_
        refine lv_iconst (v := 3) hx hb dL_law_1018 (by decide) ?_
        refine lv_iadd hx hb dL_law_1019 ?_
        refine va_sld hx hb hX hbl hbA wC.2.2.1 g3 dL_law_1020 ?_
        refine lv_aload_n hx hb dL_law_1021 rfl (lv_at hl 0 rfl) ?_
        refine lv_iload_n hx hb dL_law_1022 rfl (lv_at hl 3 rfl) ?_
        refine lv_iconst (v := 4) hx hb dL_law_1023 (by decide) ?_
        refine lv_iadd hx hb dL_law_1024 ?_
        refine va_sld hx hb hX hbl hbA wC.2.2.1 g4 dL_law_1025 ?_
        refine callWi2 wC wM hdis (va_runV (As := [.int (xs (ix (v + 1))), .int (xs (ix (v + 2))), .int (xs (ix (v + 3))), .int (xs (ix (v + 4)))]) (rest := []) S (c_X3_who l adC D H.size σ (xs (ix (v + 1))) (xs (ix (v + 2))) (xs (ix (v + 3))) (xs (ix (v + 4))) okC) (cwV 4 S.2.2.2.2 gL_law_X3_who rfl rfl rfl ⟨rfl, hd_X3_who⟩ ⟨Nat.le_of_ble_eq_true rfl, Nat.le_of_ble_eq_true rfl⟩) (preV hKC hN wC (k := 0) (by decide) (eC_0 adC _) (q := (RX3, TX3, 14)) rfl) rfl rfl hl.1 rfl (lv_room (Nat.le_of_ble_eq_true rfl)) dL_law_1026 ⟨Nat.le_of_ble_eq_true rfl, Nat.le_of_ble_eq_true rfl⟩) (fun H locs wC wM => ?_)
        refine lv_aload_n hx hb dL_law_1029 rfl (lv_at hl 2 rfl) ?_
        refine lv_aload_n hx hb dL_law_1030 rfl (lv_at hl 0 rfl) ?_
        refine lv_iload_n hx hb dL_law_1031 rfl (lv_at hl 3 rfl) ?_
        refine lv_iconst (v := 1) hx hb dL_law_1032 (by decide) ?_
        refine lv_iadd hx hb dL_law_1033 ?_
        refine va_sld hx hb hX hbl hbA wC.2.2.1 g1 dL_law_1034 ?_
        refine lv_aload_n hx hb dL_law_1035 rfl (lv_at hl 0 rfl) ?_
        refine lv_iload_n hx hb dL_law_1036 rfl (lv_at hl 3 rfl) ?_
        refine lv_iconst (v := 2) hx hb dL_law_1037 (by decide) ?_
        refine lv_iadd hx hb dL_law_1038 ?_
        refine va_sld hx hb hX hbl hbA wC.2.2.1 g2 dL_law_1039 ?_
        refine lv_aload_n hx hb dL_law_1040 rfl (lv_at hl 0 rfl) ?_
        refine lv_iload_n hx hb dL_law_1041 rfl (lv_at hl 3 rfl) ?_
        refine lv_iconst (v := 3) hx hb dL_law_1042 (by decide) ?_
        refine lv_iadd hx hb dL_law_1043 ?_
        refine va_sld hx hb hX hbl hbA wC.2.2.1 g3 dL_law_1044 ?_
        refine lv_aload_n hx hb dL_law_1045 rfl (lv_at hl 0 rfl) ?_
        refine lv_iload_n hx hb dL_law_1046 rfl (lv_at hl 3 rfl) ?_
        refine lv_iconst (v := 4) hx hb dL_law_1047 (by decide) ?_
        refine lv_iadd hx hb dL_law_1048 ?_
        refine va_sld hx hb hX hbl hbA wC.2.2.1 g4 dL_law_1049 ?_
        refine callWi2 wM wC hdis2 (va_runV (As := [.int (xs (ix (v + 1))), .int (xs (ix (v + 2))), .int (xs (ix (v + 3))), .int (xs (ix (v + 4)))]) (rest := [.int (f_X3_who σ (xs (ix (v + 1))) (xs (ix (v + 2))) (xs (ix (v + 3))) (xs (ix (v + 4)))).1]) S (c_X4_who l adM D H.size τ (xs (ix (v + 1))) (xs (ix (v + 2))) (xs (ix (v + 3))) (xs (ix (v + 4))) okM) (cwV 4 S.2.2.2.2 gL_law_X4_who rfl rfl rfl ⟨rfl, hd_X4_who⟩ ⟨Nat.le_of_ble_eq_true rfl, Nat.le_of_ble_eq_true rfl⟩) (preV hKM hN wM (k := 0) (by decide) (eM_0 adM _) (q := (RX4, TX4, 25)) rfl) rfl rfl hl.1 rfl (lv_room (Nat.le_of_ble_eq_true rfl)) dL_law_1050 ⟨Nat.le_of_ble_eq_true rfl, Nat.le_of_ble_eq_true rfl⟩) (fun H locs wM wC => ?_)
        have hq := q_who hR hj (xs (ix (v + 1))) (xs (ix (v + 2))) (xs (ix (v + 3))) (xs (ix (v + 4)))
        refine lv_icmp_eq (tgt := 1402) hx hb dL_law_1053 (by decide) (fun c1053 => ?_) (fun c1053 => ?_)
        · exact K _ _ hq.2 H locs wC wM ls hl
        · exact absurd hq.1 c1053
      by_cases c33_23 : (xs (ix v) &&& 63) = 23
      · refine lv_tableIn (tgt := 1058) hx hb dL_law_33 (by rw [c33_23]; decide) (by rw [c33_23]; decide) (off := 1025) (by rw [c33_23]; decide) (by decide) ?_
        refine lv_aload_n hx hb dL_law_1058 rfl (lv_at hl 1 rfl) ?_
        refine lv_aload_n hx hb dL_law_1059 rfl (lv_at hl 0 rfl) ?_
        refine lv_iload_n hx hb dL_law_1060 rfl (lv_at hl 3 rfl) ?_
        refine lv_iconst (v := 1) hx hb dL_law_1061 (by decide) ?_
        refine lv_iadd hx hb dL_law_1062 ?_
        refine va_sld hx hb hX hbl hbA wC.2.2.1 g1 dL_law_1063 ?_
        refine lv_aload_n hx hb dL_law_1064 rfl (lv_at hl 0 rfl) ?_
        refine lv_iload_n hx hb dL_law_1065 rfl (lv_at hl 3 rfl) ?_
        refine lv_iconst (v := 2) hx hb dL_law_1066 (by decide) ?_
        refine lv_iadd hx hb dL_law_1067 ?_
        refine va_sld hx hb hX hbl hbA wC.2.2.1 g2 dL_law_1068 ?_
        refine lv_aload_n hx hb dL_law_1069 rfl (lv_at hl 0 rfl) ?_
        refine lv_iload_n hx hb dL_law_1070 rfl (lv_at hl 3 rfl) ?_
        refine lv_iconst (v := 3) hx hb dL_law_1071 (by decide) ?_
        refine lv_iadd hx hb dL_law_1072 ?_
        refine va_sld hx hb hX hbl hbA wC.2.2.1 g3 dL_law_1073 ?_
        refine callWi2 wC wM hdis (va_runV (As := [.int (xs (ix (v + 1))), .int (xs (ix (v + 2))), .int (xs (ix (v + 3)))]) (rest := []) S (c_X3_sheet l adC D H.size σ (xs (ix (v + 1))) (xs (ix (v + 2))) (xs (ix (v + 3)))) (cwV 3 S.2.2.2.2 gL_law_X3_sheet rfl rfl rfl ⟨rfl, hd_X3_sheet⟩ ⟨Nat.le_of_ble_eq_true rfl, Nat.le_of_ble_eq_true rfl⟩) (preV hKC hN wC (k := 0) (by decide) (eC_0 adC _) (q := (RX3, TX3, 14)) rfl) rfl rfl hl.1 rfl (lv_room (Nat.le_of_ble_eq_true rfl)) dL_law_1074 ⟨Nat.le_of_ble_eq_true rfl, Nat.le_of_ble_eq_true rfl⟩) (fun H locs wC wM => ?_)
        refine lv_aload_n hx hb dL_law_1077 rfl (lv_at hl 2 rfl) ?_
        refine lv_aload_n hx hb dL_law_1078 rfl (lv_at hl 0 rfl) ?_
        refine lv_iload_n hx hb dL_law_1079 rfl (lv_at hl 3 rfl) ?_
        refine lv_iconst (v := 1) hx hb dL_law_1080 (by decide) ?_
        refine lv_iadd hx hb dL_law_1081 ?_
        refine va_sld hx hb hX hbl hbA wC.2.2.1 g1 dL_law_1082 ?_
        refine lv_aload_n hx hb dL_law_1083 rfl (lv_at hl 0 rfl) ?_
        refine lv_iload_n hx hb dL_law_1084 rfl (lv_at hl 3 rfl) ?_
        refine lv_iconst (v := 2) hx hb dL_law_1085 (by decide) ?_
        refine lv_iadd hx hb dL_law_1086 ?_
        refine va_sld hx hb hX hbl hbA wC.2.2.1 g2 dL_law_1087 ?_
        refine lv_aload_n hx hb dL_law_1088 rfl (lv_at hl 0 rfl) ?_
        refine lv_iload_n hx hb dL_law_1089 rfl (lv_at hl 3 rfl) ?_
        refine lv_iconst (v := 3) hx hb dL_law_1090 (by decide) ?_
        refine lv_iadd hx hb dL_law_1091 ?_
        refine va_sld hx hb hX hbl hbA wC.2.2.1 g3 dL_law_1092 ?_
        refine callWi2 wM wC hdis2 (va_runV (As := [.int (xs (ix (v + 1))), .int (xs (ix (v + 2))), .int (xs (ix (v + 3)))]) (rest := [.int (f_X3_sheet σ (xs (ix (v + 1))) (xs (ix (v + 2))) (xs (ix (v + 3)))).1]) S (c_X4_sheet l adM D H.size τ (xs (ix (v + 1))) (xs (ix (v + 2))) (xs (ix (v + 3)))) (cwV 3 S.2.2.2.2 gL_law_X4_sheet rfl rfl rfl ⟨rfl, hd_X4_sheet⟩ ⟨Nat.le_of_ble_eq_true rfl, Nat.le_of_ble_eq_true rfl⟩) (preV hKM hN wM (k := 0) (by decide) (eM_0 adM _) (q := (RX4, TX4, 25)) rfl) rfl rfl hl.1 rfl (lv_room (Nat.le_of_ble_eq_true rfl)) dL_law_1093 ⟨Nat.le_of_ble_eq_true rfl, Nat.le_of_ble_eq_true rfl⟩) (fun H locs wM wC => ?_)
        have hq := q_sheet hR hj (xs (ix (v + 1))) (xs (ix (v + 2))) (xs (ix (v + 3)))
        refine lv_icmp_eq (tgt := 1402) hx hb dL_law_1096 (by decide) (fun c1096 => ?_) (fun c1096 => ?_)
        · exact K _ _ hq.2 H locs wC wM ls hl
        · exact absurd hq.1 c1096
      by_cases c33_24 : (xs (ix v) &&& 63) = 24
      · refine lv_tableIn (tgt := 1101) hx hb dL_law_33 (by rw [c33_24]; decide) (by rw [c33_24]; decide) (off := 1068) (by rw [c33_24]; decide) (by decide) ?_
        refine lv_aload_n hx hb dL_law_1101 rfl (lv_at hl 1 rfl) ?_
        refine lv_aload_n hx hb dL_law_1102 rfl (lv_at hl 0 rfl) ?_
        refine lv_iload_n hx hb dL_law_1103 rfl (lv_at hl 3 rfl) ?_
        refine lv_iconst (v := 1) hx hb dL_law_1104 (by decide) ?_
        refine lv_iadd hx hb dL_law_1105 ?_
        refine va_sld hx hb hX hbl hbA wC.2.2.1 g1 dL_law_1106 ?_
        refine callWi2 wC wM hdis (va_runV (As := [.int (xs (ix (v + 1)))]) (rest := []) S (c_X3_lose l adC D H.size σ (xs (ix (v + 1)))) (cwV 1 S.2.2.2.2 gL_law_X3_lose rfl rfl rfl ⟨rfl, hd_X3_lose⟩ ⟨Nat.le_of_ble_eq_true rfl, Nat.le_of_ble_eq_true rfl⟩) (preV hKC hN wC (k := 0) (by decide) (eC_0 adC _) (q := (RX3, TX3, 14)) rfl) rfl rfl hl.1 rfl (lv_room (Nat.le_of_ble_eq_true rfl)) dL_law_1107 ⟨Nat.le_of_ble_eq_true rfl, Nat.le_of_ble_eq_true rfl⟩) (fun H locs wC wM => ?_)
        refine lv_aload_n hx hb dL_law_1110 rfl (lv_at hl 2 rfl) ?_
        refine lv_aload_n hx hb dL_law_1111 rfl (lv_at hl 0 rfl) ?_
        refine lv_iload_n hx hb dL_law_1112 rfl (lv_at hl 3 rfl) ?_
        refine lv_iconst (v := 1) hx hb dL_law_1113 (by decide) ?_
        refine lv_iadd hx hb dL_law_1114 ?_
        refine va_sld hx hb hX hbl hbA wC.2.2.1 g1 dL_law_1115 ?_
        refine callWi2 wM wC hdis2 (va_runV (As := [.int (xs (ix (v + 1)))]) (rest := [.int (f_X3_lose σ (xs (ix (v + 1)))).1]) S (c_X4_lose l adM D H.size τ (xs (ix (v + 1)))) (cwV 1 S.2.2.2.2 gL_law_X4_lose rfl rfl rfl ⟨rfl, hd_X4_lose⟩ ⟨Nat.le_of_ble_eq_true rfl, Nat.le_of_ble_eq_true rfl⟩) (preV hKM hN wM (k := 0) (by decide) (eM_0 adM _) (q := (RX4, TX4, 25)) rfl) rfl rfl hl.1 rfl (lv_room (Nat.le_of_ble_eq_true rfl)) dL_law_1116 ⟨Nat.le_of_ble_eq_true rfl, Nat.le_of_ble_eq_true rfl⟩) (fun H locs wM wC => ?_)
        have hq := q_lose hR hj (xs (ix (v + 1)))
        refine lv_icmp_eq (tgt := 1402) hx hb dL_law_1119 (by decide) (fun c1119 => ?_) (fun c1119 => ?_)
        · exact K _ _ hq.2 H locs wC wM ls hl
        · exact absurd hq.1 c1119
      by_cases c33_25 : (xs (ix v) &&& 63) = 25
      · refine lv_tableIn (tgt := 1124) hx hb dL_law_33 (by rw [c33_25]; decide) (by rw [c33_25]; decide) (off := 1091) (by rw [c33_25]; decide) (by decide) ?_
        refine lv_aload_n hx hb dL_law_1124 rfl (lv_at hl 1 rfl) ?_
        refine lv_aload_n hx hb dL_law_1125 rfl (lv_at hl 0 rfl) ?_
        refine lv_iload_n hx hb dL_law_1126 rfl (lv_at hl 3 rfl) ?_
        refine lv_iconst (v := 1) hx hb dL_law_1127 (by decide) ?_
        refine lv_iadd hx hb dL_law_1128 ?_
        refine va_sld hx hb hX hbl hbA wC.2.2.1 g1 dL_law_1129 ?_
        refine lv_aload_n hx hb dL_law_1130 rfl (lv_at hl 0 rfl) ?_
        refine lv_iload_n hx hb dL_law_1131 rfl (lv_at hl 3 rfl) ?_
        refine lv_iconst (v := 2) hx hb dL_law_1132 (by decide) ?_
        refine lv_iadd hx hb dL_law_1133 ?_
        refine va_sld hx hb hX hbl hbA wC.2.2.1 g2 dL_law_1134 ?_
        refine lv_aload_n hx hb dL_law_1135 rfl (lv_at hl 0 rfl) ?_
        refine lv_iload_n hx hb dL_law_1136 rfl (lv_at hl 3 rfl) ?_
        refine lv_iconst (v := 3) hx hb dL_law_1137 (by decide) ?_
        refine lv_iadd hx hb dL_law_1138 ?_
        refine va_sld hx hb hX hbl hbA wC.2.2.1 g3 dL_law_1139 ?_
        refine callWi2 wC wM hdis (va_runV (As := [.int (xs (ix (v + 1))), .int (xs (ix (v + 2))), .int (xs (ix (v + 3)))]) (rest := []) S (c_X3_put l adC D H.size σ (xs (ix (v + 1))) (xs (ix (v + 2))) (xs (ix (v + 3))) okC) (cwV 3 S.2.2.2.2 gL_law_X3_put rfl rfl rfl ⟨rfl, hd_X3_put⟩ ⟨Nat.le_of_ble_eq_true rfl, Nat.le_of_ble_eq_true rfl⟩) (preV hKC hN wC (k := 0) (by decide) (eC_0 adC _) (q := (RX3, TX3, 14)) rfl) rfl rfl hl.1 rfl (lv_room (Nat.le_of_ble_eq_true rfl)) dL_law_1140 ⟨Nat.le_of_ble_eq_true rfl, Nat.le_of_ble_eq_true rfl⟩) (fun H locs wC wM => ?_)
        refine lv_aload_n hx hb dL_law_1143 rfl (lv_at hl 2 rfl) ?_
        refine lv_aload_n hx hb dL_law_1144 rfl (lv_at hl 0 rfl) ?_
        refine lv_iload_n hx hb dL_law_1145 rfl (lv_at hl 3 rfl) ?_
        refine lv_iconst (v := 1) hx hb dL_law_1146 (by decide) ?_
        refine lv_iadd hx hb dL_law_1147 ?_
        refine va_sld hx hb hX hbl hbA wC.2.2.1 g1 dL_law_1148 ?_
        refine lv_aload_n hx hb dL_law_1149 rfl (lv_at hl 0 rfl) ?_
        refine lv_iload_n hx hb dL_law_1150 rfl (lv_at hl 3 rfl) ?_
        refine lv_iconst (v := 2) hx hb dL_law_1151 (by decide) ?_
        refine lv_iadd hx hb dL_law_1152 ?_
        refine va_sld hx hb hX hbl hbA wC.2.2.1 g2 dL_law_1153 ?_
        refine lv_aload_n hx hb dL_law_1154 rfl (lv_at hl 0 rfl) ?_
        refine lv_iload_n hx hb dL_law_1155 rfl (lv_at hl 3 rfl) ?_
        refine lv_iconst (v := 3) hx hb dL_law_1156 (by decide) ?_
        refine lv_iadd hx hb dL_law_1157 ?_
        refine va_sld hx hb hX hbl hbA wC.2.2.1 g3 dL_law_1158 ?_
        refine callWi2 wM wC hdis2 (va_runV (As := [.int (xs (ix (v + 1))), .int (xs (ix (v + 2))), .int (xs (ix (v + 3)))]) (rest := [.int (f_X3_put σ (xs (ix (v + 1))) (xs (ix (v + 2))) (xs (ix (v + 3)))).1]) S (c_X4_put l adM D H.size τ (xs (ix (v + 1))) (xs (ix (v + 2))) (xs (ix (v + 3))) okM) (cwV 3 S.2.2.2.2 gL_law_X4_put rfl rfl rfl ⟨rfl, hd_X4_put⟩ ⟨Nat.le_of_ble_eq_true rfl, Nat.le_of_ble_eq_true rfl⟩) (preV hKM hN wM (k := 0) (by decide) (eM_0 adM _) (q := (RX4, TX4, 25)) rfl) rfl rfl hl.1 rfl (lv_room (Nat.le_of_ble_eq_true rfl)) dL_law_1159 ⟨Nat.le_of_ble_eq_true rfl, Nat.le_of_ble_eq_true rfl⟩) (fun H locs wM wC => ?_)
        have hq := q_put hR hj (xs (ix (v + 1))) (xs (ix (v + 2))) (xs (ix (v + 3)))
        refine lv_icmp_eq (tgt := 1402) hx hb dL_law_1162 (by decide) (fun c1162 => ?_) (fun c1162 => ?_)
        · exact K _ _ hq.2 H locs wC wM ls hl
        · exact absurd hq.1 c1162
      by_cases c33_26 : (xs (ix v) &&& 63) = 26
      · refine lv_tableIn (tgt := 1167) hx hb dL_law_33 (by rw [c33_26]; decide) (by rw [c33_26]; decide) (off := 1134) (by rw [c33_26]; decide) (by decide) ?_
        refine lv_aload_n hx hb dL_law_1167 rfl (lv_at hl 1 rfl) ?_
        refine lv_aload_n hx hb dL_law_1168 rfl (lv_at hl 0 rfl) ?_
        refine lv_iload_n hx hb dL_law_1169 rfl (lv_at hl 3 rfl) ?_
        refine lv_iconst (v := 1) hx hb dL_law_1170 (by decide) ?_
        refine lv_iadd hx hb dL_law_1171 ?_
        refine va_sld hx hb hX hbl hbA wC.2.2.1 g1 dL_law_1172 ?_
        refine lv_aload_n hx hb dL_law_1173 rfl (lv_at hl 0 rfl) ?_
        refine lv_iload_n hx hb dL_law_1174 rfl (lv_at hl 3 rfl) ?_
        refine lv_iconst (v := 2) hx hb dL_law_1175 (by decide) ?_
        refine lv_iadd hx hb dL_law_1176 ?_
        refine va_sld hx hb hX hbl hbA wC.2.2.1 g2 dL_law_1177 ?_
        refine lv_aload_n hx hb dL_law_1178 rfl (lv_at hl 0 rfl) ?_
        refine lv_iload_n hx hb dL_law_1179 rfl (lv_at hl 3 rfl) ?_
        refine lv_iconst (v := 3) hx hb dL_law_1180 (by decide) ?_
        refine lv_iadd hx hb dL_law_1181 ?_
        refine va_sld hx hb hX hbl hbA wC.2.2.1 g3 dL_law_1182 ?_
        refine callWl2 wC wM hdis (va_runV (As := [.int (xs (ix (v + 1))), .int (xs (ix (v + 2))), .int (xs (ix (v + 3)))]) (rest := []) S (c_X3_cell l adC D H.size σ (xs (ix (v + 1))) (xs (ix (v + 2))) (xs (ix (v + 3))) okC) (cwV 3 S.2.2.2.2 gL_law_X3_cell rfl rfl rfl ⟨rfl, hd_X3_cell⟩ ⟨Nat.le_of_ble_eq_true rfl, Nat.le_of_ble_eq_true rfl⟩) (preV hKC hN wC (k := 0) (by decide) (eC_0 adC _) (q := (RX3, TX3, 14)) rfl) rfl rfl hl.1 rfl (lv_room (Nat.le_of_ble_eq_true rfl)) dL_law_1183 ⟨Nat.le_of_ble_eq_true rfl, Nat.le_of_ble_eq_true rfl⟩) (fun H locs wC wM => ?_)
        refine lv_aload_n hx hb dL_law_1186 rfl (lv_at hl 2 rfl) ?_
        refine lv_aload_n hx hb dL_law_1187 rfl (lv_at hl 0 rfl) ?_
        refine lv_iload_n hx hb dL_law_1188 rfl (lv_at hl 3 rfl) ?_
        refine lv_iconst (v := 1) hx hb dL_law_1189 (by decide) ?_
        refine lv_iadd hx hb dL_law_1190 ?_
        refine va_sld hx hb hX hbl hbA wC.2.2.1 g1 dL_law_1191 ?_
        refine lv_aload_n hx hb dL_law_1192 rfl (lv_at hl 0 rfl) ?_
        refine lv_iload_n hx hb dL_law_1193 rfl (lv_at hl 3 rfl) ?_
        refine lv_iconst (v := 2) hx hb dL_law_1194 (by decide) ?_
        refine lv_iadd hx hb dL_law_1195 ?_
        refine va_sld hx hb hX hbl hbA wC.2.2.1 g2 dL_law_1196 ?_
        refine lv_aload_n hx hb dL_law_1197 rfl (lv_at hl 0 rfl) ?_
        refine lv_iload_n hx hb dL_law_1198 rfl (lv_at hl 3 rfl) ?_
        refine lv_iconst (v := 3) hx hb dL_law_1199 (by decide) ?_
        refine lv_iadd hx hb dL_law_1200 ?_
        refine va_sld hx hb hX hbl hbA wC.2.2.1 g3 dL_law_1201 ?_
        refine callWl2 wM wC hdis2 (va_runV (As := [.int (xs (ix (v + 1))), .int (xs (ix (v + 2))), .int (xs (ix (v + 3)))]) (rest := [.long (f_X3_cell σ (xs (ix (v + 1))) (xs (ix (v + 2))) (xs (ix (v + 3)))).1]) S (c_X4_cell l adM D H.size τ (xs (ix (v + 1))) (xs (ix (v + 2))) (xs (ix (v + 3))) okM) (cwV 3 S.2.2.2.2 gL_law_X4_cell rfl rfl rfl ⟨rfl, hd_X4_cell⟩ ⟨Nat.le_of_ble_eq_true rfl, Nat.le_of_ble_eq_true rfl⟩) (preV hKM hN wM (k := 0) (by decide) (eM_0 adM _) (q := (RX4, TX4, 25)) rfl) rfl rfl hl.1 rfl (lv_room (Nat.le_of_ble_eq_true rfl)) dL_law_1202 ⟨Nat.le_of_ble_eq_true rfl, Nat.le_of_ble_eq_true rfl⟩) (fun H locs wM wC => ?_)
        refine W.lcmp hx hb dL_law_1205 ?_
        have hq := q_cell hR hj (xs (ix (v + 1))) (xs (ix (v + 2))) (xs (ix (v + 3)))
        refine lv_if_eq (tgt := 1402) hx hb dL_law_1206 (by decide) (fun c1206 => ?_) (fun c1206 => ?_)
        · exact K _ _ hq.2 H locs wC wM ls hl
        · exact absurd (by rw [hq.1]; exact lgc_self _) c1206
      by_cases c33_27 : (xs (ix v) &&& 63) = 27
      · refine lv_tableIn (tgt := 1211) hx hb dL_law_33 (by rw [c33_27]; decide) (by rw [c33_27]; decide) (off := 1178) (by rw [c33_27]; decide) (by decide) ?_
        refine lv_aload_n hx hb dL_law_1211 rfl (lv_at hl 1 rfl) ?_
        refine lv_aload_n hx hb dL_law_1212 rfl (lv_at hl 0 rfl) ?_
        refine lv_iload_n hx hb dL_law_1213 rfl (lv_at hl 3 rfl) ?_
        refine lv_iconst (v := 1) hx hb dL_law_1214 (by decide) ?_
        refine lv_iadd hx hb dL_law_1215 ?_
        refine va_sld hx hb hX hbl hbA wC.2.2.1 g1 dL_law_1216 ?_
        refine lv_aload_n hx hb dL_law_1217 rfl (lv_at hl 0 rfl) ?_
        refine lv_iload_n hx hb dL_law_1218 rfl (lv_at hl 3 rfl) ?_
        refine lv_iconst (v := 2) hx hb dL_law_1219 (by decide) ?_
        refine lv_iadd hx hb dL_law_1220 ?_
        refine va_sld hx hb hX hbl hbA wC.2.2.1 g2 dL_law_1221 ?_
        refine lv_aload_n hx hb dL_law_1222 rfl (lv_at hl 0 rfl) ?_
        refine lv_iload_n hx hb dL_law_1223 rfl (lv_at hl 3 rfl) ?_
        refine lv_iconst (v := 3) hx hb dL_law_1224 (by decide) ?_
        refine lv_iadd hx hb dL_law_1225 ?_
        refine va_sld hx hb hX hbl hbA wC.2.2.1 g3 dL_law_1226 ?_
        refine lv_aload_n hx hb dL_law_1227 rfl (lv_at hl 0 rfl) ?_
        refine lv_iload_n hx hb dL_law_1228 rfl (lv_at hl 3 rfl) ?_
        refine lv_iconst (v := 4) hx hb dL_law_1229 (by decide) ?_
        refine lv_iadd hx hb dL_law_1230 ?_
        refine va_sld hx hb hX hbl hbA wC.2.2.1 g4 dL_law_1231 ?_
        refine lv_aload_n hx hb dL_law_1232 rfl (lv_at hl 0 rfl) ?_
        refine lv_iload_n hx hb dL_law_1233 rfl (lv_at hl 3 rfl) ?_
        refine lv_iconst (v := 5) hx hb dL_law_1234 (by decide) ?_
        refine lv_iadd hx hb dL_law_1235 ?_
        refine va_sld hx hb hX hbl hbA wC.2.2.1 g5 dL_law_1236 ?_
        refine callWi2 wC wM hdis (va_runV (As := [.int (xs (ix (v + 1))), .int (xs (ix (v + 2))), .int (xs (ix (v + 3))), .int (xs (ix (v + 4))), .int (xs (ix (v + 5)))]) (rest := []) S (c_X3_copy l adC D H.size σ (xs (ix (v + 1))) (xs (ix (v + 2))) (xs (ix (v + 3))) (xs (ix (v + 4))) (xs (ix (v + 5))) okC) (cwV 5 S.2.2.2.2 gL_law_X3_copy rfl rfl rfl ⟨rfl, hd_X3_copy⟩ ⟨Nat.le_of_ble_eq_true rfl, Nat.le_of_ble_eq_true rfl⟩) (preV hKC hN wC (k := 0) (by decide) (eC_0 adC _) (q := (RX3, TX3, 14)) rfl) rfl rfl hl.1 rfl (lv_room (Nat.le_of_ble_eq_true rfl)) dL_law_1237 ⟨Nat.le_of_ble_eq_true rfl, Nat.le_of_ble_eq_true rfl⟩) (fun H locs wC wM => ?_)
        refine lv_aload_n hx hb dL_law_1240 rfl (lv_at hl 2 rfl) ?_
        refine lv_aload_n hx hb dL_law_1241 rfl (lv_at hl 0 rfl) ?_
        refine lv_iload_n hx hb dL_law_1242 rfl (lv_at hl 3 rfl) ?_
        refine lv_iconst (v := 1) hx hb dL_law_1243 (by decide) ?_
        refine lv_iadd hx hb dL_law_1244 ?_
        refine va_sld hx hb hX hbl hbA wC.2.2.1 g1 dL_law_1245 ?_
        refine lv_aload_n hx hb dL_law_1246 rfl (lv_at hl 0 rfl) ?_
        refine lv_iload_n hx hb dL_law_1247 rfl (lv_at hl 3 rfl) ?_
        refine lv_iconst (v := 2) hx hb dL_law_1248 (by decide) ?_
        refine lv_iadd hx hb dL_law_1249 ?_
        refine va_sld hx hb hX hbl hbA wC.2.2.1 g2 dL_law_1250 ?_
        refine lv_aload_n hx hb dL_law_1251 rfl (lv_at hl 0 rfl) ?_
        refine lv_iload_n hx hb dL_law_1252 rfl (lv_at hl 3 rfl) ?_
        refine lv_iconst (v := 3) hx hb dL_law_1253 (by decide) ?_
        refine lv_iadd hx hb dL_law_1254 ?_
        refine va_sld hx hb hX hbl hbA wC.2.2.1 g3 dL_law_1255 ?_
        refine lv_aload_n hx hb dL_law_1256 rfl (lv_at hl 0 rfl) ?_
        refine lv_iload_n hx hb dL_law_1257 rfl (lv_at hl 3 rfl) ?_
        refine lv_iconst (v := 4) hx hb dL_law_1258 (by decide) ?_
        refine lv_iadd hx hb dL_law_1259 ?_
        refine va_sld hx hb hX hbl hbA wC.2.2.1 g4 dL_law_1260 ?_
        refine lv_aload_n hx hb dL_law_1261 rfl (lv_at hl 0 rfl) ?_
        refine lv_iload_n hx hb dL_law_1262 rfl (lv_at hl 3 rfl) ?_
        refine lv_iconst (v := 5) hx hb dL_law_1263 (by decide) ?_
        refine lv_iadd hx hb dL_law_1264 ?_
        refine va_sld hx hb hX hbl hbA wC.2.2.1 g5 dL_law_1265 ?_
        refine callWi2 wM wC hdis2 (va_runV (As := [.int (xs (ix (v + 1))), .int (xs (ix (v + 2))), .int (xs (ix (v + 3))), .int (xs (ix (v + 4))), .int (xs (ix (v + 5)))]) (rest := [.int (f_X3_copy σ (xs (ix (v + 1))) (xs (ix (v + 2))) (xs (ix (v + 3))) (xs (ix (v + 4))) (xs (ix (v + 5)))).1]) S (c_X4_copy l adM D H.size τ (xs (ix (v + 1))) (xs (ix (v + 2))) (xs (ix (v + 3))) (xs (ix (v + 4))) (xs (ix (v + 5))) okM) (cwV 5 S.2.2.2.2 gL_law_X4_copy rfl rfl rfl ⟨rfl, hd_X4_copy⟩ ⟨Nat.le_of_ble_eq_true rfl, Nat.le_of_ble_eq_true rfl⟩) (preV hKM hN wM (k := 0) (by decide) (eM_0 adM _) (q := (RX4, TX4, 25)) rfl) rfl rfl hl.1 rfl (lv_room (Nat.le_of_ble_eq_true rfl)) dL_law_1266 ⟨Nat.le_of_ble_eq_true rfl, Nat.le_of_ble_eq_true rfl⟩) (fun H locs wM wC => ?_)
        have hq := q_copy hR hj (xs (ix (v + 1))) (xs (ix (v + 2))) (xs (ix (v + 3))) (xs (ix (v + 4))) (xs (ix (v + 5)))
        refine lv_icmp_eq (tgt := 1402) hx hb dL_law_1269 (by decide) (fun c1269 => ?_) (fun c1269 => ?_)
        · exact K _ _ hq.2 H locs wC wM ls hl
        · exact absurd hq.1 c1269
      by_cases c33_28 : (xs (ix v) &&& 63) = 28
      · refine lv_tableIn (tgt := 1274) hx hb dL_law_33 (by rw [c33_28]; decide) (by rw [c33_28]; decide) (off := 1241) (by rw [c33_28]; decide) (by decide) ?_
        refine lv_aload_n hx hb dL_law_1274 rfl (lv_at hl 1 rfl) ?_
        refine lv_aload_n hx hb dL_law_1275 rfl (lv_at hl 0 rfl) ?_
        refine lv_iload_n hx hb dL_law_1276 rfl (lv_at hl 3 rfl) ?_
        refine lv_iconst (v := 1) hx hb dL_law_1277 (by decide) ?_
        refine lv_iadd hx hb dL_law_1278 ?_
        refine va_sld hx hb hX hbl hbA wC.2.2.1 g1 dL_law_1279 ?_
        refine callWi2 wC wM hdis (va_runV (As := [.int (xs (ix (v + 1)))]) (rest := []) S (c_X3_tell l adC D H.size σ (xs (ix (v + 1))) okC) (cwV 1 S.2.2.2.2 gL_law_X3_tell rfl rfl rfl ⟨rfl, hd_X3_tell⟩ ⟨Nat.le_of_ble_eq_true rfl, Nat.le_of_ble_eq_true rfl⟩) (preV hKC hN wC (k := 0) (by decide) (eC_0 adC _) (q := (RX3, TX3, 14)) rfl) rfl rfl hl.1 rfl (lv_room (Nat.le_of_ble_eq_true rfl)) dL_law_1280 ⟨Nat.le_of_ble_eq_true rfl, Nat.le_of_ble_eq_true rfl⟩) (fun H locs wC wM => ?_)
        refine lv_aload_n hx hb dL_law_1283 rfl (lv_at hl 2 rfl) ?_
        refine lv_aload_n hx hb dL_law_1284 rfl (lv_at hl 0 rfl) ?_
        refine lv_iload_n hx hb dL_law_1285 rfl (lv_at hl 3 rfl) ?_
        refine lv_iconst (v := 1) hx hb dL_law_1286 (by decide) ?_
        refine lv_iadd hx hb dL_law_1287 ?_
        refine va_sld hx hb hX hbl hbA wC.2.2.1 g1 dL_law_1288 ?_
        refine callWi2 wM wC hdis2 (va_runV (As := [.int (xs (ix (v + 1)))]) (rest := [.int (f_X3_tell σ (xs (ix (v + 1)))).1]) S (c_X4_tell l adM D H.size τ (xs (ix (v + 1))) okM) (cwV 1 S.2.2.2.2 gL_law_X4_tell rfl rfl rfl ⟨rfl, hd_X4_tell⟩ ⟨Nat.le_of_ble_eq_true rfl, Nat.le_of_ble_eq_true rfl⟩) (preV hKM hN wM (k := 0) (by decide) (eM_0 adM _) (q := (RX4, TX4, 25)) rfl) rfl rfl hl.1 rfl (lv_room (Nat.le_of_ble_eq_true rfl)) dL_law_1289 ⟨Nat.le_of_ble_eq_true rfl, Nat.le_of_ble_eq_true rfl⟩) (fun H locs wM wC => ?_)
        have hq := q_tell hR hj (xs (ix (v + 1)))
        refine lv_icmp_eq (tgt := 1402) hx hb dL_law_1292 (by decide) (fun c1292 => ?_) (fun c1292 => ?_)
        · exact K _ _ hq.2 H locs wC wM ls hl
        · exact absurd hq.1 c1292
      by_cases c33_29 : (xs (ix v) &&& 63) = 29
      · refine lv_tableIn (tgt := 1297) hx hb dL_law_33 (by rw [c33_29]; decide) (by rw [c33_29]; decide) (off := 1264) (by rw [c33_29]; decide) (by decide) ?_
        refine lv_aload_n hx hb dL_law_1297 rfl (lv_at hl 1 rfl) ?_
        refine lv_aload_n hx hb dL_law_1298 rfl (lv_at hl 0 rfl) ?_
        refine lv_iload_n hx hb dL_law_1299 rfl (lv_at hl 3 rfl) ?_
        refine lv_iconst (v := 1) hx hb dL_law_1300 (by decide) ?_
        refine lv_iadd hx hb dL_law_1301 ?_
        refine va_sld hx hb hX hbl hbA wC.2.2.1 g1 dL_law_1302 ?_
        refine callWi2 wC wM hdis (va_runV (As := [.int (xs (ix (v + 1)))]) (rest := []) S (c_X3_stop l adC D H.size σ (xs (ix (v + 1))) okC) (cwV 1 S.2.2.2.2 gL_law_X3_stop rfl rfl rfl ⟨rfl, hd_X3_stop⟩ ⟨Nat.le_of_ble_eq_true rfl, Nat.le_of_ble_eq_true rfl⟩) (preV hKC hN wC (k := 0) (by decide) (eC_0 adC _) (q := (RX3, TX3, 14)) rfl) rfl rfl hl.1 rfl (lv_room (Nat.le_of_ble_eq_true rfl)) dL_law_1303 ⟨Nat.le_of_ble_eq_true rfl, Nat.le_of_ble_eq_true rfl⟩) (fun H locs wC wM => ?_)
        refine lv_aload_n hx hb dL_law_1306 rfl (lv_at hl 2 rfl) ?_
        refine lv_aload_n hx hb dL_law_1307 rfl (lv_at hl 0 rfl) ?_
        refine lv_iload_n hx hb dL_law_1308 rfl (lv_at hl 3 rfl) ?_
        refine lv_iconst (v := 1) hx hb dL_law_1309 (by decide) ?_
        refine lv_iadd hx hb dL_law_1310 ?_
        refine va_sld hx hb hX hbl hbA wC.2.2.1 g1 dL_law_1311 ?_
        refine callWi2 wM wC hdis2 (va_runV (As := [.int (xs (ix (v + 1)))]) (rest := [.int (f_X3_stop σ (xs (ix (v + 1)))).1]) S (c_X4_stop l adM D H.size τ (xs (ix (v + 1))) okM) (cwV 1 S.2.2.2.2 gL_law_X4_stop rfl rfl rfl ⟨rfl, hd_X4_stop⟩ ⟨Nat.le_of_ble_eq_true rfl, Nat.le_of_ble_eq_true rfl⟩) (preV hKM hN wM (k := 0) (by decide) (eM_0 adM _) (q := (RX4, TX4, 25)) rfl) rfl rfl hl.1 rfl (lv_room (Nat.le_of_ble_eq_true rfl)) dL_law_1312 ⟨Nat.le_of_ble_eq_true rfl, Nat.le_of_ble_eq_true rfl⟩) (fun H locs wM wC => ?_)
        have hq := q_stop hR hj (xs (ix (v + 1)))
        refine lv_icmp_eq (tgt := 1402) hx hb dL_law_1315 (by decide) (fun c1315 => ?_) (fun c1315 => ?_)
        · exact K _ _ hq.2 H locs wC wM ls hl
        · exact absurd hq.1 c1315
      by_cases c33_30 : (xs (ix v) &&& 63) = 30
      · refine lv_tableIn (tgt := 1320) hx hb dL_law_33 (by rw [c33_30]; decide) (by rw [c33_30]; decide) (off := 1287) (by rw [c33_30]; decide) (by decide) ?_
        refine lv_aload_n hx hb dL_law_1320 rfl (lv_at hl 1 rfl) ?_
        refine lv_aload_n hx hb dL_law_1321 rfl (lv_at hl 0 rfl) ?_
        refine lv_iload_n hx hb dL_law_1322 rfl (lv_at hl 3 rfl) ?_
        refine lv_iconst (v := 1) hx hb dL_law_1323 (by decide) ?_
        refine lv_iadd hx hb dL_law_1324 ?_
        refine va_sld hx hb hX hbl hbA wC.2.2.1 g1 dL_law_1325 ?_
        refine lv_aload_n hx hb dL_law_1326 rfl (lv_at hl 0 rfl) ?_
        refine lv_iload_n hx hb dL_law_1327 rfl (lv_at hl 3 rfl) ?_
        refine lv_iconst (v := 2) hx hb dL_law_1328 (by decide) ?_
        refine lv_iadd hx hb dL_law_1329 ?_
        refine va_sld hx hb hX hbl hbA wC.2.2.1 g2 dL_law_1330 ?_
        refine callWi2 wC wM hdis (va_runV (As := [.int (xs (ix (v + 1))), .int (xs (ix (v + 2)))]) (rest := []) S (c_X3_as l adC D H.size σ (xs (ix (v + 1))) (xs (ix (v + 2))) okC) (cwV 2 S.2.2.2.2 gL_law_X3_as rfl rfl rfl ⟨rfl, hd_X3_as⟩ ⟨Nat.le_of_ble_eq_true rfl, Nat.le_of_ble_eq_true rfl⟩) (preV hKC hN wC (k := 0) (by decide) (eC_0 adC _) (q := (RX3, TX3, 14)) rfl) rfl rfl hl.1 rfl (lv_room (Nat.le_of_ble_eq_true rfl)) dL_law_1331 ⟨Nat.le_of_ble_eq_true rfl, Nat.le_of_ble_eq_true rfl⟩) (fun H locs wC wM => ?_)
        refine lv_aload_n hx hb dL_law_1334 rfl (lv_at hl 2 rfl) ?_
        refine lv_aload_n hx hb dL_law_1335 rfl (lv_at hl 0 rfl) ?_
        refine lv_iload_n hx hb dL_law_1336 rfl (lv_at hl 3 rfl) ?_
        refine lv_iconst (v := 1) hx hb dL_law_1337 (by decide) ?_
        refine lv_iadd hx hb dL_law_1338 ?_
        refine va_sld hx hb hX hbl hbA wC.2.2.1 g1 dL_law_1339 ?_
        refine lv_aload_n hx hb dL_law_1340 rfl (lv_at hl 0 rfl) ?_
        refine lv_iload_n hx hb dL_law_1341 rfl (lv_at hl 3 rfl) ?_
        refine lv_iconst (v := 2) hx hb dL_law_1342 (by decide) ?_
        refine lv_iadd hx hb dL_law_1343 ?_
        refine va_sld hx hb hX hbl hbA wC.2.2.1 g2 dL_law_1344 ?_
        refine callWi2 wM wC hdis2 (va_runV (As := [.int (xs (ix (v + 1))), .int (xs (ix (v + 2)))]) (rest := [.int (f_X3_as σ (xs (ix (v + 1))) (xs (ix (v + 2)))).1]) S (c_X4_as l adM D H.size τ (xs (ix (v + 1))) (xs (ix (v + 2))) okM) (cwV 2 S.2.2.2.2 gL_law_X4_as rfl rfl rfl ⟨rfl, hd_X4_as⟩ ⟨Nat.le_of_ble_eq_true rfl, Nat.le_of_ble_eq_true rfl⟩) (preV hKM hN wM (k := 0) (by decide) (eM_0 adM _) (q := (RX4, TX4, 25)) rfl) rfl rfl hl.1 rfl (lv_room (Nat.le_of_ble_eq_true rfl)) dL_law_1345 ⟨Nat.le_of_ble_eq_true rfl, Nat.le_of_ble_eq_true rfl⟩) (fun H locs wM wC => ?_)
        have hq := q_as hR hj (xs (ix (v + 1))) (xs (ix (v + 2)))
        refine lv_icmp_eq (tgt := 1402) hx hb dL_law_1348 (by decide) (fun c1348 => ?_) (fun c1348 => ?_)
        · exact K _ _ hq.2 H locs wC wM ls hl
        · exact absurd hq.1 c1348
      by_cases c33_31 : (xs (ix v) &&& 63) = 31
      · refine lv_tableIn (tgt := 1353) hx hb dL_law_33 (by rw [c33_31]; decide) (by rw [c33_31]; decide) (off := 1320) (by rw [c33_31]; decide) (by decide) ?_
        refine lv_aload_n hx hb dL_law_1353 rfl (lv_at hl 1 rfl) ?_
        refine call0i (va_runV (As := []) (rest := []) S (c_X3_trace l adC D H.size σ) (cwV 0 S.2.2.2.2 gL_law_X3_trace rfl rfl rfl ⟨rfl, hd_X3_trace⟩ ⟨Nat.le_of_ble_eq_true rfl, Nat.le_of_ble_eq_true rfl⟩) (preV hKC hN wC (k := 0) (by decide) (eC_0 adC _) (q := (RX3, TX3, 14)) rfl) rfl rfl hl.1 rfl (lv_room (Nat.le_of_ble_eq_true rfl)) dL_law_1354 ⟨Nat.le_of_ble_eq_true rfl, Nat.le_of_ble_eq_true rfl⟩) ?_
        refine lv_aload_n hx hb dL_law_1357 rfl (lv_at hl 2 rfl) ?_
        refine call0i (va_runV (As := []) (rest := [.int (f_X3_trace σ)]) S (c_X4_trace l adM D H.size τ) (cwV 0 S.2.2.2.2 gL_law_X4_trace rfl rfl rfl ⟨rfl, hd_X4_trace⟩ ⟨Nat.le_of_ble_eq_true rfl, Nat.le_of_ble_eq_true rfl⟩) (preV hKM hN wM (k := 0) (by decide) (eM_0 adM _) (q := (RX4, TX4, 25)) rfl) rfl rfl hl.1 rfl (lv_room (Nat.le_of_ble_eq_true rfl)) dL_law_1358 ⟨Nat.le_of_ble_eq_true rfl, Nat.le_of_ble_eq_true rfl⟩) ?_
        have hq := q_trace hR hj 
        refine lv_icmp_eq (tgt := 1402) hx hb dL_law_1361 (by decide) (fun c1361 => ?_) (fun c1361 => ?_)
        · exact K _ _ hq.2 H locs wC wM ls hl
        · exact absurd hq.1 c1361
      by_cases c33_32 : (xs (ix v) &&& 63) = 32
      · refine lv_tableIn (tgt := 1366) hx hb dL_law_33 (by rw [c33_32]; decide) (by rw [c33_32]; decide) (off := 1333) (by rw [c33_32]; decide) (by decide) ?_
        refine lv_aload_n hx hb dL_law_1366 rfl (lv_at hl 1 rfl) ?_
        refine call0i (va_runV (As := []) (rest := []) S (c_X3_fault l adC D H.size σ) (cwV 0 S.2.2.2.2 gL_law_X3_fault rfl rfl rfl ⟨rfl, hd_X3_fault⟩ ⟨Nat.le_of_ble_eq_true rfl, Nat.le_of_ble_eq_true rfl⟩) (preV hKC hN wC (k := 0) (by decide) (eC_0 adC _) (q := (RX3, TX3, 14)) rfl) rfl rfl hl.1 rfl (lv_room (Nat.le_of_ble_eq_true rfl)) dL_law_1367 ⟨Nat.le_of_ble_eq_true rfl, Nat.le_of_ble_eq_true rfl⟩) ?_
        refine lv_aload_n hx hb dL_law_1370 rfl (lv_at hl 2 rfl) ?_
        refine call0i (va_runV (As := []) (rest := [.int (f_X3_fault σ)]) S (c_X4_fault l adM D H.size τ) (cwV 0 S.2.2.2.2 gL_law_X4_fault rfl rfl rfl ⟨rfl, hd_X4_fault⟩ ⟨Nat.le_of_ble_eq_true rfl, Nat.le_of_ble_eq_true rfl⟩) (preV hKM hN wM (k := 0) (by decide) (eM_0 adM _) (q := (RX4, TX4, 25)) rfl) rfl rfl hl.1 rfl (lv_room (Nat.le_of_ble_eq_true rfl)) dL_law_1371 ⟨Nat.le_of_ble_eq_true rfl, Nat.le_of_ble_eq_true rfl⟩) ?_
        have hq := q_fault hR hj 
        refine lv_icmp_eq (tgt := 1402) hx hb dL_law_1374 (by decide) (fun c1374 => ?_) (fun c1374 => ?_)
        · exact K _ _ hq.2 H locs wC wM ls hl
        · exact absurd hq.1 c1374
      by_cases c33_33 : (xs (ix v) &&& 63) = 33
      · refine lv_tableIn (tgt := 1379) hx hb dL_law_33 (by rw [c33_33]; decide) (by rw [c33_33]; decide) (off := 1346) (by rw [c33_33]; decide) (by decide) ?_
        refine lv_aload_n hx hb dL_law_1379 rfl (lv_at hl 1 rfl) ?_
        refine lv_aload_n hx hb dL_law_1380 rfl (lv_at hl 0 rfl) ?_
        refine lv_iload_n hx hb dL_law_1381 rfl (lv_at hl 3 rfl) ?_
        refine lv_iconst (v := 1) hx hb dL_law_1382 (by decide) ?_
        refine lv_iadd hx hb dL_law_1383 ?_
        refine va_sld hx hb hX hbl hbA wC.2.2.1 g1 dL_law_1384 ?_
        refine call0i (va_runV (As := [.int (xs (ix (v + 1)))]) (rest := []) S (c_X3_many l adC D H.size σ (xs (ix (v + 1)))) (cwV 1 S.2.2.2.2 gL_law_X3_many rfl rfl rfl ⟨rfl, hd_X3_many⟩ ⟨Nat.le_of_ble_eq_true rfl, Nat.le_of_ble_eq_true rfl⟩) (preV hKC hN wC (k := 0) (by decide) (eC_0 adC _) (q := (RX3, TX3, 14)) rfl) rfl rfl hl.1 rfl (lv_room (Nat.le_of_ble_eq_true rfl)) dL_law_1385 ⟨Nat.le_of_ble_eq_true rfl, Nat.le_of_ble_eq_true rfl⟩) ?_
        refine lv_aload_n hx hb dL_law_1388 rfl (lv_at hl 2 rfl) ?_
        refine lv_aload_n hx hb dL_law_1389 rfl (lv_at hl 0 rfl) ?_
        refine lv_iload_n hx hb dL_law_1390 rfl (lv_at hl 3 rfl) ?_
        refine lv_iconst (v := 1) hx hb dL_law_1391 (by decide) ?_
        refine lv_iadd hx hb dL_law_1392 ?_
        refine va_sld hx hb hX hbl hbA wC.2.2.1 g1 dL_law_1393 ?_
        refine call0i (va_runV (As := [.int (xs (ix (v + 1)))]) (rest := [.int (f_X3_many σ (xs (ix (v + 1))))]) S (c_X4_many l adM D H.size τ (xs (ix (v + 1)))) (cwV 1 S.2.2.2.2 gL_law_X4_many rfl rfl rfl ⟨rfl, hd_X4_many⟩ ⟨Nat.le_of_ble_eq_true rfl, Nat.le_of_ble_eq_true rfl⟩) (preV hKM hN wM (k := 0) (by decide) (eM_0 adM _) (q := (RX4, TX4, 25)) rfl) rfl rfl hl.1 rfl (lv_room (Nat.le_of_ble_eq_true rfl)) dL_law_1394 ⟨Nat.le_of_ble_eq_true rfl, Nat.le_of_ble_eq_true rfl⟩) ?_
        have hq := q_many hR hj (xs (ix (v + 1)))
        refine lv_icmp_eq (tgt := 1402) hx hb dL_law_1397 (by decide) (fun c1397 => ?_) (fun c1397 => ?_)
        · exact K _ _ hq.2 H locs wC wM ls hl
        · exact absurd hq.1 c1397
      have y33_0 : (xs (ix v) &&& 63).toInt ≠ 0 := qt_ne c33_0
      have y33_1 : (xs (ix v) &&& 63).toInt ≠ 1 := qt_ne c33_1
      have y33_2 : (xs (ix v) &&& 63).toInt ≠ 2 := qt_ne c33_2
      have y33_3 : (xs (ix v) &&& 63).toInt ≠ 3 := qt_ne c33_3
      have y33_4 : (xs (ix v) &&& 63).toInt ≠ 4 := qt_ne c33_4
      have y33_5 : (xs (ix v) &&& 63).toInt ≠ 5 := qt_ne c33_5
      have y33_6 : (xs (ix v) &&& 63).toInt ≠ 6 := qt_ne c33_6
      have y33_7 : (xs (ix v) &&& 63).toInt ≠ 7 := qt_ne c33_7
      have y33_8 : (xs (ix v) &&& 63).toInt ≠ 8 := qt_ne c33_8
      have y33_9 : (xs (ix v) &&& 63).toInt ≠ 9 := qt_ne c33_9
      have y33_10 : (xs (ix v) &&& 63).toInt ≠ 10 := qt_ne c33_10
      have y33_11 : (xs (ix v) &&& 63).toInt ≠ 11 := qt_ne c33_11
      have y33_12 : (xs (ix v) &&& 63).toInt ≠ 12 := qt_ne c33_12
      have y33_13 : (xs (ix v) &&& 63).toInt ≠ 13 := qt_ne c33_13
      have y33_14 : (xs (ix v) &&& 63).toInt ≠ 14 := qt_ne c33_14
      have y33_15 : (xs (ix v) &&& 63).toInt ≠ 15 := qt_ne c33_15
      have y33_16 : (xs (ix v) &&& 63).toInt ≠ 16 := qt_ne c33_16
      have y33_17 : (xs (ix v) &&& 63).toInt ≠ 17 := qt_ne c33_17
      have y33_18 : (xs (ix v) &&& 63).toInt ≠ 18 := qt_ne c33_18
      have y33_19 : (xs (ix v) &&& 63).toInt ≠ 19 := qt_ne c33_19
      have y33_20 : (xs (ix v) &&& 63).toInt ≠ 20 := qt_ne c33_20
      have y33_21 : (xs (ix v) &&& 63).toInt ≠ 21 := qt_ne c33_21
      have y33_22 : (xs (ix v) &&& 63).toInt ≠ 22 := qt_ne c33_22
      have y33_23 : (xs (ix v) &&& 63).toInt ≠ 23 := qt_ne c33_23
      have y33_24 : (xs (ix v) &&& 63).toInt ≠ 24 := qt_ne c33_24
      have y33_25 : (xs (ix v) &&& 63).toInt ≠ 25 := qt_ne c33_25
      have y33_26 : (xs (ix v) &&& 63).toInt ≠ 26 := qt_ne c33_26
      have y33_27 : (xs (ix v) &&& 63).toInt ≠ 27 := qt_ne c33_27
      have y33_28 : (xs (ix v) &&& 63).toInt ≠ 28 := qt_ne c33_28
      have y33_29 : (xs (ix v) &&& 63).toInt ≠ 29 := qt_ne c33_29
      have y33_30 : (xs (ix v) &&& 63).toInt ≠ 30 := qt_ne c33_30
      have y33_31 : (xs (ix v) &&& 63).toInt ≠ 31 := qt_ne c33_31
      have y33_32 : (xs (ix v) &&& 63).toInt ≠ 32 := qt_ne c33_32
      have y33_33 : (xs (ix v) &&& 63).toInt ≠ 33 := qt_ne c33_33
      refine lv_tableOut (tgt := 1402) hx hb dL_law_33 (by have e : (xs (ix v) &&& 63).toInt = (xs v.toNatClampNeg &&& 63).toInt := rfl; omega) (by decide) ?_
      exact K _ _ (R_up hR) H locs wC wM ls hl
