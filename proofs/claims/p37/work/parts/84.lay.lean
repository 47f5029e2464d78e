/-! the law's walk: lay -/
def CB2 (adC adL : Nat → Nat) (sz : Nat) : Nat → Prop := fun q => (∃ c, c < 41 ∧ q = adC c) ∨ (∃ c, c < 3 ∧ q = adL c) ∨ sz ≤ q
def LayR (v : Int32) (u : St × St) : Prop := v = u.1 0 4 ∧ Rl u.1 u.2 ∧ u.1 8 0 = -1
def QY (adC adL : Nat → Nat) (D : va_G) (A : Nat → Prop) : Array Value → State → Outcome → State → Prop := va_Qi LayR (fun (u : St × St) t => va_P D vwCl (Wd 41 (eC adC) adC u.1) t.heap ∧ va_P D vwCl (Wd 3 (eL adL) adL u.2) t.heap) A
def PreY (adC adL : Nat → Nat) (D : va_G) (b L : Nat) (xs : Nat → Int32) (σ τ : St) (sz : Nat) (av : List Value) : Array Value → State → Prop := va_Pc av (fun U => U.heap.size = sz ∧ (va_P D vwCl (Wd 41 (eC adC) adC σ) U.heap ∧ va_P D vwCl (Wd 3 (eL adL) adL τ) U.heap) ∧ va_K D vwCl (tyC adC) U ∧ (va_D (fun _ => True) (Wd 41 (eC adC) adC σ) ∧ va_D (fun _ => True) (Wd 3 (eL adL) adL τ)) ∧ NW U ∧ va_X b L xs U U.heap ∧ b < U.heap.size)
theorem PreY.blind {adC adL : Nat → Nat} {D : va_G} {b L : Nat} {xs : Nat → Int32} {σ τ : St} {sz : Nat} {av : List Value} : FrameBlind (PreY adC adL D b L xs σ τ sz av) := by
  intro a U g mk q
  obtain ⟨q0, q1, qP, qK, qD, qN, qX, qb⟩ := q
  exact ⟨q0, q1, qP, va_K.moved (u := U) (U := U.calling g mk a) (Vm.Alike.refl U.vm) qK, qD, qN.same rfl, va_X.moved (u := U) (U := U.calling g mk a) (Vm.Alike.refl U.vm) qX, qb⟩
def avY (adC adL : Nat → Nat) (b : Nat) : List Value := [.ref (adC 0), .ref (adL 0), .ref (adL 1), .ref (adL 2), .ref b, .int 0]
def LY (p : Program) (l : Launch) (e : Env) (s : State) (m : MethodId) (below : List Frame) (meth : Method) (c : Code) (D : va_G) (b sz : Nat) (adC adL : Nat → Nat) (σ τ : St) (pc : Nat) (lv : List (Nat × Value)) (st : List Value) : Prop :=
  ∀ (H : Heap) (locs : List Loc), CW 41 (eC adC) adC D (CB2 adC adL sz) s.heap σ H locs → CW 3 (eL adL) adL D (CB2 adC adL sz) s.heap τ H locs → ∀ ls : Array Slot, lv_has ls 14 lv → W p l e (headSpec wsL_lay ({ frames := 4, cells := 0, slots := 0, locals := 91 })).room s m (avY adC adL b).toArray below meth c H locs 0 0 (MQ below (QY adC adL D (CB2 adC adL sz)) (avY adC adL b).toArray s 0 0 (CB2 adC adL sz)) (F0 m pc ls st)
def LYC (p : Program) (s : State) (m : MethodId) (meth : Method) (c : Code) (D : va_G) (b L sz : Nat) (xs : Nat → Int32) (adC adL : Nat → Nat) : Prop := L ≤ 260 ∧ CallFix p m c cL_lay 14 s (avY adC adL b).toArray wsL_lay RL ∧ meth.sig.returnType = some .int ∧ meth.locks = false ∧ va_K D vwCl (tyC adC) s ∧ va_K D vwCl (tyL adL) s ∧ NW s ∧ va_X b L xs s s.heap ∧ b < s.heap.size ∧ ¬ CB2 adC adL sz b ∧ (∀ i, i < 41 → ∀ j, j < 3 → adC i ≠ adL j) ∧ ∀ i, i < 3 → ∀ j, j < 41 → adL i ≠ adC j
theorem k2of {v : Int32} (h : 0 ≤ v.toInt ∧ v.toInt < 3) (h0 : v.toInt ≠ 0) (h1 : v.toInt ≠ 1) : v = 2 := by
  have z2 : (2 : Int32).toInt = 2 := by decide
  exact qm_eq (by omega)
theorem set_00 {τ : St} {a b v : Int32} : f_L_set τ a b v 0 = τ 0 := by
  unfold f_L_set
  split
  · rw [u2_nc (by omega)]
  · rw [u2_nc (by omega)]
theorem w_next {τ : St} {k : Nat} (h : ∀ j, j < k → τ 0 (3 + j) = 5) : ∀ j, j < k + 1 → u2 τ 0 (3 + k) 5 0 (3 + j) = 5 := fun j hj => by
  by_cases q : j = k
  · rw [q, u2_self]
  · rw [u2_nk (by omega)]
    exact h j (by omega)
theorem Tx_w {T : Nat → Int32} {τ : St} {c p : Nat} {v : Int32} (h : Tx T τ c) : Tx T (u2 τ 0 p v) c := fun x hx => by
  have q := h x hx
  rw [get_w]
  refine ⟨q.1, q.2.1, q.2.2.1, fun k hk => ?_⟩
  rw [get_w]
  exact q.2.2.2 k hk
theorem hd_L_lay : yL_lay.cls ≠ "java/lang/invoke/MethodHandle" ∧ yL_lay.cls ≠ "java/lang/invoke/VarHandle" ∧ (parseMethodDescriptor yL_lay.desc).map (fun d => d.parameters.length) = some 6 := by decide +kernel
set_option maxHeartbeats 8000000 in
set_option maxRecDepth 100000 in
theorem y_164 {p : Program} {l : Launch} {e : Env} {s : State} {m : MethodId} {below : List Frame} {meth : Method} {c : Code} {D : va_G} {b L sz : Nat} {xs : Nat → Int32} {adC adL : Nat → Nat} (hC : LYC p s m meth c D b L sz xs adC adL) {N : Nat} {v6 v9 v10 : Int32} (h9 : 0 ≤ v9.toInt ∧ v9.toInt < 8)
    (hex : ∀ σ' τ' : St, Iv σ' τ' N (ix v9) → (∀ j, j < 9 → τ' 0 (3 + j) = 5) → Pt σ' τ' (ix v9) 9 → LY p l e s m below meth c D b sz adC adL σ' τ' 312 [(0, .ref (adC 0)), (1, .ref (adL 0)), (2, .ref (adL 1)), (3, .ref (adL 2)), (4, .ref b), (5, .int 0), (6, .int v6), (7, .int 1), (8, .int (nI (11 * ix v9 + 10))), (9, .int v9)] []) : ∀ (k : Nat) (v12 : Int32) (σ τ : St), Iv σ τ N (ix v9) → (∀ j, j < ix v12 → τ 0 (3 + j) = 5) → Pt σ τ (ix v9) (ix v12) → 0 ≤ v12.toInt → v12.toInt ≤ 9 → 9 < v12.toInt + k → LY p l e s m below meth c D b sz adC adL σ τ 164 [(0, .ref (adC 0)), (1, .ref (adL 0)), (2, .ref (adL 1)), (3, .ref (adL 2)), (4, .ref b), (5, .int 0), (6, .int v6), (7, .int 1), (8, .int (nI (11 * ix v9 + 1 + ix v12))), (9, .int v9), (10, .int v10), (12, .int v12)] [] := by
  intro k
  induction k with
  | zero => intro v12 σ τ b1 b2 b3 a1 a2 a3; exact absurd a3 (by omega)
  | succ k ih =>
  intro v12 σ τ hI hw hp a1 a2 a3
  have j9 := ix_toInt h9.1
  have j12 := ix_toInt a1
  have h262 : v12.toInt < 9 → ∀ (v13 : Int32) (τ1 : St), (0 ≤ v13.toInt ∧ v13.toInt ≤ 9) → Iv σ τ1 N (ix v9) → (∀ j, j < ix v12 + 1 → τ1 0 (3 + j) = 5) → Pt σ τ1 (ix v9) (ix v12) → LY p l e s m below meth c D b sz adC adL σ τ1 262 [(0, .ref (adC 0)), (1, .ref (adL 0)), (2, .ref (adL 1)), (3, .ref (adL 2)), (4, .ref b), (5, .int 0), (6, .int v6), (7, .int 1), (8, .int (nI (11 * ix v9 + 1 + ix v12))), (9, .int v9), (10, .int v10), (12, .int v12), (13, .int v13)] [] := by
    intro hlt v13 τ1 h13 h1I h1w h1P
    intro H locs wC wL ls hl
    obtain ⟨hL, S, hr, hlocks, hKC, hKL, hN, hX, hbl, hbA, hdis, hdis2⟩ := id hC
    have hx := S.1
    have hb := S.2.1
    have z0 : (0 : Int32).toInt = 0 := by decide
    have z1 : (1 : Int32).toInt = 1 := by decide
    have em0 := nI_toInt (n := 11 * ix v9 + 1 + ix v12) (by omega)
    have z48 : (48 : Int32).toInt = 48 := by decide
    have e288 := a_toInt (a := 48) (b := v13) (by omega) (by omega)
    have e267 := a_toInt (a := 1) (b := v12) (by omega) (by omega)
    refine lv_aload_n hx hb dL_lay_262 rfl (lv_at hl 2 rfl) ?_
    refine lv_aload_n hx hb dL_lay_263 rfl (lv_at hl 3 rfl) ?_
    refine lv_iload hx hb dL_lay_264 (lv_at hl 9 rfl) ?_
    refine lv_iconst (v := 1) hx hb dL_lay_266 (by decide) ?_
    refine lv_iload hx hb dL_lay_267 (lv_at hl 11 rfl) ?_
    refine lv_iadd hx hb dL_lay_269 ?_
    refine lv_iload hx hb dL_lay_270 (lv_at hl 12 rfl) ?_
    refine callWv2 wL wC hdis2 (va_runS (As := [.ref (adL 1), .ref (adL 2), .int v9, .int (1 + v12), .int v13]) (rest := []) S (c_L_set l adL D H.size τ1 v9 (1 + v12) v13 ⟨h9.1, h9.2⟩ ⟨by omega, by omega⟩) (va_cwS 5 S.2.2.2.2 gL_lay_L_set rfl rfl rfl hd_L_set ⟨Nat.le_of_ble_eq_true rfl, Nat.le_of_ble_eq_true rfl⟩) (preS hKL hN wL) rfl rfl hl.1 rfl (lv_room (Nat.le_of_ble_eq_true rfl)) dL_lay_272 ⟨Nat.zero_le _, Nat.zero_le _⟩) (fun H locs wL wC => ?_)
    have i0 := h1I.set (v := v13) (k := ix v12 + 1) (by omega) (by omega)
    rw [← nI1, ← nI_ix a1, ← nI_ix h9.1] at i0
    refine lv_iload hx hb dL_lay_275 (lv_at hl 7 rfl) ?_
    refine lv_if_eq (tgt := 300) hx hb dL_lay_277 (by decide) (fun c277 => ?_) (fun c277 => ?_)
    · exact absurd c277 (by decide)
    · refine lv_aload_n hx hb dL_lay_280 rfl (lv_at hl 0 rfl) ?_
      refine lv_iconst (v := 0) hx hb dL_lay_281 (by decide) ?_
      refine lv_iload hx hb dL_lay_282 (lv_at hl 8 rfl) ?_
      refine lv_bipush (v := 48) hx hb dL_lay_284 (by decide) ?_
      refine lv_iload hx hb dL_lay_286 (lv_at hl 12 rfl) ?_
      refine lv_iadd hx hb dL_lay_288 ?_
      refine callWi2 wC wL hdis (va_runV (As := [.int 0, .int (nI (11 * ix v9 + 1 + ix v12)), .int (48 + v13)]) (rest := []) S (c_X3_put l adC D H.size σ 0 (nI (11 * ix v9 + 1 + ix v12)) (48 + v13) h1I.1) (cwV 3 S.2.2.2.2 gL_lay_X3_put rfl rfl rfl ⟨rfl, hd_X3_put⟩ ⟨Nat.le_of_ble_eq_true rfl, Nat.le_of_ble_eq_true rfl⟩) (preV hKC hN wC (k := 0) (by decide) (eC_0 adC _) (q := (RX3, TX3, 14)) rfl) rfl rfl hl.1 rfl (lv_room (Nat.le_of_ble_eq_true rfl)) dL_lay_289 ⟨Nat.zero_le _, Nat.zero_le _⟩) (fun H locs wC wL => ?_)
      have q289 := q_put0 (i := nI (11 * ix v9 + 1 + ix v12)) (v := 48 + v13) h1I.2.1 (by omega) (by omega) (by omega) (by omega)
      rw [ix_nI (by omega)] at q289
      rw [pr1 q289]
      rw [pr2 q289] at wC
      refine lv_iconst (v := 1) hx hb dL_lay_292 (by decide) ?_
      refine lv_icmp_ne (tgt := 300) hx hb dL_lay_293 (by decide) (fun c293 => ?_) (fun c293 => ?_)
      · exact absurd rfl c293
      · refine lv_iconst (v := 1) hx hb dL_lay_296 (by decide) ?_
        refine lv_goto (tgt := 301) hx hb dL_lay_297 (by decide) ?_
        refine lv_istore (lv' := [(7, .int 1), (0, .ref (adC 0)), (1, .ref (adL 0)), (2, .ref (adL 1)), (3, .ref (adL 2)), (4, .ref b), (5, .int 0), (6, .int v6), (8, .int (nI (11 * ix v9 + 1 + ix v12))), (9, .int v9), (10, .int v10), (12, .int v12), (13, .int v13)]) hx hb dL_lay_301 hl (by decide) rfl (fun ls hl => ?_)
        refine lv_iinc (v := ((nI (11 * ix v9 + 1 + ix v12)) + 1)) (lv' := [(8, .int ((nI (11 * ix v9 + 1 + ix v12)) + 1)), (7, .int 1), (0, .ref (adC 0)), (1, .ref (adL 0)), (2, .ref (adL 1)), (3, .ref (adL 2)), (4, .ref b), (5, .int 0), (6, .int v6), (9, .int v9), (10, .int v10), (12, .int v12), (13, .int v13)]) hx hb dL_lay_303 hl (k := 8) rfl rfl (by decide) rfl (fun ls hl => ?_)
        refine lv_iinc (v := (v12 + 1)) (lv' := [(12, .int (v12 + 1)), (8, .int ((nI (11 * ix v9 + 1 + ix v12)) + 1)), (7, .int 1), (0, .ref (adC 0)), (1, .ref (adL 0)), (2, .ref (adL 1)), (3, .ref (adL 2)), (4, .ref b), (5, .int 0), (6, .int v6), (9, .int v9), (10, .int v10), (13, .int v13)]) hx hb dL_lay_306 hl (k := 11) rfl rfl (by decide) rfl (fun ls hl => ?_)
        refine lv_goto (tgt := 164) hx hb dL_lay_309 (by decide) ?_
        have e12 := inc_toInt (a := v12) (by omega) (by omega)
        have k12 := ix_toInt (x := v12 + 1) (by omega)
        have ei : ix (v12 + 1) = ix v12 + 1 := by omega
        have i2 := i0.put (p := 11 * ix v9 + 1 + ix v12) (v := 48 + v13) (by omega)
        have p2 := Pt.step (v := v13) h1P (by omega) (by omega) h13.1 h13.2
        rw [← nI_ix a1, ← nI_ix h9.1] at p2
        have w2 : ∀ j, j < ix (v12 + 1) → f_L_set τ1 v9 (1 + v12) v13 0 (3 + j) = 5 := fun j hj => by rw [set_00]; exact h1w j (by omega)
        rw [← ei] at p2
        have em : nI (11 * ix v9 + 1 + ix v12) + 1 = nI (11 * ix v9 + 1 + ix (v12 + 1)) := by rw [n1, ei]; rfl
        rw [em] at hl
        exact (ih (v12 + 1) _ _ i2 w2 p2 (by omega) (by omega) (by omega)) H locs wC wL ls (lv_sub hl [3, 4, 5, 6, 7, 8, 9, 2, 1, 10, 11, 0] rfl)
  have h213 : v12.toInt < 9 → ∀ (v13 : Int32) (τ1 : St), (0 ≤ v13.toInt ∧ v13.toInt ≤ 9) → Iv σ τ1 N (ix v9) → (∀ j, j < ix v12 + 1 → τ1 0 (3 + j) = 5) → Pt σ τ1 (ix v9) (ix v12) → LY p l e s m below meth c D b sz adC adL σ τ1 213 [(0, .ref (adC 0)), (1, .ref (adL 0)), (2, .ref (adL 1)), (3, .ref (adL 2)), (4, .ref b), (5, .int 0), (6, .int v6), (7, .int 1), (8, .int (nI (11 * ix v9 + 1 + ix v12))), (9, .int v9), (10, .int v10), (12, .int v12), (13, .int v13)] [] := by
    intro hlt v13 τ1 h13 h1I h1w h1P
    intro H locs wC wL ls hl
    obtain ⟨hL, S, hr, hlocks, hKC, hKL, hN, hX, hbl, hbA, hdis, hdis2⟩ := id hC
    have hx := S.1
    have hb := S.2.1
    have z0 : (0 : Int32).toInt = 0 := by decide
    have z1 : (1 : Int32).toInt = 1 := by decide
    refine lv_iload hx hb dL_lay_213 (lv_at hl 9 rfl) ?_
    refine lv_if_le (tgt := 258) hx hb dL_lay_215 (by decide) (fun c215 => ?_) (fun c215 => ?_)
    · have t215 : v9.toInt ≤ 0 := qt_le c215
      refine lv_iload hx hb dL_lay_258 (lv_at hl 12 rfl) ?_
      refine lv_istore (lv' := [(13, .int v13), (0, .ref (adC 0)), (1, .ref (adL 0)), (2, .ref (adL 1)), (3, .ref (adL 2)), (4, .ref b), (5, .int 0), (6, .int v6), (7, .int 1), (8, .int (nI (11 * ix v9 + 1 + ix v12))), (9, .int v9), (10, .int v10), (12, .int v12)]) hx hb dL_lay_260 hl (by decide) rfl (fun ls hl => ?_)
      exact (h262 hlt v13 τ1 h13 h1I h1w h1P) H locs wC wL ls (lv_sub hl [1, 2, 3, 4, 5, 6, 7, 8, 9, 10, 11, 12, 0] rfl)
    · have t215 : 0 < v9.toInt := qt_nle c215
      refine lv_iload hx hb dL_lay_218 (lv_at hl 6 rfl) ?_
      refine lv_bipush (v := 6) hx hb dL_lay_220 (by decide) ?_
      refine lv_iload hx hb dL_lay_222 (lv_at hl 9 rfl) ?_
      refine lv_iadd hx hb dL_lay_224 ?_
      refine lv_ishr hx hb dL_lay_225 ?_
      refine lv_iconst (v := 1) hx hb dL_lay_226 (by decide) ?_
      refine lv_iand hx hb dL_lay_227 ?_
      refine lv_iconst (v := 1) hx hb dL_lay_228 (by decide) ?_
      refine lv_icmp_ne (tgt := 258) hx hb dL_lay_229 (by decide) (fun c229 => ?_) (fun c229 => ?_)
      · have t229 : ((v6 >>> ((6 + v9) &&& 31)) &&& 1).toInt ≠ 1 := qt_ne c229
        refine lv_iload hx hb dL_lay_258 (lv_at hl 12 rfl) ?_
        refine lv_istore (lv' := [(13, .int v13), (0, .ref (adC 0)), (1, .ref (adL 0)), (2, .ref (adL 1)), (3, .ref (adL 2)), (4, .ref b), (5, .int 0), (6, .int v6), (7, .int 1), (8, .int (nI (11 * ix v9 + 1 + ix v12))), (9, .int v9), (10, .int v10), (12, .int v12)]) hx hb dL_lay_260 hl (by decide) rfl (fun ls hl => ?_)
        exact (h262 hlt v13 τ1 h13 h1I h1w h1P) H locs wC wL ls (lv_sub hl [1, 2, 3, 4, 5, 6, 7, 8, 9, 10, 11, 12, 0] rfl)
      · have t229 : ((v6 >>> ((6 + v9) &&& 31)) &&& 1).toInt = 1 := qt_eq c229
        refine lv_iload hx hb dL_lay_232 (lv_at hl 11 rfl) ?_
        refine lv_iload hx hb dL_lay_234 (lv_at hl 10 rfl) ?_
        refine lv_bipush (v := 7) hx hb dL_lay_236 (by decide) ?_
        refine lv_iand hx hb dL_lay_238 ?_
        refine lv_icmp_eq (tgt := 258) hx hb dL_lay_239 (by decide) (fun c239 => ?_) (fun c239 => ?_)
        · have t239 : v12.toInt = (v10 &&& 7).toInt := qt_eq c239
          refine lv_iload hx hb dL_lay_258 (lv_at hl 12 rfl) ?_
          refine lv_istore (lv' := [(13, .int v13), (0, .ref (adC 0)), (1, .ref (adL 0)), (2, .ref (adL 1)), (3, .ref (adL 2)), (4, .ref b), (5, .int 0), (6, .int v6), (7, .int 1), (8, .int (nI (11 * ix v9 + 1 + ix v12))), (9, .int v9), (10, .int v10), (12, .int v12)]) hx hb dL_lay_260 hl (by decide) rfl (fun ls hl => ?_)
          exact (h262 hlt v13 τ1 h13 h1I h1w h1P) H locs wC wL ls (lv_sub hl [1, 2, 3, 4, 5, 6, 7, 8, 9, 10, 11, 12, 0] rfl)
        · have t239 : v12.toInt ≠ (v10 &&& 7).toInt := qt_ne c239
          have e247 := s_toInt (a := v9) (b := 1) (by omega) (by omega)
          have e251 := a_toInt (a := 1) (b := v12) (by omega) (by omega)
          refine lv_aload_n hx hb dL_lay_242 rfl (lv_at hl 2 rfl) ?_
          refine lv_aload_n hx hb dL_lay_243 rfl (lv_at hl 3 rfl) ?_
          refine lv_iload hx hb dL_lay_244 (lv_at hl 9 rfl) ?_
          refine lv_iconst (v := 1) hx hb dL_lay_246 (by decide) ?_
          refine lv_isub hx hb dL_lay_247 ?_
          refine lv_iconst (v := 1) hx hb dL_lay_248 (by decide) ?_
          refine lv_iload hx hb dL_lay_249 (lv_at hl 11 rfl) ?_
          refine lv_iadd hx hb dL_lay_251 ?_
          refine call0i (va_runS (As := [.ref (adL 1), .ref (adL 2), .int (v9 - 1), .int (1 + v12)]) (rest := []) S (c_L_get l adL D H.size τ1 (v9 - 1) (1 + v12) (by omega) (by omega)) (va_cwS 4 S.2.2.2.2 gL_lay_L_get rfl rfl rfl hd_L_get ⟨Nat.le_of_ble_eq_true rfl, Nat.le_of_ble_eq_true rfl⟩) (preS hKL hN wL) rfl rfl hl.1 rfl (lv_room (Nat.le_of_ble_eq_true rfl)) dL_lay_252 ⟨Nat.zero_le _, Nat.zero_le _⟩) ?_
          refine lv_goto (tgt := 260) hx hb dL_lay_255 (by decide) ?_
          refine lv_istore (lv' := [(13, .int (f_L_get τ1 (v9 - 1) (1 + v12))), (0, .ref (adC 0)), (1, .ref (adL 0)), (2, .ref (adL 1)), (3, .ref (adL 2)), (4, .ref b), (5, .int 0), (6, .int v6), (7, .int 1), (8, .int (nI (11 * ix v9 + 1 + ix v12))), (9, .int v9), (10, .int v10), (12, .int v12)]) hx hb dL_lay_260 hl (by decide) rfl (fun ls hl => ?_)
          have hg := (h1I.2.2.2.2.2.2 (ix v9 - 1) (by omega)).2.2.2 (ix v12) (by omega)
          have e246 : nI (ix v9 - 1) = v9 - 1 := qm_eq (by rw [nI_toInt (by omega), s_toInt (by omega) (by omega)]; omega)
          rw [e246, ← nI_ix a1] at hg
          exact (h262 hlt _ τ1 hg.2 h1I h1w h1P) H locs wC wL ls (lv_sub hl [1, 2, 3, 4, 5, 6, 7, 8, 9, 10, 11, 12, 0] rfl)
  intro H locs wC wL ls hl
  obtain ⟨hL, S, hr, hlocks, hKC, hKL, hN, hX, hbl, hbA, hdis, hdis2⟩ := id hC
  have hx := S.1
  have hb := S.2.1
  have z0 : (0 : Int32).toInt = 0 := by decide
  have z1 : (1 : Int32).toInt = 1 := by decide
  refine lv_iload hx hb dL_lay_164 (lv_at hl 11 rfl) ?_
  refine lv_bipush (v := 9) hx hb dL_lay_166 (by decide) ?_
  refine lv_icmp_ge (tgt := 312) hx hb dL_lay_168 (by decide) (fun c168 => ?_) (fun c168 => ?_)
  · have t168 : 9 ≤ v12.toInt := qt_le c168
    have e12 : ix v12 = 9 := by omega
    rw [e12] at hl hw hp
    exact (hex σ τ hI hw hp) H locs wC wL ls (lv_sub hl [0, 1, 2, 3, 4, 5, 6, 7, 8, 9] rfl)
  · have t168 : v12.toInt < 9 := qt_nle c168
    have z3 : (3 : Int32).toInt = 3 := by decide
    have e175 := a_toInt (a := 3) (b := v12) (by omega) (by omega)
    refine lv_aload_n hx hb dL_lay_171 rfl (lv_at hl 1 rfl) ?_
    refine lv_iconst (v := 3) hx hb dL_lay_172 (by decide) ?_
    refine lv_iload hx hb dL_lay_173 (lv_at hl 11 rfl) ?_
    refine lv_iadd hx hb dL_lay_175 ?_
    refine lv_iconst (v := 5) hx hb dL_lay_176 (by decide) ?_
    have g177 : vp_in (3 + v12) 16 := vpi (by omega) (by omega)
    refine iast2 S hKL wC wL hdis (k := 0) (by decide) (cA := adL 100) (N := 16) (fun f => rfl) rfl g177 dL_lay_177 (fun H locs wC wL => ?_)
    have i1 := hI.w (j := ix v12) (by omega)
    have p1 := hp.w (j := ix v12)
    have w1 := w_next hw
    have e3 : ix (3 + v12) = 3 + ix v12 := by have := ix_toInt (x := 3 + v12) (by omega); omega
    rw [e3] at wL
    refine lv_iload hx hb dL_lay_178 (lv_at hl 10 rfl) ?_
    refine lv_iload hx hb dL_lay_180 (lv_at hl 11 rfl) ?_
    refine lv_ishr hx hb dL_lay_182 ?_
    refine lv_bipush (v := 7) hx hb dL_lay_183 (by decide) ?_
    refine lv_iand hx hb dL_lay_185 ?_
    refine lv_iconst (v := 4) hx hb dL_lay_186 (by decide) ?_
    refine lv_icmp_ge (tgt := 194) hx hb dL_lay_187 (by decide) (fun c187 => ?_) (fun c187 => ?_)
    · have t187 : 4 ≤ ((v10 >>> (v12 &&& 31)) &&& 7).toInt := qt_le c187
      refine lv_iload hx hb dL_lay_194 (lv_at hl 10 rfl) ?_
      refine lv_iconst (v := 2) hx hb dL_lay_196 (by decide) ?_
      refine lv_iload hx hb dL_lay_197 (lv_at hl 11 rfl) ?_
      refine lv_imul hx hb dL_lay_199 ?_
      refine lv_ishr hx hb dL_lay_200 ?_
      refine lv_iconst (v := 3) hx hb dL_lay_201 (by decide) ?_
      refine lv_iload hx hb dL_lay_202 (lv_at hl 11 rfl) ?_
      refine lv_imul hx hb dL_lay_204 ?_
      refine lv_iadd hx hb dL_lay_205 ?_
      refine lv_bipush (v := 10) hx hb dL_lay_206 (by decide) ?_
      refine call0i (va_runS (As := [.int ((v10 >>> ((2 * v12) &&& 31)) + (3 * v12)), .int 10]) (rest := []) S (c_L_low l ((v10 >>> ((2 * v12) &&& 31)) + (3 * v12)) 10 (by decide)) (va_cwS 2 S.2.2.2.2 gL_lay_L_low rfl rfl rfl hd_L_low ⟨Nat.le_of_ble_eq_true rfl, Nat.le_of_ble_eq_true rfl⟩) pre0S rfl rfl hl.1 rfl (lv_room (Nat.le_of_ble_eq_true rfl)) dL_lay_208 ⟨Nat.zero_le _, Nat.zero_le _⟩) ?_
      refine lv_istore (lv' := [(13, .int (f_L_low ((v10 >>> ((2 * v12) &&& 31)) + (3 * v12)) 10)), (0, .ref (adC 0)), (1, .ref (adL 0)), (2, .ref (adL 1)), (3, .ref (adL 2)), (4, .ref b), (5, .int 0), (6, .int v6), (7, .int 1), (8, .int (nI (11 * ix v9 + 1 + ix v12))), (9, .int v9), (10, .int v10), (12, .int v12)]) hx hb dL_lay_211 hl (by decide) rfl (fun ls hl => ?_)
      exact (h213 (by omega) _ _ (low10) i1 w1 p1) H locs wC wL ls (lv_sub hl [1, 2, 3, 4, 5, 6, 7, 8, 9, 10, 11, 12, 0] rfl)
    · have t187 : ((v10 >>> (v12 &&& 31)) &&& 7).toInt < 4 := qt_nle c187
      refine lv_iconst (v := 0) hx hb dL_lay_190 (by decide) ?_
      refine lv_goto (tgt := 211) hx hb dL_lay_191 (by decide) ?_
      refine lv_istore (lv' := [(13, .int 0), (0, .ref (adC 0)), (1, .ref (adL 0)), (2, .ref (adL 1)), (3, .ref (adL 2)), (4, .ref b), (5, .int 0), (6, .int v6), (7, .int 1), (8, .int (nI (11 * ix v9 + 1 + ix v12))), (9, .int v9), (10, .int v10), (12, .int v12)]) hx hb dL_lay_211 hl (by decide) rfl (fun ls hl => ?_)
      exact (h213 (by omega) 0 _ ⟨by decide, by decide⟩ i1 w1 p1) H locs wC wL ls (lv_sub hl [1, 2, 3, 4, 5, 6, 7, 8, 9, 10, 11, 12, 0] rfl)
set_option maxHeartbeats 8000000 in
set_option maxRecDepth 100000 in
theorem y_39 {p : Program} {l : Launch} {e : Env} {s : State} {m : MethodId} {below : List Frame} {meth : Method} {c : Code} {D : va_G} {b L sz : Nat} {xs : Nat → Int32} {adC adL : Nat → Nat} (hC : LYC p s m meth c D b L sz xs adC adL) {N : Nat} (hN2 : 2 ≤ N) (hN8 : N ≤ 8) {v6 : Int32}
    (hex : ∀ σ' τ' : St, Iv σ' τ' N N → LY p l e s m below meth c D b sz adC adL σ' τ' 318 [(0, .ref (adC 0)), (1, .ref (adL 0)), (2, .ref (adL 1)), (3, .ref (adL 2)), (4, .ref b), (5, .int 0), (7, .int 1), (8, .int (mx N))] []) : ∀ (k : Nat) (v9 : Int32) (σ τ : St), Iv σ τ N (ix v9) → 0 ≤ v9.toInt → v9.toInt ≤ N → (N : Int) < v9.toInt + k → LY p l e s m below meth c D b sz adC adL σ τ 39 [(0, .ref (adC 0)), (1, .ref (adL 0)), (2, .ref (adL 1)), (3, .ref (adL 2)), (4, .ref b), (5, .int 0), (6, .int v6), (7, .int 1), (8, .int (mx (ix v9))), (9, .int v9)] [] := by
  intro k
  induction k with
  | zero => intro v9 σ τ b1 a1 a2 a3; exact absurd a3 (by omega)
  | succ k ih =>
  intro v9 σ τ hI a1 a2 a3
  have j9 := ix_toInt a1
  have h312 : v9.toInt < N → ∀ σ1 τ1 : St, Iv σ1 τ1 N (ix v9) → (∀ j, j < 9 → τ1 0 (3 + j) = 5) → Pt σ1 τ1 (ix v9) 9 → LY p l e s m below meth c D b sz adC adL σ1 τ1 312 [(0, .ref (adC 0)), (1, .ref (adL 0)), (2, .ref (adL 1)), (3, .ref (adL 2)), (4, .ref b), (5, .int 0), (6, .int v6), (7, .int 1), (8, .int (nI (11 * ix v9 + 10))), (9, .int v9)] [] := by
    intro hlt σ1 τ1 i1 w1 p1
    intro H locs wC wL ls hl
    obtain ⟨hL, S, hr, hlocks, hKC, hKL, hN, hX, hbl, hbA, hdis, hdis2⟩ := id hC
    have hx := S.1
    have hb := S.2.1
    have z0 : (0 : Int32).toInt = 0 := by decide
    have z1 : (1 : Int32).toInt = 1 := by decide
    refine lv_iinc (v := (v9 + 1)) (lv' := [(9, .int (v9 + 1)), (0, .ref (adC 0)), (1, .ref (adL 0)), (2, .ref (adL 1)), (3, .ref (adL 2)), (4, .ref b), (5, .int 0), (6, .int v6), (7, .int 1), (8, .int (nI (11 * ix v9 + 10)))]) hx hb dL_lay_312 hl (k := 9) rfl rfl (by decide) rfl (fun ls hl => ?_)
    refine lv_goto (tgt := 39) hx hb dL_lay_315 (by decide) ?_
    have e9 := inc_toInt (a := v9) (by omega) (by omega)
    have k9 := ix_toInt (x := v9 + 1) (by omega)
    have ei : ix (v9 + 1) = ix v9 + 1 := by omega
    have em : nI (11 * ix v9 + 10) = mx (ix (v9 + 1)) := by rw [ei, mx_s]
    rw [em] at hl
    have i2 := i1.next w1 p1
    rw [← ei] at i2
    exact (ih (v9 + 1) _ _ i2 (by omega) (by omega) (by omega)) H locs wC wL ls (lv_sub hl [1, 2, 3, 4, 5, 6, 7, 8, 9, 0] rfl)
  have h94 : v9.toInt < N → ∀ (v10 : Int32) (σ1 : St), Iv σ1 τ N (ix v9) → (0 < ix v9 → σ1 13 (11 * ix v9 - 1) = 59) → LY p l e s m below meth c D b sz adC adL σ1 τ 94 [(0, .ref (adC 0)), (1, .ref (adL 0)), (2, .ref (adL 1)), (3, .ref (adL 2)), (4, .ref b), (5, .int 0), (6, .int v6), (7, .int 1), (8, .int (nI (11 * ix v9))), (9, .int v9), (10, .int v10)] [] := by
    intro hlt v10 σ1 i1 hsep
    intro H locs wC wL ls hl
    obtain ⟨hL, S, hr, hlocks, hKC, hKL, hN, hX, hbl, hbA, hdis, hdis2⟩ := id hC
    have hx := S.1
    have hb := S.2.1
    have z0 : (0 : Int32).toInt = 0 := by decide
    have z1 : (1 : Int32).toInt = 1 := by decide
    have em0 := nI_toInt (n := 11 * ix v9) (by omega)
    refine lv_iload hx hb dL_lay_94 (lv_at hl 10 rfl) ?_
    refine lv_iconst (v := 3) hx hb dL_lay_96 (by decide) ?_
    refine call0i (va_runS (As := [.int v10, .int 3]) (rest := []) S (c_L_low l v10 3 (by decide)) (va_cwS 2 S.2.2.2.2 gL_lay_L_low rfl rfl rfl hd_L_low ⟨Nat.le_of_ble_eq_true rfl, Nat.le_of_ble_eq_true rfl⟩) pre0S rfl rfl hl.1 rfl (lv_room (Nat.le_of_ble_eq_true rfl)) dL_lay_97 ⟨Nat.zero_le _, Nat.zero_le _⟩) ?_
    refine lv_istore (lv' := [(11, .int (f_L_low v10 3)), (0, .ref (adC 0)), (1, .ref (adL 0)), (2, .ref (adL 1)), (3, .ref (adL 2)), (4, .ref b), (5, .int 0), (6, .int v6), (7, .int 1), (8, .int (nI (11 * ix v9))), (9, .int v9), (10, .int v10)]) hx hb dL_lay_100 hl (by decide) rfl (fun ls hl => ?_)
    have q11 : 0 ≤ (f_L_low v10 3).toInt ∧ (f_L_low v10 3).toInt < 3 := low_lt (by decide) (by decide)
    generalize (f_L_low v10 3) = v11 at hl q11
    refine lv_aload_n hx hb dL_lay_102 rfl (lv_at hl 3 rfl) ?_
    refine lv_aload_n hx hb dL_lay_103 rfl (lv_at hl 4 rfl) ?_
    refine lv_iload hx hb dL_lay_104 (lv_at hl 10 rfl) ?_
    refine lv_iconst (v := 0) hx hb dL_lay_106 (by decide) ?_
    refine lv_iload hx hb dL_lay_107 (lv_at hl 0 rfl) ?_
    refine callWv2 wL wC hdis2 (va_runS (As := [.ref (adL 1), .ref (adL 2), .int v9, .int 0, .int v11]) (rest := []) S (c_L_set l adL D H.size τ v9 0 v11 ⟨by omega, by omega⟩ ⟨by decide, by decide⟩) (va_cwS 5 S.2.2.2.2 gL_lay_L_set rfl rfl rfl hd_L_set ⟨Nat.le_of_ble_eq_true rfl, Nat.le_of_ble_eq_true rfl⟩) (preS hKL hN wL) rfl rfl hl.1 rfl (lv_room (Nat.le_of_ble_eq_true rfl)) dL_lay_109 ⟨Nat.zero_le _, Nat.zero_le _⟩) (fun H locs wL wC => ?_)
    have i2 := i1.set (v := v11) (k := 0) (by omega) (by omega)
    rw [← nI_ix a1] at i2
    refine lv_iload hx hb dL_lay_112 (lv_at hl 8 rfl) ?_
    refine lv_if_eq (tgt := 155) hx hb dL_lay_114 (by decide) (fun c114 => ?_) (fun c114 => ?_)
    · exact absurd c114 (by decide)
    · refine lv_aload_n hx hb dL_lay_117 rfl (lv_at hl 1 rfl) ?_
      refine lv_iconst (v := 0) hx hb dL_lay_118 (by decide) ?_
      refine lv_iload hx hb dL_lay_119 (lv_at hl 9 rfl) ?_
      refine lv_iload hx hb dL_lay_121 (lv_at hl 0 rfl) ?_
      refine lv_if_ne (tgt := 131) hx hb dL_lay_123 (by decide) (fun c123 => ?_) (fun c123 => ?_)
      · have t123 : v11.toInt ≠ 0 := qt_ne c123
        refine lv_iload hx hb dL_lay_131 (lv_at hl 0 rfl) ?_
        refine lv_iconst (v := 1) hx hb dL_lay_133 (by decide) ?_
        refine lv_icmp_ne (tgt := 142) hx hb dL_lay_134 (by decide) (fun c134 => ?_) (fun c134 => ?_)
        · have t134 : v11.toInt ≠ 1 := qt_ne c134
          refine lv_bipush (v := 115) hx hb dL_lay_142 (by decide) ?_
          refine callWi2 wC wL hdis (va_runV (As := [.int 0, .int (nI (11 * ix v9)), .int 115]) (rest := []) S (c_X3_put l adC D H.size σ1 0 (nI (11 * ix v9)) 115 i1.1) (cwV 3 S.2.2.2.2 gL_lay_X3_put rfl rfl rfl ⟨rfl, hd_X3_put⟩ ⟨Nat.le_of_ble_eq_true rfl, Nat.le_of_ble_eq_true rfl⟩) (preV hKC hN wC (k := 0) (by decide) (eC_0 adC _) (q := (RX3, TX3, 14)) rfl) rfl rfl hl.1 rfl (lv_room (Nat.le_of_ble_eq_true rfl)) dL_lay_144 ⟨Nat.zero_le _, Nat.zero_le _⟩) (fun H locs wC wL => ?_)
          have q144 := q_put0 (i := nI (11 * ix v9)) (v := 115) i1.2.1 (by omega) (by omega) (by decide) (by decide)
          rw [ix_nI (by omega)] at q144
          rw [pr1 q144]
          rw [pr2 q144] at wC
          refine lv_iconst (v := 1) hx hb dL_lay_147 (by decide) ?_
          refine lv_icmp_ne (tgt := 155) hx hb dL_lay_148 (by decide) (fun c148 => ?_) (fun c148 => ?_)
          · exact absurd rfl c148
          · refine lv_iconst (v := 1) hx hb dL_lay_151 (by decide) ?_
            refine lv_goto (tgt := 156) hx hb dL_lay_152 (by decide) ?_
            refine lv_istore (lv' := [(7, .int 1), (11, .int v11), (0, .ref (adC 0)), (1, .ref (adL 0)), (2, .ref (adL 1)), (3, .ref (adL 2)), (4, .ref b), (5, .int 0), (6, .int v6), (8, .int (nI (11 * ix v9))), (9, .int v9), (10, .int v10)]) hx hb dL_lay_156 hl (by decide) rfl (fun ls hl => ?_)
            refine lv_iinc (v := ((nI (11 * ix v9)) + 1)) (lv' := [(8, .int ((nI (11 * ix v9)) + 1)), (7, .int 1), (11, .int v11), (0, .ref (adC 0)), (1, .ref (adL 0)), (2, .ref (adL 1)), (3, .ref (adL 2)), (4, .ref b), (5, .int 0), (6, .int v6), (9, .int v9), (10, .int v10)]) hx hb dL_lay_158 hl (k := 9) rfl rfl (by decide) rfl (fun ls hl => ?_)
            refine lv_iconst (v := 0) hx hb dL_lay_161 (by decide) ?_
            refine lv_istore (lv' := [(12, .int 0), (8, .int ((nI (11 * ix v9)) + 1)), (7, .int 1), (11, .int v11), (0, .ref (adC 0)), (1, .ref (adL 0)), (2, .ref (adL 1)), (3, .ref (adL 2)), (4, .ref b), (5, .int 0), (6, .int v6), (9, .int v9), (10, .int v10)]) hx hb dL_lay_162 hl (by decide) rfl (fun ls hl => ?_)
            have ek : v11 = 2 := (k2of q11 t123 t134)
            have p2 := Pt.letter (τ := τ) (σ := σ1) (x := ix v9) (v := v11) (t := 115) (by omega) hsep ⟨by decide, by rw [ek]; decide⟩
            rw [← nI_ix a1] at p2
            have i3 := i2.put (p := 11 * ix v9) (v := 115) (by omega)
            have em : nI (11 * ix v9) + 1 = nI (11 * ix v9 + 1 + ix 0) := n1
            rw [em] at hl
            exact (y_164 hC ⟨a1, by omega⟩ (fun σ2 τ2 j1 j2 j3 => h312 hlt σ2 τ2 j1 j2 j3) 100 0 _ _ i3 (fun j hj => absurd hj (Nat.not_lt_zero _)) p2 (by decide) (by decide) (by decide)) H locs wC wL ls (lv_sub hl [4, 5, 6, 7, 8, 9, 10, 2, 1, 11, 12, 0] rfl)
        · have t134 : v11.toInt = 1 := qt_eq c134
          refine lv_bipush (v := 102) hx hb dL_lay_137 (by decide) ?_
          refine lv_goto (tgt := 144) hx hb dL_lay_139 (by decide) ?_
          refine callWi2 wC wL hdis (va_runV (As := [.int 0, .int (nI (11 * ix v9)), .int 102]) (rest := []) S (c_X3_put l adC D H.size σ1 0 (nI (11 * ix v9)) 102 i1.1) (cwV 3 S.2.2.2.2 gL_lay_X3_put rfl rfl rfl ⟨rfl, hd_X3_put⟩ ⟨Nat.le_of_ble_eq_true rfl, Nat.le_of_ble_eq_true rfl⟩) (preV hKC hN wC (k := 0) (by decide) (eC_0 adC _) (q := (RX3, TX3, 14)) rfl) rfl rfl hl.1 rfl (lv_room (Nat.le_of_ble_eq_true rfl)) dL_lay_144 ⟨Nat.zero_le _, Nat.zero_le _⟩) (fun H locs wC wL => ?_)
          have q144 := q_put0 (i := nI (11 * ix v9)) (v := 102) i1.2.1 (by omega) (by omega) (by decide) (by decide)
          rw [ix_nI (by omega)] at q144
          rw [pr1 q144]
          rw [pr2 q144] at wC
          refine lv_iconst (v := 1) hx hb dL_lay_147 (by decide) ?_
          refine lv_icmp_ne (tgt := 155) hx hb dL_lay_148 (by decide) (fun c148 => ?_) (fun c148 => ?_)
          · exact absurd rfl c148
          · refine lv_iconst (v := 1) hx hb dL_lay_151 (by decide) ?_
            refine lv_goto (tgt := 156) hx hb dL_lay_152 (by decide) ?_
            refine lv_istore (lv' := [(7, .int 1), (11, .int v11), (0, .ref (adC 0)), (1, .ref (adL 0)), (2, .ref (adL 1)), (3, .ref (adL 2)), (4, .ref b), (5, .int 0), (6, .int v6), (8, .int (nI (11 * ix v9))), (9, .int v9), (10, .int v10)]) hx hb dL_lay_156 hl (by decide) rfl (fun ls hl => ?_)
            refine lv_iinc (v := ((nI (11 * ix v9)) + 1)) (lv' := [(8, .int ((nI (11 * ix v9)) + 1)), (7, .int 1), (11, .int v11), (0, .ref (adC 0)), (1, .ref (adL 0)), (2, .ref (adL 1)), (3, .ref (adL 2)), (4, .ref b), (5, .int 0), (6, .int v6), (9, .int v9), (10, .int v10)]) hx hb dL_lay_158 hl (k := 9) rfl rfl (by decide) rfl (fun ls hl => ?_)
            refine lv_iconst (v := 0) hx hb dL_lay_161 (by decide) ?_
            refine lv_istore (lv' := [(12, .int 0), (8, .int ((nI (11 * ix v9)) + 1)), (7, .int 1), (11, .int v11), (0, .ref (adC 0)), (1, .ref (adL 0)), (2, .ref (adL 1)), (3, .ref (adL 2)), (4, .ref b), (5, .int 0), (6, .int v6), (9, .int v9), (10, .int v10)]) hx hb dL_lay_162 hl (by decide) rfl (fun ls hl => ?_)
            have ek : v11 = 1 := c134
            have p2 := Pt.letter (τ := τ) (σ := σ1) (x := ix v9) (v := v11) (t := 102) (by omega) hsep ⟨by decide, by rw [ek]; decide⟩
            rw [← nI_ix a1] at p2
            have i3 := i2.put (p := 11 * ix v9) (v := 102) (by omega)
            have em : nI (11 * ix v9) + 1 = nI (11 * ix v9 + 1 + ix 0) := n1
            rw [em] at hl
            exact (y_164 hC ⟨a1, by omega⟩ (fun σ2 τ2 j1 j2 j3 => h312 hlt σ2 τ2 j1 j2 j3) 100 0 _ _ i3 (fun j hj => absurd hj (Nat.not_lt_zero _)) p2 (by decide) (by decide) (by decide)) H locs wC wL ls (lv_sub hl [4, 5, 6, 7, 8, 9, 10, 2, 1, 11, 12, 0] rfl)
      · have t123 : v11.toInt = 0 := qt_eq c123
        refine lv_bipush (v := 112) hx hb dL_lay_126 (by decide) ?_
        refine lv_goto (tgt := 144) hx hb dL_lay_128 (by decide) ?_
        refine callWi2 wC wL hdis (va_runV (As := [.int 0, .int (nI (11 * ix v9)), .int 112]) (rest := []) S (c_X3_put l adC D H.size σ1 0 (nI (11 * ix v9)) 112 i1.1) (cwV 3 S.2.2.2.2 gL_lay_X3_put rfl rfl rfl ⟨rfl, hd_X3_put⟩ ⟨Nat.le_of_ble_eq_true rfl, Nat.le_of_ble_eq_true rfl⟩) (preV hKC hN wC (k := 0) (by decide) (eC_0 adC _) (q := (RX3, TX3, 14)) rfl) rfl rfl hl.1 rfl (lv_room (Nat.le_of_ble_eq_true rfl)) dL_lay_144 ⟨Nat.zero_le _, Nat.zero_le _⟩) (fun H locs wC wL => ?_)
        have q144 := q_put0 (i := nI (11 * ix v9)) (v := 112) i1.2.1 (by omega) (by omega) (by decide) (by decide)
        rw [ix_nI (by omega)] at q144
        rw [pr1 q144]
        rw [pr2 q144] at wC
        refine lv_iconst (v := 1) hx hb dL_lay_147 (by decide) ?_
        refine lv_icmp_ne (tgt := 155) hx hb dL_lay_148 (by decide) (fun c148 => ?_) (fun c148 => ?_)
        · exact absurd rfl c148
        · refine lv_iconst (v := 1) hx hb dL_lay_151 (by decide) ?_
          refine lv_goto (tgt := 156) hx hb dL_lay_152 (by decide) ?_
          refine lv_istore (lv' := [(7, .int 1), (11, .int v11), (0, .ref (adC 0)), (1, .ref (adL 0)), (2, .ref (adL 1)), (3, .ref (adL 2)), (4, .ref b), (5, .int 0), (6, .int v6), (8, .int (nI (11 * ix v9))), (9, .int v9), (10, .int v10)]) hx hb dL_lay_156 hl (by decide) rfl (fun ls hl => ?_)
          refine lv_iinc (v := ((nI (11 * ix v9)) + 1)) (lv' := [(8, .int ((nI (11 * ix v9)) + 1)), (7, .int 1), (11, .int v11), (0, .ref (adC 0)), (1, .ref (adL 0)), (2, .ref (adL 1)), (3, .ref (adL 2)), (4, .ref b), (5, .int 0), (6, .int v6), (9, .int v9), (10, .int v10)]) hx hb dL_lay_158 hl (k := 9) rfl rfl (by decide) rfl (fun ls hl => ?_)
          refine lv_iconst (v := 0) hx hb dL_lay_161 (by decide) ?_
          refine lv_istore (lv' := [(12, .int 0), (8, .int ((nI (11 * ix v9)) + 1)), (7, .int 1), (11, .int v11), (0, .ref (adC 0)), (1, .ref (adL 0)), (2, .ref (adL 1)), (3, .ref (adL 2)), (4, .ref b), (5, .int 0), (6, .int v6), (9, .int v9), (10, .int v10)]) hx hb dL_lay_162 hl (by decide) rfl (fun ls hl => ?_)
          have ek : v11 = 0 := c123
          have p2 := Pt.letter (τ := τ) (σ := σ1) (x := ix v9) (v := v11) (t := 112) (by omega) hsep ⟨by decide, by rw [ek]; decide⟩
          rw [← nI_ix a1] at p2
          have i3 := i2.put (p := 11 * ix v9) (v := 112) (by omega)
          have em : nI (11 * ix v9) + 1 = nI (11 * ix v9 + 1 + ix 0) := n1
          rw [em] at hl
          exact (y_164 hC ⟨a1, by omega⟩ (fun σ2 τ2 j1 j2 j3 => h312 hlt σ2 τ2 j1 j2 j3) 100 0 _ _ i3 (fun j hj => absurd hj (Nat.not_lt_zero _)) p2 (by decide) (by decide) (by decide)) H locs wC wL ls (lv_sub hl [4, 5, 6, 7, 8, 9, 10, 2, 1, 11, 12, 0] rfl)
  intro H locs wC wL ls hl
  obtain ⟨hL, S, hr, hlocks, hKC, hKL, hN, hX, hbl, hbA, hdis, hdis2⟩ := id hC
  have hx := S.1
  have hb := S.2.1
  have z0 : (0 : Int32).toInt = 0 := by decide
  have z1 : (1 : Int32).toInt = 1 := by decide
  have eN : (τ 0 (ix 0)).toInt = N := by rw [show ix 0 = 0 from rfl, hI.2.2.2.1]; exact nI_toInt (by omega)
  refine lv_iload hx hb dL_lay_39 (lv_at hl 9 rfl) ?_
  refine lv_aload_n hx hb dL_lay_41 rfl (lv_at hl 1 rfl) ?_
  refine lv_iconst (v := 0) hx hb dL_lay_42 (by decide) ?_
  have g43 : vp_in 0 16 := vpi (by decide) (by decide)
  refine r_iald (cA := adL 100) (N := 16) S hKL wL (k := 0) (by decide) (fun f => rfl) rfl g43 dL_lay_43 ?_
  refine lv_icmp_ge (tgt := 318) hx hb dL_lay_44 (by decide) (fun c44 => ?_) (fun c44 => ?_)
  · have t44 : (τ 0 (ix 0)).toInt ≤ v9.toInt := qt_le c44
    have e9 : ix v9 = N := by omega
    rw [e9] at hl hI
    exact (hex σ τ hI) H locs wC wL ls (lv_sub hl [0, 1, 2, 3, 4, 5, 7, 8] rfl)
  · have t44 : v9.toInt < (τ 0 (ix 0)).toInt := qt_nle c44
    have e52 : ((0 : Int32) + 1).toInt = 1 := by decide
    have e55 := a_toInt (a := (0 : Int32) + 1) (b := v9) (by omega) (by omega)
    refine lv_aload hx hb dL_lay_47 (lv_at hl 4 rfl) ?_
    refine lv_iload hx hb dL_lay_49 (lv_at hl 5 rfl) ?_
    refine lv_iconst (v := 1) hx hb dL_lay_51 (by decide) ?_
    refine lv_iadd hx hb dL_lay_52 ?_
    refine lv_iload hx hb dL_lay_53 (lv_at hl 9 rfl) ?_
    refine lv_iadd hx hb dL_lay_55 ?_
    refine call0i (va_runS (As := [.ref b, .int (((0 : Int32) + 1) + v9)]) (rest := []) S (c_L_cell l b L xs (((0 : Int32) + 1) + v9) (by omega) (by omega)) (va_cwS 2 S.2.2.2.2 gL_lay_L_cell rfl rfl rfl hd_L_cell ⟨Nat.le_of_ble_eq_true rfl, Nat.le_of_ble_eq_true rfl⟩) (preX hX hbl hbA wC.2.2.1) rfl rfl hl.1 rfl (lv_room (Nat.le_of_ble_eq_true rfl)) dL_lay_56 ⟨Nat.zero_le _, Nat.zero_le _⟩) ?_
    refine lv_istore (lv' := [(10, .int (cellF L xs (((0 : Int32) + 1) + v9))), (0, .ref (adC 0)), (1, .ref (adL 0)), (2, .ref (adL 1)), (3, .ref (adL 2)), (4, .ref b), (5, .int 0), (6, .int v6), (7, .int 1), (8, .int (mx (ix v9))), (9, .int v9)]) hx hb dL_lay_59 hl (by decide) rfl (fun ls hl => ?_)
    generalize (cellF L xs (((0 : Int32) + 1) + v9)) = v10 at hl
    refine lv_iload hx hb dL_lay_61 (lv_at hl 10 rfl) ?_
    refine lv_if_le (tgt := 94) hx hb dL_lay_63 (by decide) (fun c63 => ?_) (fun c63 => ?_)
    · have t63 : v9.toInt ≤ 0 := qt_le c63
      have e0 : ix v9 = 0 := by omega
      have em : mx (ix v9) = nI (11 * ix v9) := by rw [e0]; rfl
      rw [em] at hl
      exact (h94 (by omega) v10 σ hI (fun q => absurd q (by omega))) H locs wC wL ls (lv_sub hl [1, 2, 3, 4, 5, 6, 7, 8, 9, 10, 0] rfl)
    · have t63 : 0 < v9.toInt := qt_nle c63
      have h9p : 0 < ix v9 := by omega
      have em1 := nI_toInt (n := 11 * ix v9 - 1) (by omega)
      refine lv_iload hx hb dL_lay_66 (lv_at hl 8 rfl) ?_
      refine lv_if_eq (tgt := 88) hx hb dL_lay_68 (by decide) (fun c68 => ?_) (fun c68 => ?_)
      · exact absurd c68 (by decide)
      · refine lv_aload_n hx hb dL_lay_71 rfl (lv_at hl 1 rfl) ?_
        refine lv_iconst (v := 0) hx hb dL_lay_72 (by decide) ?_
        refine lv_iload hx hb dL_lay_73 (lv_at hl 9 rfl) ?_
        refine lv_bipush (v := 59) hx hb dL_lay_75 (by decide) ?_
        refine callWi2 wC wL hdis (va_runV (As := [.int 0, .int (mx (ix v9)), .int 59]) (rest := []) S (c_X3_put l adC D H.size σ 0 (mx (ix v9)) 59 hI.1) (cwV 3 S.2.2.2.2 gL_lay_X3_put rfl rfl rfl ⟨rfl, hd_X3_put⟩ ⟨Nat.le_of_ble_eq_true rfl, Nat.le_of_ble_eq_true rfl⟩) (preV hKC hN wC (k := 0) (by decide) (eC_0 adC _) (q := (RX3, TX3, 14)) rfl) rfl rfl hl.1 rfl (lv_room (Nat.le_of_ble_eq_true rfl)) dL_lay_77 ⟨Nat.zero_le _, Nat.zero_le _⟩) (fun H locs wC wL => ?_)
        have q77 := q_put0 (i := mx (ix v9)) (v := 59) hI.2.1 (by rw [mx_p h9p]; omega) (by rw [mx_p h9p]; omega) (by decide) (by decide)
        rw [show ix (mx (ix v9)) = 11 * ix v9 - 1 from by rw [mx_p h9p]; exact ix_nI (by omega)] at q77
        rw [pr1 q77]
        rw [pr2 q77] at wC
        refine lv_iconst (v := 1) hx hb dL_lay_80 (by decide) ?_
        refine lv_icmp_ne (tgt := 88) hx hb dL_lay_81 (by decide) (fun c81 => ?_) (fun c81 => ?_)
        · exact absurd rfl c81
        · refine lv_iconst (v := 1) hx hb dL_lay_84 (by decide) ?_
          refine lv_goto (tgt := 89) hx hb dL_lay_85 (by decide) ?_
          refine lv_istore (lv' := [(7, .int 1), (10, .int v10), (0, .ref (adC 0)), (1, .ref (adL 0)), (2, .ref (adL 1)), (3, .ref (adL 2)), (4, .ref b), (5, .int 0), (6, .int v6), (8, .int (mx (ix v9))), (9, .int v9)]) hx hb dL_lay_89 hl (by decide) rfl (fun ls hl => ?_)
          refine lv_iinc (v := ((mx (ix v9)) + 1)) (lv' := [(8, .int ((mx (ix v9)) + 1)), (7, .int 1), (10, .int v10), (0, .ref (adC 0)), (1, .ref (adL 0)), (2, .ref (adL 1)), (3, .ref (adL 2)), (4, .ref b), (5, .int 0), (6, .int v6), (9, .int v9)]) hx hb dL_lay_91 hl (k := 9) rfl rfl (by decide) rfl (fun ls hl => ?_)
          have i2 := hI.put (p := 11 * ix v9 - 1) (v := 59) (by omega)
          have em : mx (ix v9) + 1 = nI (11 * ix v9) := by rw [mx_p h9p, n1, show 11 * ix v9 - 1 + 1 = 11 * ix v9 by omega]
          rw [em] at hl
          exact (h94 (by omega) v10 _ i2 (fun _ => u2_self _ _ _ _)) H locs wC wL ls (lv_sub hl [3, 4, 5, 6, 7, 8, 9, 1, 0, 10, 2] rfl)
set_option maxHeartbeats 8000000 in
set_option maxRecDepth 100000 in
theorem y_318 {p : Program} {l : Launch} {e : Env} {s : State} {m : MethodId} {below : List Frame} {meth : Method} {c : Code} {D : va_G} {b L sz : Nat} {xs : Nat → Int32} {adC adL : Nat → Nat} (hC : LYC p s m meth c D b L sz xs adC adL) {N : Nat} (hN2 : 2 ≤ N) (hN8 : N ≤ 8) {σ τ : St} (hI : Iv σ τ N N) : LY p l e s m below meth c D b sz adC adL σ τ 318 [(0, .ref (adC 0)), (1, .ref (adL 0)), (2, .ref (adL 1)), (3, .ref (adL 2)), (4, .ref b), (5, .int 0), (7, .int 1), (8, .int (mx N))] [] := by
  intro H locs wC wL ls hl
  obtain ⟨hL, S, hr, hlocks, hKC, hKL, hN, hX, hbl, hbA, hdis, hdis2⟩ := id hC
  have hx := S.1
  have hb := S.2.1
  have z0 : (0 : Int32).toInt = 0 := by decide
  have z1 : (1 : Int32).toInt = 1 := by decide
  refine lv_aload_n hx hb dL_lay_318 rfl (lv_at hl 1 rfl) ?_
  refine lv_bipush (v := 12) hx hb dL_lay_319 (by decide) ?_
  refine lv_iload hx hb dL_lay_321 (lv_at hl 7 rfl) ?_
  have g323 : vp_in 12 16 := vpi (by decide) (by decide)
  refine iast2 S hKL wC wL hdis (k := 0) (by decide) (cA := adL 100) (N := 16) (fun f => rfl) rfl g323 dL_lay_323 (fun H locs wC wL => ?_)
  refine lv_iload hx hb dL_lay_324 (lv_at hl 6 rfl) ?_
  refine lv_if_eq (tgt := 341) hx hb dL_lay_326 (by decide) (fun c326 => ?_) (fun c326 => ?_)
  · exact absurd c326 (by decide)
  · refine lv_aload_n hx hb dL_lay_329 rfl (lv_at hl 0 rfl) ?_
    refine lv_iconst (v := 0) hx hb dL_lay_330 (by decide) ?_
    refine lv_iconst (v := 0) hx hb dL_lay_331 (by decide) ?_
    refine lv_iconst (v := 0) hx hb dL_lay_332 (by decide) ?_
    refine lv_iload hx hb dL_lay_333 (lv_at hl 7 rfl) ?_
    refine callWi2 wC wL hdis (va_runV (As := [.int 0, .int 0, .int 0, .int (mx N)]) (rest := []) S (c_X3_register l adC D H.size σ 0 0 0 (mx N) hI.1) (cwV 4 S.2.2.2.2 gL_lay_X3_register rfl rfl rfl ⟨rfl, hd_X3_register⟩ ⟨Nat.le_of_ble_eq_true rfl, Nat.le_of_ble_eq_true rfl⟩) (preV hKC hN wC (k := 0) (by decide) (eC_0 adC _) (q := (RX3, TX3, 14)) rfl) rfl rfl hl.1 rfl (lv_room (Nat.le_of_ble_eq_true rfl)) dL_lay_335 ⟨Nat.zero_le _, Nat.zero_le _⟩) (fun H locs wC wL => ?_)
    have em : mx N = nI (11 * N - 1) := mx_p (by omega)
    rw [em] at wC ⊢
    have t2 : u2 τ 0 (ix 12) (mx N) 0 0 = nI N := by rw [u2_nk (by decide)]; exact hI.2.2.2.1
    have hg := q_reg (τ := u2 τ 0 (ix 12) (mx N)) hI.1 hI.2.1 hI.2.2.1 hN2 hN8 (Tx_w hI.2.2.2.2.2.2) t2 (by rw [u2_nk (by decide)]; exact hI.2.2.2.2.1) (fun k hk => by rw [u2_nk (by rw [show ix 12 = 12 from rfl]; omega)]; exact hI.2.2.2.2.2.1 (by omega) k hk)
    refine lv_goto (tgt := 344) hx hb dL_lay_338 (by decide) ?_
    have hG : LayR (f_X3_register σ 0 0 0 (nI (11 * N - 1))).1 ((f_X3_register σ 0 0 0 (nI (11 * N - 1))).2, u2 τ 0 (ix 12) (mx N)) := ⟨by rw [hg.1]; exact (hg.2.1.2.2.1.symm.trans t2).symm, hg.2.1, hg.2.2⟩
    exact W.iret (v := (f_X3_register σ 0 0 0 (nI (11 * N - 1))).1) S.1 S.2.1 hr (fun t ht hW => ⟨⟨_, _, rfl, hG, by show va_P D vwCl _ t.heap ∧ va_P D vwCl _ t.heap; rw [ht]; exact ⟨wC.1, wL.1⟩⟩, wC.2.2.1.F ht⟩) wC.2.2.1.2.2 dL_lay_344 hlocks
set_option maxHeartbeats 8000000 in
set_option maxRecDepth 100000 in
theorem c_L_lay (l : Launch) (adC adL : Nat → Nat) (D : va_G) (sz b L : Nat) (xs : Nat → Int32) (σ τ : St) (hL : L ≤ 260) (h100 : adL 100 = adC 100) (hdis : ∀ i, i < 41 → ∀ j, j < 3 → adC i ≠ adL j) (hbA : ¬ CB2 adC adL sz b) (ok : OkC σ) (h0 : s0 σ) (h1 : s1 σ) : Met l yL_lay wsL_lay ({ frames := 4, cells := 0, slots := 0, locals := 91 }) (PreY adC adL D b L xs σ τ sz (avY adC adL b)) (QY adC adL D (CB2 adC adL sz)) 0 0 (CB2 adC adL sz) := by
  refine Met.ofW (cc := cL_lay) (maxL := 14) (ret := (some .int)) (by decide) rfl ?_
  intro p e s m args below meth c s₁ B hml hv
  obtain ⟨rfl, hsz, ⟨hP1, hP2⟩, hKC, ⟨hD1, hD2⟩, hN, hX, hbl⟩ := hv
  have hts := atoms_spec (ws := wsL_lay) B.pre
  have hown : s.vm.findClass yL_lay.cls = some m.cls := findClass_of_methodNamed B.named
  have hl := lv_entry (avY adC adL b) (n := 14) (Nat.le_of_ble_eq_true rfl)
  rw [lg_entry_eq]
  have S : CallFix p m c cL_lay 14 s (avY adC adL b).toArray wsL_lay RL := ⟨B.exec, B.bytes, hml, hown, hts⟩
  have hC : LYC p s m meth c D b L sz xs adC adL := ⟨hL, S, B.returns, B.notSynchronized, hKC, KL_of hKC h100, hN, hX, hbl, hbA, hdis, fun i hi j hj q => hdis j hj i hi q.symm⟩
  have wC : CW 41 (eC adC) adC D (CB2 adC adL sz) s.heap σ s.heap [] := ⟨hP1, Wd_addr hD1 (fun c hc => Or.inl ⟨c, hc, rfl⟩), va_S.rf, fun q hq => Or.inr (Or.inr (by rw [← hsz]; exact hq))⟩
  have wL : CW 3 (eL adL) adL D (CB2 adC adL sz) s.heap τ s.heap [] := ⟨hP2, Wd_addr hD2 (fun c hc => Or.inr (Or.inl ⟨c, hc, rfl⟩)), va_S.rf, fun q hq => Or.inr (Or.inr (by rw [← hsz]; exact hq))⟩
  have key : LY p l e s m below meth c D b sz adC adL σ τ 0 [(0, .ref (adC 0)), (1, .ref (adL 0)), (2, .ref (adL 1)), (3, .ref (adL 2)), (4, .ref b), (5, .int 0)] [] := by
    intro H locs wC wL ls hl
    obtain ⟨hL, S, hr, hlocks, hKC, hKL, hN, hX, hbl, hbA, hdis, hdis2⟩ := id hC
    have hx := S.1
    have hb := S.2.1
    have z0 : (0 : Int32).toInt = 0 := by decide
    have z1 : (1 : Int32).toInt = 1 := by decide
    refine lv_aload hx hb dL_lay_0 (lv_at hl 4 rfl) ?_
    refine lv_iload hx hb dL_lay_2 (lv_at hl 5 rfl) ?_
    refine call0i (va_runS (As := [.ref b, .int 0]) (rest := []) S (c_L_cell l b L xs 0 (by decide) (by omega)) (va_cwS 2 S.2.2.2.2 gL_lay_L_cell rfl rfl rfl hd_L_cell ⟨Nat.le_of_ble_eq_true rfl, Nat.le_of_ble_eq_true rfl⟩) (preX hX hbl hbA wC.2.2.1) rfl rfl hl.1 rfl (lv_room (Nat.le_of_ble_eq_true rfl)) dL_lay_4 ⟨Nat.zero_le _, Nat.zero_le _⟩) ?_
    refine lv_istore (lv' := [(6, .int (cellF L xs 0)), (0, .ref (adC 0)), (1, .ref (adL 0)), (2, .ref (adL 1)), (3, .ref (adL 2)), (4, .ref b), (5, .int 0)]) hx hb dL_lay_7 hl (by decide) rfl (fun ls hl => ?_)
    generalize (cellF L xs 0) = v6 at hl
    have q16 := low_lt (v := v6) (n := 7) (z := 7) (by decide) (by decide)
    have z2 : (2 : Int32).toInt = 2 := by decide
    refine lv_aload_n hx hb dL_lay_9 rfl (lv_at hl 2 rfl) ?_
    refine lv_iconst (v := 0) hx hb dL_lay_10 (by decide) ?_
    refine lv_iconst (v := 2) hx hb dL_lay_11 (by decide) ?_
    refine lv_iload hx hb dL_lay_12 (lv_at hl 0 rfl) ?_
    refine lv_bipush (v := 7) hx hb dL_lay_14 (by decide) ?_
    refine call0i (va_runS (As := [.int v6, .int 7]) (rest := [.int 2, .int 0, .ref (adL 0)]) S (c_L_low l v6 7 (by decide)) (va_cwS 2 S.2.2.2.2 gL_lay_L_low rfl rfl rfl hd_L_low ⟨Nat.le_of_ble_eq_true rfl, Nat.le_of_ble_eq_true rfl⟩) pre0S rfl rfl hl.1 rfl (lv_room (Nat.le_of_ble_eq_true rfl)) dL_lay_16 ⟨Nat.zero_le _, Nat.zero_le _⟩) ?_
    refine lv_iadd hx hb dL_lay_19 ?_
    have g20 : vp_in 0 16 := vpi (by decide) (by decide)
    refine iast2 S hKL wC wL hdis (k := 0) (by decide) (cA := adL 100) (N := 16) (fun f => rfl) rfl g20 dL_lay_20 (fun H locs wC wL => ?_)
    refine lv_aload_n hx hb dL_lay_21 rfl (lv_at hl 2 rfl) ?_
    refine lv_iconst (v := 1) hx hb dL_lay_22 (by decide) ?_
    refine lv_iconst (v := 0) hx hb dL_lay_23 (by decide) ?_
    have g24 : vp_in 1 16 := vpi (by decide) (by decide)
    refine iast2 S hKL wC wL hdis (k := 0) (by decide) (cA := adL 100) (N := 16) (fun f => rfl) rfl g24 dL_lay_24 (fun H locs wC wL => ?_)
    refine lv_aload_n hx hb dL_lay_25 rfl (lv_at hl 2 rfl) ?_
    refine lv_iconst (v := 2) hx hb dL_lay_26 (by decide) ?_
    refine lv_bipush (v := 40) hx hb dL_lay_27 (by decide) ?_
    have g29 : vp_in 2 16 := vpi (by decide) (by decide)
    refine iast2 S hKL wC wL hdis (k := 0) (by decide) (cA := adL 100) (N := 16) (fun f => rfl) rfl g29 dL_lay_29 (fun H locs wC wL => ?_)
    refine lv_iconst (v := 1) hx hb dL_lay_30 (by decide) ?_
    refine lv_istore (lv' := [(7, .int 1), (6, .int v6), (0, .ref (adC 0)), (1, .ref (adL 0)), (2, .ref (adL 1)), (3, .ref (adL 2)), (4, .ref b), (5, .int 0)]) hx hb dL_lay_31 hl (by decide) rfl (fun ls hl => ?_)
    refine lv_iconst (v := 0) hx hb dL_lay_33 (by decide) ?_
    refine lv_istore (lv' := [(8, .int 0), (7, .int 1), (6, .int v6), (0, .ref (adC 0)), (1, .ref (adL 0)), (2, .ref (adL 1)), (3, .ref (adL 2)), (4, .ref b), (5, .int 0)]) hx hb dL_lay_34 hl (by decide) rfl (fun ls hl => ?_)
    refine lv_iconst (v := 0) hx hb dL_lay_36 (by decide) ?_
    refine lv_istore (lv' := [(9, .int 0), (8, .int 0), (7, .int 1), (6, .int v6), (0, .ref (adC 0)), (1, .ref (adL 0)), (2, .ref (adL 1)), (3, .ref (adL 2)), (4, .ref b), (5, .int 0)]) hx hb dL_lay_37 hl (by decide) rfl (fun ls hl => ?_)
    have e2 := a_toInt (a := 2) (b := f_L_low v6 7) (by omega) (by omega)
    have eN : 2 + f_L_low v6 7 = nI (ix (2 + f_L_low v6 7)) := nI_ix (by omega)
    have jN := ix_toInt (x := 2 + f_L_low v6 7) (by omega)
    generalize 2 + f_L_low v6 7 = w0 at wL eN jN e2
    have hI : Iv σ (u2 (u2 (u2 τ 0 (ix 0) w0) 0 (ix 1) 0) 0 (ix 2) 40) (ix w0) (ix 0) := ⟨ok, h0, h1, by rw [u2_nk (by decide), u2_nk (by decide)]; exact (u2_self _ _ _ _).trans eN, u2_self _ _ _ _, fun q => absurd q (Nat.lt_irrefl _), fun x hx => absurd hx (Nat.not_lt_zero _)⟩
    have em : mx (ix 0) = 0 := rfl
    refine y_39 (v6 := v6) hC (N := ix w0) (by omega) (by omega) (fun σ2 τ2 i2 => y_318 hC (by omega) (by omega) i2) 100 0 _ _ hI (by decide) (by omega) (by omega) H locs wC wL ls ?_
    rw [em]
    exact lv_sub hl [4, 5, 6, 7, 8, 9, 3, 2, 1, 0] rfl
  exact key s.heap [] wC wL _ hl
