/-! THE CLAIM OUT OF ONE WALK OF THE LAW'S BODY. Your part is whole_start (and what it stands on); all else here is the same for every law, but numbers. -/
def R_law : String := "NineSmellsLaw"
def lw_P (b : Addr) (xs : List Int32) (args : Array Value) (s : State) : Prop := args = #[.ref b] ∧ s.IntsAt b xs ∧ xs.length ≤ 260 ∧ (Jvm.Cond.and given_1 narrow_1).before args s = true
def lw_Q (_ : Array Value) (s : State) (o : Outcome) (t : State) : Prop := o = .returned (some (.int 1)) ∧ Framed s o t [] 600000 7302250
def lw_Z (below : List Frame) (a : Array Value) (s : State) : State → Prop := fun t => ∃ o, t.status = .running ∧ Ended t below o ∧ lw_Q a s o t
/-- the law's own end, with 1 on the stack, nothing written that was there before, its room as the claim has it -/
theorem lw_ret {p : Program} {l : Launch} {e : Env} {s : State} {m : MethodId} {below : List Frame} {meth : Method} {c : Code} {b : Nat} (hx : p.tables.exec = Jvm.exec) (hb : c.code = code) (hr : meth.sig.returnType = ret) (hlocks : meth.locks = false) {pc : Nat} {H : Heap} {ls : Array Slot} (hdg : decode code pc = .ok (.ireturn, 1)) : W p l e room_1 s m #[Value.ref b] below meth c H [] 600000 7302250 (lw_Z below #[Value.ref b] s) (F0 m pc ls [.int 1]) := by
  intro T hT X
  obtain ⟨fs, hret, hrun, hended, hW, hframe⟩ := X.leave (v := some (.int 1)) (hlocks := hlocks) (fun h => by rw [hr] at h; cases h)
  have hmeth' : T.vm.method? m = some meth := X.method'
  refine ⟨T.setFrames fs, ?_, .returned (some (.int 1)), hrun, hended, rfl, ⟨_, rfl⟩, hW, hframe⟩
  jvm_step X.here [X.here.top, hx, hb, hdg, hmeth', hr, ret, narrow_b1]
  (try refine ⟨rfl, ?_⟩); (try refine ⟨rfl, ?_⟩)
  first | (intro acts; rw [hret _ acts rfl rfl rfl]) | rw [hret _ _ rfl rfl rfl]
  exact Steps.refl _
/-- what holds at the law's entry: the machine, the code, the tables' words (any of lw_tbl by 'hts w (by decide +kernel)'), the script of L ints xs at the cell b, what the Statement gives of the start (any of its parts by flat_of_before) -/
def lw_At (p : Program) (s : State) (m : MethodId) (meth : Method) (c : Code) (b L : Nat) (xs : Nat → Int32) : Prop :=
  p.tables.exec = Jvm.exec ∧ c.code = code ∧ meth.sig.returnType = ret ∧ c.maxLocals = 30 ∧ s.vm.findClass R_law = some m.cls ∧ (∀ w ∈ lw_tbl, w.before #[Value.ref b] s = true) ∧ va_X b L xs s s.heap ∧ b < s.heap.size ∧ meth.locks = false ∧ (Jvm.Cond.and given_1 narrow_1).before #[Value.ref b] s = true
set_option maxRecDepth 20000 in
theorem nestF_in : ∀ q ∈ nestF, Cond.fieldLinkNest RX3 q.1 q.2.1 q.2.2.1 q.2.2.2 RX3 ∈ lw_tbl := List.forall_mem_cons.mpr ⟨tb_t1 (List.mem_of_getElem? (i := 28) rfl), List.forall_mem_cons.mpr ⟨tb_t1 (List.mem_of_getElem? (i := 30) rfl), List.forall_mem_cons.mpr ⟨tb_t1 (List.mem_of_getElem? (i := 33) rfl), List.forall_mem_cons.mpr ⟨tb_t1 (List.mem_of_getElem? (i := 49) rfl), List.forall_mem_cons.mpr ⟨tb_t1 (List.mem_of_getElem? (i := 50) rfl), List.forall_mem_cons.mpr ⟨tb_t1 (List.mem_of_getElem? (i := 52) rfl), fun _ h => absurd h List.not_mem_nil⟩⟩⟩⟩⟩⟩
set_option maxRecDepth 20000 in
theorem nestM_in : ∀ q ∈ nestM, Cond.methodLinkNest RX3 q.1 q.2 RX3 ∈ lw_tbl := List.forall_mem_cons.mpr ⟨tb_t1 (List.mem_of_getElem? (i := 23) rfl), List.forall_mem_cons.mpr ⟨tb_t1 (List.mem_of_getElem? (i := 45) rfl), List.forall_mem_cons.mpr ⟨tb_t1 (List.mem_of_getElem? (i := 61) rfl), List.forall_mem_cons.mpr ⟨tb_t1 (List.mem_of_getElem? (i := 183) rfl), List.forall_mem_cons.mpr ⟨tb_t2 (List.mem_of_getElem? (i := 23) rfl), List.forall_mem_cons.mpr ⟨tb_t2 (List.mem_of_getElem? (i := 34) rfl), fun _ h => absurd h List.not_mem_nil⟩⟩⟩⟩⟩⟩
theorem NW_of {s : State} {args : Array Value} (hts : ∀ w ∈ lw_tbl, w.before args s = true) : NW s := ⟨fun q hq => va_Nw.of rfl (hts _ (nestF_in q hq)), fun q hq => va_Nw.of rfl (hts _ (nestM_in q hq))⟩
/-! the law's own frame: what it needs from here on, with both worlds' contents -/
def LG (p : Program) (l : Launch) (e : Env) (s : State) (m : MethodId) (below : List Frame) (meth : Method) (c : Code) (D : va_G) (b : Nat) (adC adL : Nat → Nat) (n : Nat) (σ τ : St) (nc ns pc : Nat) (lv : List (Nat × Value)) (st : List Value) : Prop :=
  adL 100 = adC 100 → (∀ i, i < 41 → ∀ j, j < n → adC i ≠ adL j) → ∀ (H : Heap) (locs : List Loc), CW 41 (eC adC) adC D (fun q : Nat => s.heap.size ≤ q) s.heap σ H locs → CW n (eL adL) adL D (fun q : Nat => s.heap.size ≤ q) s.heap τ H locs → ∀ ls : Array Slot, lv_has ls 30 lv → W p l e room_1 s m #[Value.ref b] below meth c H locs nc ns (lw_Z below #[Value.ref b] s) (F0 m pc ls st)
def LC (p : Program) (s : State) (m : MethodId) (meth : Method) (c : Code) (D : va_G) (b L : Nat) (xs : Nat → Int32) (adC : Nat → Nat) : Prop := L ≤ 260 ∧ lw_At p s m meth c b L xs ∧ va_K D vwCl (tyC adC) s
theorem KL_of {D : va_G} {s : State} {adC adL : Nat → Nat} (hKC : va_K D vwCl (tyC adC) s) (h : adL 100 = adC 100) : va_K D vwCl (tyL adL) s := ⟨hKC.1, fun k q hk => by
  match k, hk with
  | 0, hk =>
    cases hk
    rw [h]
    exact hKC.2 0 (adC 100, .int) rfl
  | k + 1, hk => simp [tyL] at hk⟩
theorem rm_ok {nc ns : Nat} (h1 : nc ≤ 1000) (h2 : ns ≤ 10000) : nc + 0 ≤ room_1.cells ∧ ns + 0 ≤ room_1.slots := ⟨Nat.le_trans (show nc + 0 ≤ 1000 from h1) (Nat.le_of_ble_eq_true rfl), Nat.le_trans (show ns + 0 ≤ 10000 from h2) (Nat.le_of_ble_eq_true rfl)⟩
theorem rm_newc {nc : Nat} (h1 : nc ≤ 999) : nc + 1 ≤ room_1.cells := Nat.le_trans (show nc + 1 ≤ 1000 by omega) (Nat.le_of_ble_eq_true rfl)
theorem rm_news {ns k : Nat} (h2 : ns + k ≤ 10000) : ns + k ≤ room_1.slots := Nat.le_trans h2 (Nat.le_of_ble_eq_true rfl)
theorem pr1 {α β : Type} {z : α × β} {a : α} {b : β} (h : z = (a, b)) : z.1 = a := by rw [h]
theorem pr2 {α β : Type} {z : α × β} {a : α} {b : β} (h : z = (a, b)) : z.2 = b := by rw [h]
/-- what holds all through a round: the relation, how many SIGNS, which round, and that the new smell isn't sought before the first round's question -/
def Bs (σ τ : St) (v5 v6 : Int32) : Prop := Rl σ τ ∧ v5 = σ 0 4 ∧ (0 ≤ v6.toInt ∧ v6.toInt < 3) ∧ (v6 = 0 → σ 8 0 = -1)
theorem Bs.n {σ τ : St} {v5 v6 : Int32} (h : Bs σ τ v5 v6) : v5.toInt = (σ 0 4).toInt ∧ 2 ≤ v5.toInt ∧ v5.toInt ≤ 8 := by
  have := h.1.n
  rw [h.2.1]
  omega
theorem Bs.fx {σ σ' τ : St} {v5 v6 : Int32} (h : Bs σ τ v5 v6) (hF : Fx (fun c => c = 6 ∨ c = 7 ∨ c = 14) σ σ') : Bs σ' τ v5 v6 :=
  ⟨Fx.rl (hF.mo (fun c hc => by unfold bd; omega)) h.1, by rw [hF.1 4 (by omega)]; exact h.2.1, h.2.2.1, fun e => by rw [hF.2 8 (by omega) (by omega)]; exact h.2.2.2 e⟩
theorem Bs.tau {σ τ τ' : St} {v5 v6 : Int32} (h : Bs σ τ v5 v6) (h0 : τ' 0 = τ 0) (h1 : τ' 1 = τ 1) (h2 : τ' 2 = τ 2) : Bs σ τ' v5 v6 := ⟨h.1.tau h0 h1 h2, h.2.1, h.2.2.1, h.2.2.2⟩
/-- .. behind that question -/
def Br (σ τ : St) (v5 v6 : Int32) : Prop := Rl σ τ ∧ v5 = σ 0 4 ∧ (0 ≤ v6.toInt ∧ v6.toInt < 3)
theorem Bs.r {σ τ : St} {v5 v6 : Int32} (h : Bs σ τ v5 v6) : Br σ τ v5 v6 := ⟨h.1, h.2.1, h.2.2.1⟩
theorem Br.n {σ τ : St} {v5 v6 : Int32} (h : Br σ τ v5 v6) : v5.toInt = (σ 0 4).toInt ∧ 2 ≤ v5.toInt ∧ v5.toInt ≤ 8 := by
  have := h.1.n
  rw [h.2.1]
  omega
theorem Br.fx {σ σ' τ : St} {v5 v6 : Int32} (h : Br σ τ v5 v6) (hF : Fx bd σ σ') : Br σ' τ v5 v6 := ⟨Fx.rl hF h.1, by rw [hF.1 4 (by omega)]; exact h.2.1, h.2.2⟩
theorem Br.tau {σ τ τ' : St} {v5 v6 : Int32} (h : Br σ τ v5 v6) (h0 : τ' 0 = τ 0) (h1 : τ' 1 = τ 1) (h2 : τ' 2 = τ 2) : Br σ τ' v5 v6 := ⟨h.1.tau h0 h1 h2, h.2.1, h.2.2⟩
theorem Br.flt {σ τ : St} {v5 v6 : Int32} (h : Br σ τ v5 v6) (v : Int32) : Br (u2 σ 0 9 v) τ v5 v6 := h.fx (Fx.flt v)
theorem Br.fo {σ σ' τ : St} {v5 v6 : Int32} {k : Nat} (h : Br σ τ v5 v6) (hk : k = 6 ∨ k = 7 ∨ k = 8 ∨ k = 14) (hF : Fx (only k) σ σ') : Br σ' τ v5 v6 := h.fx (hF.mo (fun c hc => by have e : c = k := hc; unfold bd; omega))
