/-! the system's worlds: a fixed number of cells at fixed addresses, each with a row of ints; what a call changes are the ints alone -/
abbrev St : Type := Nat → Nat → Int32
abbrev ix (i : Int32) : Nat := i.toNatClampNeg
/-- one cell's row replaced; one place of it -/
def u1 (σ : St) (c : Nat) (f : Nat → Int32) : St := fun c' => if c' = c then f else σ c'
def u2 (σ : St) (c k : Nat) (v : Int32) : St := u1 σ c (upd (σ c) k v)
theorem u1_same (σ : St) (c : Nat) (f : Nat → Int32) : u1 σ c f c = f := if_pos rfl
theorem u1_ne {σ : St} {c c' : Nat} (f : Nat → Int32) (h : c' ≠ c) : u1 σ c f c' = σ c' := if_neg h
/-- the world's cells: n of them, cell c at ad c, made of its row by E -/
def Wd (n : Nat) (E : Nat → (Nat → Int32) → va_E) (ad : Nat → Nat) (σ : St) : va_W := (List.range n).map (fun c => (ad c, E c (σ c)))
theorem Wd_get {n : Nat} {E : Nat → (Nat → Int32) → va_E} {ad : Nat → Nat} {σ : St} {c : Nat} (h : c < n) : (Wd n E ad σ)[c]? = some (ad c, E c (σ c)) := by
  unfold Wd
  rw [List.getElem?_map, List.getElem?_range h]
  rfl
theorem Wd_get_inv {n : Nat} {E : Nat → (Nat → Int32) → va_E} {ad : Nat → Nat} {σ : St} {c : Nat} {q : Nat × va_E} (h : (Wd n E ad σ)[c]? = some q) : c < n ∧ q = (ad c, E c (σ c)) := by
  have hl : c < n := by
    have h1 := (List.getElem?_eq_some_iff.mp h).1
    unfold Wd at h1
    simpa using h1
  rw [Wd_get hl] at h
  exact ⟨hl, (Option.some.inj h).symm⟩
theorem Wd_set {n : Nat} {E : Nat → (Nat → Int32) → va_E} {ad : Nat → Nat} {σ : St} {c : Nat} {f : Nat → Int32} {e : va_E} (he : E c f = e) : (Wd n E ad σ).set c (ad c, e) = Wd n E ad (u1 σ c f) := by
  subst he
  refine List.ext_getElem? (fun j => ?_)
  rcases Nat.lt_or_ge j n with hj | hj
  · rw [Wd_get hj, List.getElem?_set]
    by_cases hcj : c = j
    · subst hcj
      rw [if_pos rfl, u1_same]
      have hl : c < (Wd n E ad σ).length := by simp [Wd, hj]
      rw [if_pos hl]
    · rw [if_neg hcj, Wd_get hj, u1_ne _ (fun h => hcj h.symm)]
  · have h1 : (Wd n E ad (u1 σ c f))[j]? = none := by simp [Wd, hj]
    have h2 : ((Wd n E ad σ).set c (ad c, E c f))[j]? = none := by simp [Wd, hj]
    rw [h1, h2]
theorem Wd_addr {n : Nat} {E : Nat → (Nat → Int32) → va_E} {ad : Nat → Nat} {σ τ : St} {A B : Nat → Prop} (hD : va_D A (Wd n E ad σ)) (hB : ∀ c, c < n → B (ad c)) : va_D B (Wd n E ad τ) := by
  refine ⟨fun i j p q hi hj hpq => ?_, fun k q hk => ?_⟩
  · obtain ⟨li, rfl⟩ := Wd_get_inv hi
    obtain ⟨lj, rfl⟩ := Wd_get_inv hj
    exact hD.1 i j _ _ (Wd_get li) (Wd_get lj) hpq
  · obtain ⟨lk, rfl⟩ := Wd_get_inv hk
    exact hB k lk
/-- a method's own cells and what is new -/
def CA (n : Nat) (ad : Nat → Nat) (sz : Nat) : Nat → Prop := fun q => (∃ c, c < n ∧ q = ad c) ∨ sz ≤ q
/-- the world within a walk -/
def CW (n : Nat) (E : Nat → (Nat → Int32) → va_E) (ad : Nat → Nat) (D : va_G) (A : Nat → Prop) (H0 : Heap) (σ : St) (H : Heap) (locs : List Loc) : Prop :=
  va_P D vwCl (Wd n E ad σ) H ∧ va_D A (Wd n E ad σ) ∧ va_S A H0 H locs ∧ ∀ q, H0.size ≤ q → A q
/-- the private links of nest mates, the arrays of the class's own classes -/
def nestF : List (Nat × String × String × String) := [(250, "NineSmells$Sheet", "has", "Z"), (261, "NineSmells$Sheet", "lane", "I"), (90, "NineSmells$Sheet", "cells", "[I"), (71, "NineSmells$Sign", "kind", "I"), (101, "NineSmells$Sign", "total", "I"), (74, "NineSmells$Sign", "strength", "[I")]
def nestM : List (Nat × MethodName) := [(45, yX1_init), (46, yX2_init), (47, yX0_init), (254, yX1_lacks), (247, yX1_renew), (258, yX1_cut)]
def NW (U : State) : Prop := (∀ q ∈ nestF, va_Nw (.fieldLinkNest RX3 q.1 q.2.1 q.2.2.1 q.2.2.2 RX3) U) ∧ ∀ q ∈ nestM, va_Nw (.methodLinkNest RX3 q.1 q.2 RX3) U
theorem NW.warm {s U : State} (hW : s.WarmedH U.vm) (h : NW s) : NW U := ⟨fun q hq => va_Nw.warmF hW (h.1 q hq), fun q hq => va_Nw.warmM hW (h.2 q hq)⟩
theorem NW.same {u U : State} (e : u.vm = U.vm) (h : NW u) : NW U := ⟨fun q hq => va_Nw.same rfl e (h.1 q hq), fun q hq => va_Nw.same rfl e (h.2 q hq)⟩
theorem NW.f {U : State} {args : Array Value} (h : NW U) (i : Nat) {q : Nat × String × String × String} (hq : nestF[i]? = some q) : (Cond.fieldLinkNest RX3 q.1 q.2.1 q.2.2.1 q.2.2.2 RX3).before args U = true := va_Nw.use rfl (h.1 q (List.mem_of_getElem? hq))
theorem NW.m {U : State} (h : NW U) (i : Nat) {q : Nat × MethodName} (hq : nestM[i]? = some q) : va_Nw (.methodLinkNest RX3 q.1 q.2 RX3) U := h.2 q (List.mem_of_getElem? hq)
/-- a method's start: its world of so many cells -/
def PreW (n : Nat) (E : Nat → (Nat → Int32) → va_E) (ad : Nat → Nat) (D : va_G) (tys : List (ClassId × FieldType)) (σ : St) (sz : Nat) (av : List Value) : Array Value → State → Prop :=
  va_Pc av (fun U => U.heap.size = sz ∧ va_P D vwCl (Wd n E ad σ) U.heap ∧ va_K D vwCl tys U ∧ va_D (fun _ => True) (Wd n E ad σ) ∧ NW U)
theorem PreW.blind {n : Nat} {E : Nat → (Nat → Int32) → va_E} {ad : Nat → Nat} {D : va_G} {tys : List (ClassId × FieldType)} {σ : St} {sz : Nat} {av : List Value} : FrameBlind (PreW n E ad D tys σ sz av) := by
  intro a U g mk q
  obtain ⟨q0, q1, qP, qK, qD, qN⟩ := q
  exact ⟨q0, q1, qP, va_K.moved (u := U) (U := U.calling g mk a) (Vm.Alike.refl U.vm) qK, qD, qN.same rfl⟩
/-- what a method of this world answers, the world behind it -/
def QWi (n : Nat) (E : Nat → (Nat → Int32) → va_E) (ad : Nat → Nat) (D : va_G) (tgt : Int32 × St) (A : Nat → Prop) : Array Value → State → Outcome → State → Prop := va_Qi (fun (v : Int32) (u : St) => (v, u) = tgt) (fun u t => va_P D vwCl (Wd n E ad u) t.heap) A
def QWl (n : Nat) (E : Nat → (Nat → Int32) → va_E) (ad : Nat → Nat) (D : va_G) (tgt : Int64 × St) (A : Nat → Prop) : Array Value → State → Outcome → State → Prop := va_Ql (fun (v : Int64) (u : St) => (v, u) = tgt) (fun u t => va_P D vwCl (Wd n E ad u) t.heap) A
def QWv (n : Nat) (E : Nat → (Nat → Int32) → va_E) (ad : Nat → Nat) (D : va_G) (tgt : St) (A : Nat → Prop) : Array Value → State → Outcome → State → Prop := va_Qv (fun (u : St) => u = tgt) (fun u t => va_P D vwCl (Wd n E ad u) t.heap) A
/-- .. of one that changes nothing -/
def Q0i (tgt : Int32) : Array Value → State → Outcome → State → Prop := fun _ st oc t => oc = .returned (some (.int tgt)) ∧ t.heap = st.heap
def Q0l (tgt : Int64) : Array Value → State → Outcome → State → Prop := fun _ st oc t => oc = .returned (some (.long tgt)) ∧ t.heap = st.heap
def Pre0 (av : List Value) : Array Value → State → Prop := va_Pc av (fun _ => True)
theorem Pre0.blind {av : List Value} : FrameBlind (Pre0 av) := fun _ _ _ _ q => ⟨q.1, trivial⟩
def N0 : Addr → Prop := fun _ => False
section HEADS
variable {l : Launch} {n : Nat} {E : Nat → (Nat → Int32) → va_E} {ad : Nat → Nat} {D : va_G} {tys : List (ClassId × FieldType)} {σ : St} {sz : Nat}
/-- the head of any method of a world -/
theorem headW {y : MethodName} {ws ws' : List Cond} {rm : Room} {Qc : Array Value → State → Outcome → State → Prop} {free : Addr → Prop} {cc : ByteArray} {maxL : Nat} {ret : Option FieldType} (av : List Value)
    (hy : plainName y.cls = true) (hw : ws = Cond.code y cc maxL ret :: ws') (hent : (lg_sl av).length ≤ maxL)
    (body : ∀ (p : Program) (e : Env) (s : State) (m : MethodId) (below : List Frame) (meth : Method) (c : Code), CallFix p m c cc maxL s av.toArray ws y.cls → meth.sig.returnType = ret → meth.locks = false → va_K D vwCl tys s → NW s → s.heap.size = sz → CW n E ad D (CA n ad sz) s.heap σ s.heap [] →
      ∀ ls : Array Slot, lv_has ls maxL (lv_args 0 av) → W p l e (headSpec ws rm).room s m av.toArray below meth c s.heap [] 0 0 (MQ below Qc av.toArray s 0 0 free) (F0 m 0 ls [])) : Met l y ws rm (PreW n E ad D tys σ sz av) Qc 0 0 free := by
  refine Met.ofW (cc := cc) (maxL := maxL) (ret := ret) hy hw ?_
  intro p e s m args below meth c s₁ B hml hv
  obtain ⟨rfl, hsz, hP, hK, hD0, hN⟩ := hv
  have hts := atoms_spec (ws := ws) B.pre
  have hown : s.vm.findClass y.cls = some m.cls := findClass_of_methodNamed B.named
  have hl := lv_entry av (n := maxL) hent
  rw [lg_entry_eq]
  refine body p e s m below meth c ⟨B.exec, B.bytes, hml, hown, hts⟩ B.returns B.notSynchronized hK hN hsz ⟨hP, Wd_addr hD0 (fun c hc => Or.inl ⟨c, hc, rfl⟩), va_S.rf, fun q hq => Or.inr (by rw [← hsz]; exact hq)⟩ _ hl
/-- .. of a method without a world -/
theorem head0 {y : MethodName} {ws ws' : List Cond} {rm : Room} {Qc : Array Value → State → Outcome → State → Prop} {free : Addr → Prop} {cc : ByteArray} {maxL : Nat} {ret : Option FieldType} (av : List Value)
    (hy : plainName y.cls = true) (hw : ws = Cond.code y cc maxL ret :: ws') (hent : (lg_sl av).length ≤ maxL)
    (body : ∀ (p : Program) (e : Env) (s : State) (m : MethodId) (below : List Frame) (meth : Method) (c : Code), CallFix p m c cc maxL s av.toArray ws y.cls → meth.sig.returnType = ret → meth.locks = false →
      ∀ ls : Array Slot, lv_has ls maxL (lv_args 0 av) → W p l e (headSpec ws rm).room s m av.toArray below meth c s.heap [] 0 0 (MQ below Qc av.toArray s 0 0 free) (F0 m 0 ls [])) : Met l y ws rm (Pre0 av) Qc 0 0 free := by
  refine Met.ofW (cc := cc) (maxL := maxL) (ret := ret) hy hw ?_
  intro p e s m args below meth c s₁ B hml hv
  obtain ⟨rfl, -⟩ := hv
  have hts := atoms_spec (ws := ws) B.pre
  have hown : s.vm.findClass y.cls = some m.cls := findClass_of_methodNamed B.named
  have hl := lv_entry av (n := maxL) hent
  rw [lg_entry_eq]
  exact body p e s m below meth c ⟨B.exec, B.bytes, hml, hown, hts⟩ B.returns B.notSynchronized _ hl
end HEADS
section ROWS
variable {p : Program} {l : Launch} {e : Env} {R : Room} {s : State} {m : MethodId} {args : Array Value} {below : List Frame} {meth : Method} {c : Code} {H : Heap} {locs : List Loc} {cells slots : Nat} {Q : State → Prop}
variable {cc : ByteArray} {nL : Nat} {Ts : List Cond} {own : String} {pc : Nat} {ls : Array Slot} {rest : List Value}
variable {n : Nat} {E : Nat → (Nat → Int32) → va_E} {ad : Nat → Nat} {D : va_G} {A : Nat → Prop} {H0 : Heap} {σ : St} {tys : List (ClassId × FieldType)}
/-- getfield, of one's own class -/
theorem r_get (S : CallFix p m c cc nL s args Ts own) (hK : va_K D vwCl tys s) (w : CW n E ad D A H0 σ H locs) {k : Nat} (hk : k < n) {ci : Nat} {fs : List Value} (he : E k (σ k) = .inr (ci, fs)) {C : String} {T : u_T} {N : Nat} (hc : vwCl[ci]? = some (C, T, N)) (hin : ∀ w ∈ u_ws C T N, w ∈ Ts) (j : Nat) (hj : j < N) {index : Nat} (hlink : (Cond.fieldLink own index (T j).1 (T j).2.1 (T j).2.2.1) ∈ Ts) {v : Value} (hv : fs[j]? = some v) (hdg : decode cc pc = .ok (.getfield index, 3))
    (kk : W p l e R s m args below meth c H locs cells slots Q (F0 m (pc + 3) ls (v :: rest))) : W p l e R s m args below meth c H locs cells slots Q (F0 m pc ls (.ref (ad k) :: rest)) := by
  obtain ⟨hx, hb, hml, hown, hts⟩ := S
  exact va_get hx hb hts hin hown hK w.1 k (by rw [Wd_get hk, he]) hc j hj (hts _ hlink) (fun _ h => h) hv hdg kk
/-- .. of a nest mate -/
theorem r_getN (S : CallFix p m c cc nL s args Ts RX3) (hK : va_K D vwCl tys s) (hN : NW s) (w : CW n E ad D A H0 σ H locs) {k : Nat} (hk : k < n) {ci : Nat} {fs : List Value} (he : E k (σ k) = .inr (ci, fs)) {C : String} {T : u_T} {N : Nat} (hc : vwCl[ci]? = some (C, T, N)) (hin : ∀ w ∈ u_ws C T N, w ∈ Ts) (j : Nat) (hj : j < N) {index : Nat} (i : Nat) (hi : nestF[i]? = some (index, (T j).1, (T j).2.1, (T j).2.2.1)) {v : Value} (hv : fs[j]? = some v) (hdg : decode cc pc = .ok (.getfield index, 3))
    (kk : W p l e R s m args below meth c H locs cells slots Q (F0 m (pc + 3) ls (v :: rest))) : W p l e R s m args below meth c H locs cells slots Q (F0 m pc ls (.ref (ad k) :: rest)) := by
  obtain ⟨hx, hb, hml, hown, hts⟩ := S
  exact va_getN hx hb hts hin hown hK w.1 k (by rw [Wd_get hk, he]) hc j hj (hN.f i hi) (fun _ h => h) hv hdg kk
theorem r_put (S : CallFix p m c cc nL s args Ts own) (hK : va_K D vwCl tys s) (w : CW n E ad D A H0 σ H locs) {k : Nat} (hk : k < n) {ci : Nat} {fs : List Value} (he : E k (σ k) = .inr (ci, fs)) {C : String} {T : u_T} {N : Nat} (hc : vwCl[ci]? = some (C, T, N)) (hin : ∀ w ∈ u_ws C T N, w ∈ Ts) (ty0 : Nat → FieldType) (hty : ∀ k, k < N → parseFieldDescriptor (T k).2.2.1 = some (ty0 k)) (hnm : ∀ a, a < N → ∀ b, b < N → a ≠ b → (T a).2.1 ≠ (T b).2.1) (j : Nat) (hj : j < N) {index : Nat} (hlink : (Cond.fieldLink own index (T j).1 (T j).2.1 (T j).2.2.1) ∈ Ts) (hfin : (T j).2.2.2 = false) {x : Int32} {ty : FieldType} (hd : parseFieldDescriptor (T j).2.2.1 = some ty) (hn : narrow ty (.int x) = .int x) (hfit : fits ty (.int x) = true) (hl : j < fs.length) (hs : E k (upd (σ k) j x) = .inr (ci, fs.set j (.int x))) (hdg : decode cc pc = .ok (.putfield index, 3))
    (kk : ∀ (H1 : Heap) (locs1 : List Loc), CW n E ad D A H0 (u2 σ k j x) H1 locs1 → W p l e R s m args below meth c H1 locs1 cells slots Q (F0 m (pc + 3) ls rest)) : W p l e R s m args below meth c H locs cells slots Q (F0 m pc ls (.int x :: .ref (ad k) :: rest)) := by
  obtain ⟨hx, hb, hml, hown, hts⟩ := S
  refine va_put hx hb hts hin ty0 hty hnm hown hK w.1 w.2.1 w.2.2.1 k (by rw [Wd_get hk, he]) hc j hj (hts _ hlink) (fun _ h => h) hfin hd hn hfit hl hdg (fun H1 locs1 hP hD hS => kk H1 locs1 ?_)
  rw [Wd_set hs] at hP hD
  exact ⟨hP, hD, hS, w.2.2.2⟩
theorem r_putN (S : CallFix p m c cc nL s args Ts RX3) (hK : va_K D vwCl tys s) (hN : NW s) (w : CW n E ad D A H0 σ H locs) {k : Nat} (hk : k < n) {ci : Nat} {fs : List Value} (he : E k (σ k) = .inr (ci, fs)) {C : String} {T : u_T} {N : Nat} (hc : vwCl[ci]? = some (C, T, N)) (hin : ∀ w ∈ u_ws C T N, w ∈ Ts) (ty0 : Nat → FieldType) (hty : ∀ k, k < N → parseFieldDescriptor (T k).2.2.1 = some (ty0 k)) (hnm : ∀ a, a < N → ∀ b, b < N → a ≠ b → (T a).2.1 ≠ (T b).2.1) (j : Nat) (hj : j < N) {index : Nat} (i : Nat) (hi : nestF[i]? = some (index, (T j).1, (T j).2.1, (T j).2.2.1)) (hfin : (T j).2.2.2 = false) {x : Int32} {ty : FieldType} (hd : parseFieldDescriptor (T j).2.2.1 = some ty) (hn : narrow ty (.int x) = .int x) (hfit : fits ty (.int x) = true) (hl : j < fs.length) (hs : E k (upd (σ k) j x) = .inr (ci, fs.set j (.int x))) (hdg : decode cc pc = .ok (.putfield index, 3))
    (kk : ∀ (H1 : Heap) (locs1 : List Loc), CW n E ad D A H0 (u2 σ k j x) H1 locs1 → W p l e R s m args below meth c H1 locs1 cells slots Q (F0 m (pc + 3) ls rest)) : W p l e R s m args below meth c H locs cells slots Q (F0 m pc ls (.int x :: .ref (ad k) :: rest)) := by
  obtain ⟨hx, hb, hml, hown, hts⟩ := S
  refine va_putN hx hb hts hin ty0 hty hnm hown hK w.1 w.2.1 w.2.2.1 k (by rw [Wd_get hk, he]) hc j hj (hN.f i hi) (fun _ h => h) hfin hd hn hfit hl hdg (fun H1 locs1 hP hD hS => kk H1 locs1 ?_)
  rw [Wd_set hs] at hP hD
  exact ⟨hP, hD, hS, w.2.2.2⟩
/-- int arrays; arrays of objects -/
theorem r_iald (S : CallFix p m c cc nL s args Ts own) (hK : va_K D vwCl tys s) (w : CW n E ad D A H0 σ H locs) {k : Nat} (hk : k < n) {cA : ClassId} {N : Nat} (he : ∀ f, E k f = .inl (cA, N, .inl f)) (ht : tys[0]? = some (cA, .int)) {i : Int32} (hi : vp_in i N) (hdg : decode cc pc = .ok (.iaload, 1))
    (kk : W p l e R s m args below meth c H locs cells slots Q (F0 m (pc + 1) ls (.int (σ k (ix i)) :: rest))) : W p l e R s m args below meth c H locs cells slots Q (F0 m pc ls (.int i :: .ref (ad k) :: rest)) :=
  va_iald S.1 S.2.1 hK w.1 k 0 (by rw [Wd_get hk, he]) ht hi hdg kk
theorem r_iast (S : CallFix p m c cc nL s args Ts own) (hK : va_K D vwCl tys s) (w : CW n E ad D A H0 σ H locs) {k : Nat} (hk : k < n) {cA : ClassId} {N : Nat} (he : ∀ f, E k f = .inl (cA, N, .inl f)) (ht : tys[0]? = some (cA, .int)) {i x : Int32} (hi : vp_in i N) (hdg : decode cc pc = .ok (.iastore, 1))
    (kk : ∀ (H1 : Heap) (locs1 : List Loc), CW n E ad D A H0 (u2 σ k (ix i) x) H1 locs1 → W p l e R s m args below meth c H1 locs1 cells slots Q (F0 m (pc + 1) ls rest)) : W p l e R s m args below meth c H locs cells slots Q (F0 m pc ls (.int x :: .int i :: .ref (ad k) :: rest)) := by
  refine va_iast S.1 S.2.1 hK w.1 w.2.1 w.2.2.1 k 0 (by rw [Wd_get hk, he]) ht hi hdg (fun H1 locs1 hP hD hS => kk H1 locs1 ?_)
  rw [Wd_set (he _)] at hP hD
  exact ⟨hP, hD, hS, w.2.2.2⟩
theorem r_aald (S : CallFix p m c cc nL s args Ts own) (hK : va_K D vwCl tys s) (w : CW n E ad D A H0 σ H locs) {k : Nat} (hk : k < n) {cA : ClassId} {N t0 b0 : Nat} {C : String} (he : E k (σ k) = .inl (cA, N, .inr (.inr (.inr (.inr (fun j => some (ad (b0 + j)))))))) (ht : tys[t0]? = some (cA, .object C)) {i : Int32} (hi : vp_in i N) (hdg : decode cc pc = .ok (.aaload, 1))
    (kk : W p l e R s m args below meth c H locs cells slots Q (F0 m (pc + 1) ls (.ref (ad (b0 + ix i)) :: rest))) : W p l e R s m args below meth c H locs cells slots Q (F0 m pc ls (.int i :: .ref (ad k) :: rest)) :=
  va_aldq (f := fun j => some (ad (b0 + j))) S.1 S.2.1 hK w.1 k t0 (by rw [Wd_get hk, he]) ht hi hdg kk
theorem r_alen (S : CallFix p m c cc nL s args Ts own) (hK : va_K D vwCl tys s) (w : CW n E ad D A H0 σ H locs) {k : Nat} (hk : k < n) {cA : ClassId} {N : Nat} (he : ∀ f, E k f = .inl (cA, N, .inl f)) (ht : tys[0]? = some (cA, .int)) {v : Int32} (hv : Int32.ofNat N = v) (hdg : decode cc pc = .ok (.arraylength, 1))
    (kk : W p l e R s m args below meth c H locs cells slots Q (F0 m (pc + 1) ls (.int v :: rest))) : W p l e R s m args below meth c H locs cells slots Q (F0 m pc ls (.ref (ad k) :: rest)) :=
  va_alen S.1 S.2.1 hK w.1 k 0 (by rw [Wd_get hk, he]) ht hv hdg kk
theorem r_copy (S : CallFix p m c cc nL s args Ts own) (hls : ls.size = nL) (hK : va_K D vwCl tys s) (w : CW n E ad D A H0 σ H locs) {index : Nat} (hl1 : (Cond.methodLink own index arraycopyName) ∈ Ts) (hl2 : (Cond.native arraycopyName) ∈ Ts) (hl3 : (Cond.static arraycopyName) ∈ Ts) (hl4 : (Cond.initialized "java/lang/System") ∈ Ts) {k0 k1 : Nat} (hk0 : k0 < n) (hk1 : k1 < n) {cA : ClassId} {n0 n1 : Nat} (he0 : ∀ f, E k0 f = .inl (cA, n0, .inl f)) (he1 : ∀ f, E k1 f = .inl (cA, n1, .inl f)) (ht : tys[0]? = some (cA, .int)) {sp dp nn : Int32} (h1 : ¬ sp < 0) (h2 : ¬ dp < 0) (h3 : ¬ nn < 0) (h4 : ix sp + ix nn ≤ n0) (h5 : ix dp + ix nn ≤ n1) (hframes : 1 ≤ R.frames) (hlocals : (rest.map fun v => v.category).sum + (nativeFrameWords "java/lang/System" "arraycopy" 5 + 11) ≤ R.locals) (hdg : decode cc pc = .ok (.invokestatic index, 3))
    (kk : ∀ (H1 : Heap) (locs1 : List Loc), CW n E ad D A H0 (u1 σ k1 (va_cpy (σ k0) (σ k1) (ix sp) (ix dp) (ix nn))) H1 locs1 → W p l e R s m args below meth c H1 locs1 cells slots Q (F0 m (pc + 3) ls rest)) : W p l e R s m args below meth c H locs cells slots Q (F0 m pc ls (.int nn :: .int dp :: .ref (ad k1) :: .int sp :: .ref (ad k0) :: rest)) := by
  obtain ⟨hx, hb, hml, hown, hts⟩ := S
  refine va_copyi hx hb (by rw [hml, hls]) hown (hts _ hl1) (hts _ hl2) (hts _ hl3) (hts _ hl4) hK w.1 w.2.1 w.2.2.1 k0 k1 0 0 (by rw [Wd_get hk0, he0]) (by rw [Wd_get hk1, he1]) ht ht rfl h1 h2 h3 h4 h5 (fun _ _ => rfl) hframes hlocals hdg (fun H1 locs1 hP hD hS => kk H1 locs1 ?_)
  rw [Wd_set (he1 _)] at hP hD
  exact ⟨hP, hD, hS, w.2.2.2⟩
/-- what a call of a method of this world asks -/
theorem preV (hK : va_K D vwCl tys s) (hN : NW s) (w : CW n E ad D A H0 σ H locs) {k : Nat} (hk : k < n) {ci : Nat} {fs : List Value} (he : E k (σ k) = .inr (ci, fs)) {q : vw_C} (hc : vwCl[ci]? = some q) {As : List Value} : PreV s H q.1 (ad k) (PreW n E ad D tys σ H.size (.ref (ad k) :: As)) As :=
  ⟨PreW.blind, va_recv hK w.1 hc (q0 := k) (by rw [Wd_get hk, he]), fun U hU hW => ⟨rfl, by rw [hU], by rw [hU]; exact w.1, va_K.moved hW.alike hK, w.2.1.weaken (fun _ _ _ _ => trivial), hN.warm hW⟩⟩
theorem preS (hK : va_K D vwCl tys s) (hN : NW s) (w : CW n E ad D A H0 σ H locs) {As : List Value} : PreS s H (PreW n E ad D tys σ H.size As) As :=
  ⟨PreW.blind, fun U hU hW => ⟨rfl, by rw [hU], by rw [hU]; exact w.1, va_K.moved hW.alike hK, w.2.1.weaken (fun _ _ _ _ => trivial), hN.warm hW⟩⟩
theorem pre0S {As : List Value} : PreS s H (Pre0 As) As := ⟨Pre0.blind, fun _ _ _ => ⟨rfl, trivial⟩⟩
theorem CW.free (w : CW n E ad D A H0 σ H locs) : ∀ q, CA n ad H.size q → A q := by
  intro q h
  rcases h with ⟨k, hk, rfl⟩ | h
  · exact w.2.1.2 k _ (Wd_get hk)
  · exact w.2.2.2 q (Nat.le_trans w.2.2.1.1 h)
variable {a : Array Value} {st0 : List Value}
theorem callWi (w : CW n E ad D A H0 σ H locs) {tgt : Int32 × St} (hr : va_Run p l e R s m args below meth c H locs cells slots 0 0 (F0 m pc ls st0) rest (QWi n E ad D tgt (CA n ad H.size) a) (CA n ad H.size))
    (kk : ∀ (H1 : Heap) (locs1 : List Loc), CW n E ad D A H0 tgt.2 H1 locs1 → W p l e R s m args below meth c H1 locs1 cells slots Q (F0 m (pc + 3) ls (.int tgt.1 :: rest))) : W p l e R s m args below meth c H locs cells slots Q (F0 m pc ls st0) := by
  refine va_calli hr w.2.2.1 (fun q _ h => w.free q h) w.free (fun r u t H1 locs1 ht hvm hw hB hz hk1 hS => ?_)
  subst hw
  rw [ht] at hB
  exact kk H1 locs1 ⟨hB, Wd_addr w.2.1 (fun k hk => w.2.1.2 k _ (Wd_get hk)), hS, w.2.2.2⟩
theorem callWl (w : CW n E ad D A H0 σ H locs) {tgt : Int64 × St} (hr : va_Run p l e R s m args below meth c H locs cells slots 0 0 (F0 m pc ls st0) rest (QWl n E ad D tgt (CA n ad H.size) a) (CA n ad H.size))
    (kk : ∀ (H1 : Heap) (locs1 : List Loc), CW n E ad D A H0 tgt.2 H1 locs1 → W p l e R s m args below meth c H1 locs1 cells slots Q (F0 m (pc + 3) ls (.long tgt.1 :: rest))) : W p l e R s m args below meth c H locs cells slots Q (F0 m pc ls st0) := by
  refine va_calll hr w.2.2.1 (fun q _ h => w.free q h) w.free (fun r u t H1 locs1 ht hvm hw hB hz hk1 hS => ?_)
  subst hw
  rw [ht] at hB
  exact kk H1 locs1 ⟨hB, Wd_addr w.2.1 (fun k hk => w.2.1.2 k _ (Wd_get hk)), hS, w.2.2.2⟩
theorem callWv (w : CW n E ad D A H0 σ H locs) {tgt : St} (hr : va_Run p l e R s m args below meth c H locs cells slots 0 0 (F0 m pc ls st0) rest (QWv n E ad D tgt (CA n ad H.size) a) (CA n ad H.size))
    (kk : ∀ (H1 : Heap) (locs1 : List Loc), CW n E ad D A H0 tgt H1 locs1 → W p l e R s m args below meth c H1 locs1 cells slots Q (F0 m (pc + 3) ls rest)) : W p l e R s m args below meth c H locs cells slots Q (F0 m pc ls st0) := by
  refine va_callv hr w.2.2.1 (fun q _ h => w.free q h) w.free (fun u t H1 locs1 ht hvm hw hB hz hk1 hS => ?_)
  subst hw
  rw [ht] at hB
  exact kk H1 locs1 ⟨hB, Wd_addr w.2.1 (fun k hk => w.2.1.2 k _ (Wd_get hk)), hS, w.2.2.2⟩
theorem call0i {tgt : Int32} (hr : va_Run p l e R s m args below meth c H locs cells slots 0 0 (F0 m pc ls st0) rest (Q0i tgt a) N0)
    (kk : W p l e R s m args below meth c H locs cells slots Q (F0 m (pc + 3) ls (.int tgt :: rest))) : W p l e R s m args below meth c H locs cells slots Q (F0 m pc ls st0) := by
  intro T hT X
  obtain ⟨v, st₀, t, T', L, h0, X', hL, e1, e2, ⟨hv, hh⟩, st⟩ := hr T hT X
  cases hv
  obtain ⟨t2, a1, b1⟩ := kk T' (by rw [e1, hh, h0]) (Stand.forget X' (fun q h => (hL q h).elim))
  exact ⟨t2, st t2 a1, b1⟩
theorem call0l {tgt : Int64} (hr : va_Run p l e R s m args below meth c H locs cells slots 0 0 (F0 m pc ls st0) rest (Q0l tgt a) N0)
    (kk : W p l e R s m args below meth c H locs cells slots Q (F0 m (pc + 3) ls (.long tgt :: rest))) : W p l e R s m args below meth c H locs cells slots Q (F0 m pc ls st0) := by
  intro T hT X
  obtain ⟨v, st₀, t, T', L, h0, X', hL, e1, e2, ⟨hv, hh⟩, st⟩ := hr T hT X
  cases hv
  obtain ⟨t2, a1, b1⟩ := kk T' (by rw [e1, hh, h0]) (Stand.forget X' (fun q h => (hL q h).elim))
  exact ⟨t2, st t2 a1, b1⟩
/-- Math's, with names for the answers -/
def jabs (x : Int32) : Int32 := if 0 ≤ x then x else 0 - x
def jmax (x y : Int32) : Int32 := if x < y then y else x
def jmin (x y : Int32) : Int32 := if y < x then y else x
theorem r_abs (S : CallFix p m c cc nL s args Ts own) (hls : ls.size = nL) {index : Nat} (h1 : (Cond.methodLink own index Lib.Math.abs.name) ∈ Ts) (h2 : (Cond.static Lib.Math.abs.name) ∈ Ts) (h3 : (Cond.initialized "java/lang/Math") ∈ Ts) (h4 : (Cond.code Lib.Math.abs.name Lib.Math.abs.code 1 (some .int)) ∈ Ts) (hR : 1 ≤ R.frames ∧ (rest.map fun v => v.category).sum + 13 ≤ R.locals ∧ cells ≤ R.cells ∧ slots ≤ R.slots) {x : Int32} (hdg : decode cc pc = .ok (.invokestatic index, 3))
    (kk : W p l e R s m args below meth c H locs cells slots Q (F0 m (pc + 3) ls (.int (jabs x) :: rest))) : W p l e R s m args below meth c H locs cells slots Q (F0 m pc ls (.int x :: rest)) := by
  obtain ⟨hx, hb, hml, hown, hts⟩ := S
  exact va_mabs hx hb (by rw [hml, hls]) hown (hts _ h1) (hts _ h2) (hts _ h3) (hts _ h4) hR.1 hR.2.1 hR.2.2.1 hR.2.2.2 hdg kk
theorem r_max (S : CallFix p m c cc nL s args Ts own) (hls : ls.size = nL) {index : Nat} (h1 : (Cond.methodLink own index Lib.Math.max.name) ∈ Ts) (h2 : (Cond.static Lib.Math.max.name) ∈ Ts) (h3 : (Cond.initialized "java/lang/Math") ∈ Ts) (h4 : (Cond.code Lib.Math.max.name Lib.Math.max.code 2 (some .int)) ∈ Ts) (hR : 1 ≤ R.frames ∧ (rest.map fun v => v.category).sum + 13 ≤ R.locals ∧ cells ≤ R.cells ∧ slots ≤ R.slots) {x y : Int32} (hdg : decode cc pc = .ok (.invokestatic index, 3))
    (kk : W p l e R s m args below meth c H locs cells slots Q (F0 m (pc + 3) ls (.int (jmax x y) :: rest))) : W p l e R s m args below meth c H locs cells slots Q (F0 m pc ls (.int y :: .int x :: rest)) := by
  obtain ⟨hx, hb, hml, hown, hts⟩ := S
  exact va_mmax hx hb (by rw [hml, hls]) hown (hts _ h1) (hts _ h2) (hts _ h3) (hts _ h4) hR.1 hR.2.1 hR.2.2.1 hR.2.2.2 hdg kk
theorem r_min (S : CallFix p m c cc nL s args Ts own) (hls : ls.size = nL) {index : Nat} (h1 : (Cond.methodLink own index Lib.Math.min.name) ∈ Ts) (h2 : (Cond.static Lib.Math.min.name) ∈ Ts) (h3 : (Cond.initialized "java/lang/Math") ∈ Ts) (h4 : (Cond.code Lib.Math.min.name Lib.Math.min.code 2 (some .int)) ∈ Ts) (hR : 1 ≤ R.frames ∧ (rest.map fun v => v.category).sum + 13 ≤ R.locals ∧ cells ≤ R.cells ∧ slots ≤ R.slots) {x y : Int32} (hdg : decode cc pc = .ok (.invokestatic index, 3))
    (kk : W p l e R s m args below meth c H locs cells slots Q (F0 m (pc + 3) ls (.int (jmin x y) :: rest))) : W p l e R s m args below meth c H locs cells slots Q (F0 m pc ls (.int y :: .int x :: rest)) := by
  obtain ⟨hx, hb, hml, hown, hts⟩ := S
  exact va_mmin hx hb (by rw [hml, hls]) hown (hts _ h1) (hts _ h2) (hts _ h3) (hts _ h4) hR.1 hR.2.1 hR.2.2.1 hR.2.2.2 hdg kk
/-- ends -/
theorem endWi {n0 : Nat} (S : CallFix p m c cc nL s args Ts own) (hr : meth.sig.returnType = some .int) (hlocks : meth.locks = false) (w : CW n E ad D (CA n ad n0) s.heap σ H locs) {v : Int32} {tgt : Int32 × St} (hG : (v, σ) = tgt) (hdg : decode cc pc = .ok (.ireturn, 1)) : W p l e R s m args below meth c H locs cells slots (MQ below (QWi n E ad D tgt (CA n ad n0)) args s cells slots (CA n ad n0)) (F0 m pc ls [.int v]) :=
  W.iret (v := v) S.1 S.2.1 hr (fun t ht hW => ⟨⟨v, σ, rfl, hG, by show va_P D vwCl (Wd n E ad σ) t.heap; rw [ht]; exact w.1⟩, w.2.2.1.F ht⟩) w.2.2.1.2.2 hdg hlocks
theorem endWz {n0 : Nat} (S : CallFix p m c cc nL s args Ts own) (hr : meth.sig.returnType = some .boolean) (hlocks : meth.locks = false) (w : CW n E ad D (CA n ad n0) s.heap σ H locs) {v : Int32} (hn : v = 0 ∨ v = 1) {tgt : Int32 × St} (hG : (v, σ) = tgt) (hdg : decode cc pc = .ok (.ireturn, 1)) : W p l e R s m args below meth c H locs cells slots (MQ below (QWi n E ad D tgt (CA n ad n0)) args s cells slots (CA n ad n0)) (F0 m pc ls [.int v]) :=
  W.zret (v := v) S.1 S.2.1 hr (by rcases hn with rfl | rfl <;> rfl) (fun t ht hW => ⟨⟨v, σ, rfl, hG, by show va_P D vwCl (Wd n E ad σ) t.heap; rw [ht]; exact w.1⟩, w.2.2.1.F ht⟩) w.2.2.1.2.2 hdg hlocks
theorem endWl {n0 : Nat} (S : CallFix p m c cc nL s args Ts own) (hr : meth.sig.returnType = some .long) (hlocks : meth.locks = false) (w : CW n E ad D (CA n ad n0) s.heap σ H locs) {v : Int64} {tgt : Int64 × St} (hG : (v, σ) = tgt) (hdg : decode cc pc = .ok (.lreturn, 1)) : W p l e R s m args below meth c H locs cells slots (MQ below (QWl n E ad D tgt (CA n ad n0)) args s cells slots (CA n ad n0)) (F0 m pc ls [.long v]) :=
  W.lret (v := v) S.1 S.2.1 hr (fun t ht hW => ⟨⟨v, σ, rfl, hG, by show va_P D vwCl (Wd n E ad σ) t.heap; rw [ht]; exact w.1⟩, w.2.2.1.F ht⟩) w.2.2.1.2.2 hdg hlocks
theorem endWv {n0 : Nat} (S : CallFix p m c cc nL s args Ts own) (hr : meth.sig.returnType = none) (hlocks : meth.locks = false) (w : CW n E ad D (CA n ad n0) s.heap σ H locs) {tgt : St} (hG : σ = tgt) (hdg : decode cc pc = .ok (.return_, 1)) : W p l e R s m args below meth c H locs cells slots (MQ below (QWv n E ad D tgt (CA n ad n0)) args s cells slots (CA n ad n0)) (F0 m pc ls []) :=
  W.vret S.1 S.2.1 hr (fun t ht hW => ⟨⟨σ, rfl, hG, by show va_P D vwCl (Wd n E ad σ) t.heap; rw [ht]; exact w.1⟩, w.2.2.1.F ht⟩) w.2.2.1.2.2 hdg hlocks
theorem end0i (S : CallFix p m c cc nL s args Ts own) (hr : meth.sig.returnType = some .int) (hlocks : meth.locks = false) {v tgt : Int32} (hG : v = tgt) (hdg : decode cc pc = .ok (.ireturn, 1)) : W p l e R s m args below meth c s.heap [] cells slots (MQ below (Q0i tgt) args s cells slots N0) (F0 m pc ls [.int v]) :=
  W.iret (v := v) S.1 S.2.1 hr (fun t ht hW => ⟨by rw [hG], ht⟩) (fun q h => absurd h List.not_mem_nil) hdg hlocks
theorem end0z (S : CallFix p m c cc nL s args Ts own) (hr : meth.sig.returnType = some .boolean) (hlocks : meth.locks = false) {v tgt : Int32} (hn : v = 0 ∨ v = 1) (hG : v = tgt) (hdg : decode cc pc = .ok (.ireturn, 1)) : W p l e R s m args below meth c s.heap [] cells slots (MQ below (Q0i tgt) args s cells slots N0) (F0 m pc ls [.int v]) :=
  W.zret (v := v) S.1 S.2.1 hr (by rcases hn with rfl | rfl <;> rfl) (fun t ht hW => ⟨by rw [hG], ht⟩) (fun q h => absurd h List.not_mem_nil) hdg hlocks
theorem end0l (S : CallFix p m c cc nL s args Ts own) (hr : meth.sig.returnType = some .long) (hlocks : meth.locks = false) {v tgt : Int64} (hG : v = tgt) (hdg : decode cc pc = .ok (.lreturn, 1)) : W p l e R s m args below meth c s.heap [] cells slots (MQ below (Q0l tgt) args s cells slots N0) (F0 m pc ls [.long v]) :=
  W.lret (v := v) S.1 S.2.1 hr (fun t ht hW => ⟨by rw [hG], ht⟩) (fun q h => absurd h List.not_mem_nil) hdg hlocks
end ROWS
/-! numbers in toInt -/
theorem qt_lt {x y : Int32} (h : x < y) : x.toInt < y.toInt := Int32.lt_iff_toInt_lt.mp h
theorem qt_le {x y : Int32} (h : x ≤ y) : x.toInt ≤ y.toInt := Int32.le_iff_toInt_le.mp h
theorem qt_nlt {x y : Int32} (h : ¬ x < y) : y.toInt ≤ x.toInt := Int.not_lt.mp (fun q => h (Int32.lt_iff_toInt_lt.mpr q))
theorem qt_nle {x y : Int32} (h : ¬ x ≤ y) : y.toInt < x.toInt := Int.not_le.mp (fun q => h (Int32.le_iff_toInt_le.mpr q))
theorem qt_eq {x y : Int32} (h : x = y) : x.toInt = y.toInt := congrArg Int32.toInt h
theorem qt_ne {x y : Int32} (h : ¬ x = y) : x.toInt ≠ y.toInt := fun q => h (Int32.toInt_inj.mp q)
theorem qm_lt {x y : Int32} (h : x.toInt < y.toInt) : x < y := Int32.lt_iff_toInt_lt.mpr h
theorem qm_le {x y : Int32} (h : x.toInt ≤ y.toInt) : x ≤ y := Int32.le_iff_toInt_le.mpr h
theorem qm_nlt {x y : Int32} (h : y.toInt ≤ x.toInt) : ¬ x < y := fun q => by have := qt_lt q; omega
theorem qm_nle {x y : Int32} (h : y.toInt < x.toInt) : ¬ x ≤ y := fun q => by have := qt_le q; omega
theorem qm_eq {x y : Int32} (h : x.toInt = y.toInt) : x = y := Int32.toInt_inj.mp h
theorem vpi {x : Int32} {n : Nat} (h0 : 0 ≤ x.toInt) (h1 : x.toInt < n) : vp_in x n := vp_in_iff.mpr ⟨h0, h1⟩
theorem vpl {x : Int32} {n : Nat} (h : vp_in x n) : ix x < n := Nat.not_le.mp fun q => h (Or.inr q)
theorem ix_toInt {x : Int32} (h : 0 ≤ x.toInt) : (ix x : Int) = x.toInt := by
  unfold ix Int32.toNatClampNeg
  exact Int.toNat_of_nonneg h
theorem a_toInt {a b : Int32} (h1 : -2147483648 ≤ a.toInt + b.toInt) (h2 : a.toInt + b.toInt < 2147483648) : (a + b).toInt = a.toInt + b.toInt := by
  rw [Int32.toInt_add]
  exact Int.bmod_eq_of_le (by omega) (by omega)
theorem s_toInt {a b : Int32} (h1 : -2147483648 ≤ a.toInt - b.toInt) (h2 : a.toInt - b.toInt < 2147483648) : (a - b).toInt = a.toInt - b.toInt := by
  rw [Int32.toInt_sub]
  exact Int.bmod_eq_of_le (by omega) (by omega)
theorem x_toInt {a b : Int32} (h1 : -2147483648 ≤ a.toInt * b.toInt) (h2 : a.toInt * b.toInt < 2147483648) : (a * b).toInt = a.toInt * b.toInt := by
  rw [Int32.toInt_mul]
  exact Int.bmod_eq_of_le (by omega) (by omega)
theorem i1_toInt {a b : Int32} (h : a < b) : (a + 1).toInt = a.toInt + 1 := by
  have h1 := qt_lt h
  have h2 : b.toInt < 2147483648 := Int32.toInt_lt b
  have h3 : -2147483648 ≤ a.toInt := Int32.le_toInt a
  have h4 : (1 : Int32).toInt = 1 := by decide
  rw [a_toInt (by omega) (by omega), h4]
