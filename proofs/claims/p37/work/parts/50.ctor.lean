/-! worlds that grow: the constructors -/
def Wg (n : Nat) (ad : Nat → Nat) (G : Nat → va_E) : va_W := (List.range n).map (fun c => (ad c, G c))
theorem Wg_get {n : Nat} {ad : Nat → Nat} {G : Nat → va_E} {c : Nat} (h : c < n) : (Wg n ad G)[c]? = some (ad c, G c) := by
  unfold Wg
  rw [List.getElem?_map, List.getElem?_range h]
  rfl
theorem Wg_len (n : Nat) (ad : Nat → Nat) (G : Nat → va_E) : (Wg n ad G).length = n := by simp [Wg]
theorem Wg_inv {n : Nat} {ad : Nat → Nat} {G : Nat → va_E} {c : Nat} {q : Nat × va_E} (h : (Wg n ad G)[c]? = some q) : c < n ∧ q = (ad c, G c) := by
  have hl : c < n := by
    have h1 := (List.getElem?_eq_some_iff.mp h).1
    rwa [Wg_len] at h1
  rw [Wg_get hl] at h
  exact ⟨hl, (Option.some.inj h).symm⟩
theorem Wg_set {n : Nat} {ad : Nat → Nat} {G : Nat → va_E} {c : Nat} {e : va_E} : (Wg n ad G).set c (ad c, e) = Wg n ad (va_up G c e) := by
  refine List.ext_getElem? (fun j => ?_)
  rcases Nat.lt_or_ge j n with hj | hj
  · rw [Wg_get hj, List.getElem?_set]
    by_cases hcj : c = j
    · subst hcj
      rw [if_pos rfl, if_pos (by rw [Wg_len]; exact hj), va_up_self]
    · rw [if_neg hcj, Wg_get hj, va_up_ne _ _ (fun h => hcj h.symm)]
  · rw [List.getElem?_eq_none (by rw [List.length_set, Wg_len]; exact hj), List.getElem?_eq_none (by rw [Wg_len]; exact hj)]
theorem Wg_push {n : Nat} {ad : Nat → Nat} {G : Nat → va_E} {q : Nat} {e : va_E} : Wg n ad G ++ [(q, e)] = Wg (n + 1) (va_up ad n q) (va_up G n e) := by
  refine List.ext_getElem? (fun j => ?_)
  rcases Nat.lt_or_ge j n with hj | hj
  · rw [List.getElem?_append_left (by rw [Wg_len]; exact hj), Wg_get hj, Wg_get (by omega), va_up_ne _ _ (by omega), va_up_ne _ _ (by omega)]
  · rw [List.getElem?_append_right (by rw [Wg_len]; exact hj), Wg_len]
    by_cases hjn : j = n
    · subst hjn
      rw [Nat.sub_self, Wg_get (by omega), va_up_self, va_up_self]
      rfl
    · rw [List.getElem?_eq_none (by simp; omega), List.getElem?_eq_none (by rw [Wg_len]; omega)]
def CG (n : Nat) (ad : Nat → Nat) (G : Nat → va_E) (D : va_G) (A : Nat → Prop) (H0 H : Heap) (locs : List Loc) : Prop :=
  va_P D vwCl (Wg n ad G) H ∧ va_D A (Wg n ad G) ∧ va_S A H0 H locs ∧ ∀ q, H0.size ≤ q → A q
abbrev zInts (cI : ClassId) (N : Nat) (f : Nat → Int32) : va_E := .inl (cI, N, .inl f)
abbrev zRefs (cA : ClassId) (N : Nat) (f : Nat → Option Nat) : va_E := .inl (cA, N, .inr (.inr (.inr (.inr f))))
section GROW
variable {p : Program} {l : Launch} {e : Env} {R : Room} {s : State} {m : MethodId} {args : Array Value} {below : List Frame} {meth : Method} {c : Code} {H : Heap} {locs : List Loc} {cells slots : Nat} {Q : State → Prop}
variable {cc : ByteArray} {nL : Nat} {Ts : List Cond} {own : String} {pc : Nat} {ls : Array Slot} {rest : List Value}
variable {n : Nat} {ad : Nat → Nat} {G : Nat → va_E} {D : va_G} {A : Nat → Prop} {H0 : Heap} {tys : List (ClassId × FieldType)}
theorem g_newa (S : CallFix p m c cc nL s args Ts own) (hK : va_K D vwCl tys s) (w : CG n ad G D A H0 H locs) (harr : (Cond.arrayClass (newarray.typeOf .int)) ∈ Ts) {x : Int32} {N : Nat} (hn : ¬ x < 0) (hN : x.toNatClampNeg = N) (hby : N * 4 ≤ 536870912) (hc : cells + 1 ≤ R.cells) (hs : slots + N ≤ R.slots) (hdg : decode cc pc = .ok (.newarray .int, 2))
    (kk : ∀ (q : Nat) (cA : ClassId) (H1 : Heap), va_K D vwCl (tys ++ [(cA, .int)]) s → CG (n + 1) (va_up ad n q) (va_up G n (zInts cA N (fun _ => 0))) D A H0 H1 locs → W p l e R s m args below meth c H1 locs (cells + 1) (slots + N) Q (F0 m (pc + 2) ls (.ref q :: rest))) : W p l e R s m args below meth c H locs cells slots Q (F0 m pc ls (.int x :: rest)) := by
  refine va_newa (atype := .int) (ty := .int) (a0 := (N, .inl (fun _ => 0))) S.1 S.2.1 (S.2.2.2.2 _ harr) rfl hK w.1 w.2.1 w.2.2.1 w.2.2.2 (fun cA => by rw [vp_cell_i] <;> rfl) hn hN hby hc hs hdg (fun q cA H1 hK1 hP hD hS => kk q cA H1 hK1 ?_)
  rw [Wg_push] at hP hD
  exact ⟨hP, hD, hS, w.2.2.2⟩
theorem g_newaI (S : CallFix p m c cc nL s args Ts own) (hK : va_K D vwCl tys s) (w : CG n ad G D A H0 H locs) {t : Nat} {cI : ClassId} (ht : tys[t]? = some (cI, .int)) (harr : (Cond.arrayClass (newarray.typeOf .int)) ∈ Ts) {x : Int32} {N : Nat} (hn : ¬ x < 0) (hN : x.toNatClampNeg = N) (hby : N * 4 ≤ 536870912) (hc : cells + 1 ≤ R.cells) (hs : slots + N ≤ R.slots) (hdg : decode cc pc = .ok (.newarray .int, 2))
    (kk : ∀ (q : Nat) (H1 : Heap), CG (n + 1) (va_up ad n q) (va_up G n (zInts cI N (fun _ => 0))) D A H0 H1 locs → W p l e R s m args below meth c H1 locs (cells + 1) (slots + N) Q (F0 m (pc + 2) ls (.ref q :: rest))) : W p l e R s m args below meth c H locs cells slots Q (F0 m pc ls (.int x :: rest)) := by
  refine g_newa S hK w harr hn hN hby hc hs hdg (fun q cA H1 hK1 hw => ?_)
  have h1 := (hK1.2 tys.length (cA, .int) (by simp)).2
  have h2 := (hK.2 t _ ht).2
  have e1 : cA = cI := Option.some.inj (h1.symm.trans h2)
  subst e1
  exact kk q H1 hw
theorem g_newq (S : CallFix p m c cc nL s args Ts own) (hK : va_K D vwCl tys s) (w : CG n ad G D A H0 H locs) {C : String} {index : Nat} (hcl : (Cond.classLink own index C) ∈ Ts) (hao : va_AO C s) {x : Int32} {N : Nat} (hn : ¬ x < 0) (hN : x.toNatClampNeg = N) (hby : N * 4 ≤ 536870912) (hc : cells + 1 ≤ R.cells) (hs : slots + N ≤ R.slots) (hdg : decode cc pc = .ok (.anewarray index, 3))
    (kk : ∀ (q : Nat) (cA : ClassId) (H1 : Heap), va_K D vwCl (tys ++ [(cA, .object C)]) s → CG (n + 1) (va_up ad n q) (va_up G n (zRefs cA N (fun _ => none))) D A H0 H1 locs → W p l e R s m args below meth c H1 locs (cells + 1) (slots + N) Q (F0 m (pc + 3) ls (.ref q :: rest))) : W p l e R s m args below meth c H locs cells slots Q (F0 m pc ls (.int x :: rest)) := by
  refine va_newq S.1 S.2.1 S.2.2.2.1 (S.2.2.2.2 _ hcl) hao hK w.1 w.2.1 w.2.2.1 w.2.2.2 hn hN hby hc hs hdg (fun q cA H1 hK1 hP hD hS => kk q cA H1 hK1 ?_)
  rw [Wg_push] at hP hD
  exact ⟨hP, hD, hS, w.2.2.2⟩
theorem g_new (S : CallFix p m c cc nL s args Ts own) (hK : va_K D vwCl tys s) (w : CG n ad G D A H0 H locs) {C : String} {T : u_T} {N ci index : Nat} (hin : ∀ w ∈ u_ws C T N, w ∈ Ts) (ty : Nat → FieldType) (hty : ∀ k, k < N → parseFieldDescriptor (T k).2.2.1 = some (ty k)) (hcl : (Cond.classLink own index C) ∈ Ts) (hinst : (Cond.instantiable C N) ∈ Ts) (hini : (Cond.initialized C) ∈ Ts) (hc : vwCl[ci]? = some (C, T, N)) {fs : List Value} (hfs : ∀ j, j < N → defaultValue (ty j) = vp_V fs j) (hcs : cells + 1 ≤ R.cells) (hss : slots + N ≤ R.slots) (hdg : decode cc pc = .ok (.new index, 3))
    (kk : ∀ (q : Nat) (H1 : Heap), CG (n + 1) (va_up ad n q) (va_up G n (.inr (ci, fs))) D A H0 H1 locs → W p l e R s m args below meth c H1 locs (cells + 1) (slots + N) Q (F0 m (pc + 3) ls (.ref q :: rest))) : W p l e R s m args below meth c H locs cells slots Q (F0 m pc ls rest) := by
  refine va_new S.1 S.2.1 S.2.2.2.2 hin ty hty S.2.2.2.1 (S.2.2.2.2 _ hcl) (S.2.2.2.2 _ hinst) (S.2.2.2.2 _ hini) hK w.1 w.2.1 w.2.2.1 w.2.2.2 hc hfs hcs hss hdg (fun q H1 hP hD hS => kk q H1 ?_)
  rw [Wg_push] at hP hD
  exact ⟨hP, hD, hS, w.2.2.2⟩
theorem g_putF (S : CallFix p m c cc nL s args Ts own) (hK : va_K D vwCl tys s) (w : CG n ad G D A H0 H locs) {k : Nat} (hk : k < n) {ci : Nat} {fs : List Value} (he : G k = .inr (ci, fs)) {C : String} {T : u_T} {N : Nat} (hc : vwCl[ci]? = some (C, T, N)) (hin : ∀ w ∈ u_ws C T N, w ∈ Ts) (ty0 : Nat → FieldType) (hty : ∀ k, k < N → parseFieldDescriptor (T k).2.2.1 = some (ty0 k)) (hnm : ∀ a, a < N → ∀ b, b < N → a ≠ b → (T a).2.1 ≠ (T b).2.1) (j : Nat) (hj : j < N) {index : Nat} (hlink : (Cond.fieldLink own index (T j).1 (T j).2.1 (T j).2.2.1) ∈ Ts) (hfin : (T j).2.2.2 = true) (hin2 : meth.name = "<init>") (hdecl : (T j).1 = own) {x : Value} {ty : FieldType} (hd : parseFieldDescriptor (T j).2.2.1 = some ty) (hn : narrow ty x = x) (hfit : fits ty x = true) (hl : j < fs.length) (hdg : decode cc pc = .ok (.putfield index, 3))
    (kk : ∀ (H1 : Heap) (locs1 : List Loc), CG n ad (va_up G k (.inr (ci, fs.set j x))) D A H0 H1 locs1 → W p l e R s m args below meth c H1 locs1 cells slots Q (F0 m (pc + 3) ls rest)) : W p l e R s m args below meth c H locs cells slots Q (F0 m pc ls (x :: .ref (ad k) :: rest)) := by
  obtain ⟨hx, hb, hml, hown, hts⟩ := S
  refine va_putF hx hb hts hin ty0 hty hnm hown hK w.1 w.2.1 w.2.2.1 k (by rw [Wg_get hk, he]) hc j hj (hts _ hlink) (fun _ h => h) hfin hin2 hdecl hd hn hfit hl hdg (fun H1 locs1 hP hD hS => kk H1 locs1 ?_)
  rw [Wg_set] at hP hD
  exact ⟨hP, hD, hS, w.2.2.2⟩
theorem g_get (S : CallFix p m c cc nL s args Ts own) (hK : va_K D vwCl tys s) (w : CG n ad G D A H0 H locs) {k : Nat} (hk : k < n) {ci : Nat} {fs : List Value} (he : G k = .inr (ci, fs)) {C : String} {T : u_T} {N : Nat} (hc : vwCl[ci]? = some (C, T, N)) (hin : ∀ w ∈ u_ws C T N, w ∈ Ts) (j : Nat) (hj : j < N) {index : Nat} (hlink : (Cond.fieldLink own index (T j).1 (T j).2.1 (T j).2.2.1) ∈ Ts) {v : Value} (hv : fs[j]? = some v) (hdg : decode cc pc = .ok (.getfield index, 3))
    (kk : W p l e R s m args below meth c H locs cells slots Q (F0 m (pc + 3) ls (v :: rest))) : W p l e R s m args below meth c H locs cells slots Q (F0 m pc ls (.ref (ad k) :: rest)) := by
  obtain ⟨hx, hb, hml, hown, hts⟩ := S
  exact va_get hx hb hts hin hown hK w.1 k (by rw [Wg_get hk, he]) hc j hj (hts _ hlink) (fun _ h => h) hv hdg kk
theorem g_iast (S : CallFix p m c cc nL s args Ts own) (hK : va_K D vwCl tys s) (w : CG n ad G D A H0 H locs) {k : Nat} (hk : k < n) {cI : ClassId} {N t : Nat} {f : Nat → Int32} (he : G k = zInts cI N f) (ht : tys[t]? = some (cI, .int)) {i x : Int32} (hi : vp_in i N) (hdg : decode cc pc = .ok (.iastore, 1))
    (kk : ∀ (H1 : Heap) (locs1 : List Loc), CG n ad (va_up G k (zInts cI N (upd f i.toNatClampNeg x))) D A H0 H1 locs1 → W p l e R s m args below meth c H1 locs1 cells slots Q (F0 m (pc + 1) ls rest)) : W p l e R s m args below meth c H locs cells slots Q (F0 m pc ls (.int x :: .int i :: .ref (ad k) :: rest)) := by
  refine va_iast S.1 S.2.1 hK w.1 w.2.1 w.2.2.1 k t (cA := cI) (n := N) (f := f) (by rw [Wg_get hk, he]) ht hi hdg (fun H1 locs1 hP hD hS => kk H1 locs1 ?_)
  rw [Wg_set] at hP hD
  exact ⟨hP, hD, hS, w.2.2.2⟩
theorem g_aast (S : CallFix p m c cc nL s args Ts own) (hK : va_K D vwCl tys s) (w : CG n ad G D A H0 H locs) {k k2 : Nat} (hk : k < n) (hk2 : k2 < n) {cA : ClassId} {N t ci : Nat} {f : Nat → Option Nat} {r : vw_C} {vs : List Value} (he : G k = zRefs cA N f) (ht : tys[t]? = some (cA, .object r.1)) (he2 : G k2 = .inr (ci, vs)) (hc : vwCl[ci]? = some r) {i : Int32} (hi : vp_in i N) (hdg : decode cc pc = .ok (.aastore, 1))
    (kk : ∀ (H1 : Heap) (locs1 : List Loc), CG n ad (va_up G k (zRefs cA N (va_up f i.toNatClampNeg (some (ad k2))))) D A H0 H1 locs1 → W p l e R s m args below meth c H1 locs1 cells slots Q (F0 m (pc + 1) ls rest)) : W p l e R s m args below meth c H locs cells slots Q (F0 m pc ls (.ref (ad k2) :: .int i :: .ref (ad k) :: rest)) := by
  refine va_astq S.1 S.2.1 hK w.1 w.2.1 w.2.2.1 k t k2 ci (cA := cA) (n := N) (f := f) (by rw [Wg_get hk, he]) ht (by rw [Wg_get hk2, he2]) hc hi hdg (fun H1 locs1 hP hD hS => kk H1 locs1 ?_)
  rw [Wg_set] at hP hD
  exact ⟨hP, hD, hS, w.2.2.2⟩
/-- behind a call that had cell k alone, and gave it other contents, and perhaps one new cell -/
theorem CG.behind {k : Nat} (w : CG n ad G D A H0 H locs) (hk : k < n) {H1 : Heap} {locs1 : List Loc} {e1 : va_E} (hP1 : va_P D vwCl [(ad k, e1)] H1) (hk1 : ∀ q : Nat, q < H.size → ¬ va_A [(ad k, G k)] H.size q → H1[q]? = H[q]?) (hS : va_S A H0 H1 locs1) : CG n ad (va_up G k e1) D A H0 H1 locs1 := by
  refine ⟨fun c q hc => ?_, ⟨fun i j p q hi hj hpq => ?_, fun c q hc => ?_⟩, hS, w.2.2.2⟩
  · obtain ⟨hcn, rfl⟩ := Wg_inv hc
    by_cases hck : c = k
    · subst hck
      rw [va_up_self]
      exact hP1 0 _ rfl
    · rw [va_up_ne _ _ hck]
      have hat := w.1 c _ (Wg_get hcn)
      refine hat.kept (hk1 _ hat.lt (fun h => ?_))
      rcases h with ⟨i, e2, h⟩ | h
      · have h1 := (List.getElem?_eq_some_iff.mp h).1
        simp at h1
        subst h1
        have h2 : ad k = ad c := congrArg Prod.fst (Option.some.inj h)
        exact hck (w.2.1.1 c k _ _ (Wg_get hcn) (Wg_get hk) h2.symm)
      · exact absurd hat.lt (Nat.not_lt.mpr h)
  · obtain ⟨li, rfl⟩ := Wg_inv hi
    obtain ⟨lj, rfl⟩ := Wg_inv hj
    exact w.2.1.1 i j _ _ (Wg_get li) (Wg_get lj) hpq
  · obtain ⟨lc, rfl⟩ := Wg_inv hc
    exact w.2.1.2 c (ad c, G c) (Wg_get lc)
theorem CG.push {n : Nat} {ad : Nat → Nat} {G : Nat → va_E} {q : Nat} {e1 : va_E} (w : CG n ad G D A H0 H locs) (hat : va_at D vwCl (q, e1) H) (hA : A q) (hne : ∀ c, c < n → ad c ≠ q) : CG (n + 1) (va_up ad n q) (va_up G n e1) D A H0 H locs := by
  refine ⟨fun c x hc => ?_, ⟨fun i j p x hi hj hpq => ?_, fun c x hc => ?_⟩, w.2.2.1, w.2.2.2⟩
  · obtain ⟨hcn, rfl⟩ := Wg_inv hc
    by_cases h : c = n
    · subst h
      rw [va_up_self, va_up_self]; exact hat
    · rw [va_up_ne _ _ h, va_up_ne _ _ h]
      exact w.1 c _ (Wg_get (by omega))
  · obtain ⟨li, rfl⟩ := Wg_inv hi
    obtain ⟨lj, rfl⟩ := Wg_inv hj
    by_cases h : i = n <;> by_cases h2 : j = n
    · omega
    · subst h
      have h3 : va_up ad i q i = va_up ad i q j := hpq
      rw [va_up_self, va_up_ne _ _ h2] at h3
      exact absurd h3.symm (hne j (by omega))
    · subst h2
      have h3 : va_up ad j q i = va_up ad j q j := hpq
      rw [va_up_self, va_up_ne _ _ h] at h3
      exact absurd h3 (hne i (by omega))
    · have h3 : va_up ad n q i = va_up ad n q j := hpq
      rw [va_up_ne _ _ h, va_up_ne _ _ h2] at h3
      exact w.2.1.1 i j _ _ (Wg_get (show i < n by omega)) (Wg_get (show j < n by omega)) h3
  · obtain ⟨lc, rfl⟩ := Wg_inv hc
    show A (va_up ad n q c)
    by_cases h : c = n
    · subst h
      rw [va_up_self]; exact hA
    · rw [va_up_ne _ _ h]
      exact w.2.1.2 c _ (Wg_get (show c < n by omega))
theorem CG.free {k : Nat} (w : CG n ad G D A H0 H locs) (hk : k < n) : ∀ q, va_A [(ad k, G k)] H.size q → A q := by
  intro q h
  rcases h with ⟨i, e1, h⟩ | h
  · have h1 := (List.getElem?_eq_some_iff.mp h).1
    simp at h1
    subst h1
    have h2 : ad k = q := congrArg Prod.fst (Option.some.inj h)
    rw [← h2]
    exact w.2.1.2 k _ (Wg_get hk)
  · exact w.2.2.2 q (Nat.le_trans w.2.2.1.1 h)
theorem CG.at (w : CG n ad G D A H0 H locs) {k : Nat} (hk : k < n) : va_P D vwCl [(ad k, G k)] H := fun i q hi => by
  have h1 := (List.getElem?_eq_some_iff.mp hi).1
  simp at h1
  subst h1
  cases hi
  exact w.1 k _ (Wg_get hk)
end GROW
