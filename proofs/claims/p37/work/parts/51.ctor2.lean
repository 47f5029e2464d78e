/-! the constructors of the class's parts -/
def Q0v : Array Value → State → Outcome → State → Prop := fun _ st oc t => oc = .returned none ∧ t.heap = st.heap
/-- one cell alone -/
def PreI (D : va_G) (h0 : Nat) (e0 : va_E) (cI : ClassId) (sz : Nat) : Array Value → State → Prop :=
  va_Pc [.ref h0] (fun U => U.heap.size = sz ∧ va_P D vwCl [(h0, e0)] U.heap ∧ va_K D vwCl [(cI, .int)] U)
theorem PreI.blind {D : va_G} {h0 : Nat} {e0 : va_E} {cI : ClassId} {sz : Nat} : FrameBlind (PreI D h0 e0 cI sz) := by
  intro a U g mk q
  obtain ⟨q0, q1, qP, qK⟩ := q
  exact ⟨q0, q1, qP, va_K.moved (u := U) (U := U.calling g mk a) (Vm.Alike.refl U.vm) qK⟩
/-- .. becomes another, with one new row of ints -/
def PostI (D : va_G) (h0 : Nat) (e0 : va_E) (e1 : Nat → va_E) (cI : ClassId) (N sz : Nat) : Array Value → State → Outcome → State → Prop :=
  va_Qv (fun q : Nat => sz ≤ q) (fun q t => va_P D vwCl [(h0, e1 q), (q, zInts cI N (fun _ => 0))] t.heap) (va_A [(h0, e0)] sz)
section C0
variable {p : Program} {l : Launch} {e : Env} {R : Room} {s : State} {m : MethodId} {args : Array Value} {below : List Frame} {meth : Method} {c : Code} {H : Heap} {locs : List Loc} {cells slots : Nat} {Q : State → Prop}
variable {pc : Nat} {ls : Array Slot} {rest st0 : List Value} {a : Array Value}
theorem call0v (hr : va_Run p l e R s m args below meth c H locs cells slots 0 0 (F0 m pc ls st0) rest (Q0v a) N0)
    (kk : W p l e R s m args below meth c H locs cells slots Q (F0 m (pc + 3) ls rest)) : W p l e R s m args below meth c H locs cells slots Q (F0 m pc ls st0) := by
  intro T hT X
  obtain ⟨v, st₀, t, T', L, h0, X', hL, e1, e2, ⟨hv, hh⟩, st⟩ := hr T hT X
  cases hv
  obtain ⟨t2, a1, b1⟩ := kk T' (by rw [e1, hh, h0]) (Stand.forget X' (fun q h => (hL q h).elim))
  exact ⟨t2, st t2 a1, b1⟩
end C0
set_option maxHeartbeats 4000000 in
set_option maxRecDepth 100000 in
theorem c_X0_init (l : Launch) (h0 : Nat) : Met l yX0_init wsX0_init ({ frames := 1, cells := 0, slots := 0, locals := 12 }) (Pre0 [.ref h0]) Q0v 0 0 N0 := by
  refine head0 (cc := cX0_init) (maxL := 1) (ret := none) [.ref h0] (by decide) rfl (Nat.le_of_ble_eq_true rfl) ?_
  intro p e s m below meth c S hr hlocks ls hl
  have S : CallFix p m c cX0_init 1 s ([.ref h0] : List Value).toArray wsX0_init RX0 := S
  have hx := S.1
  have hb := S.2.1
  have hl : lv_has ls 1 [(0, .ref h0)] := hl
  refine lv_aload_n hx hb dX0_init_0 rfl (lv_at hl 0 rfl) ?_
  refine W.objInit hx hb S.2.2.2.1 (S.2.2.2.2 _ (List.mem_of_getElem? (i := 1) rfl)) (S.2.2.2.2 _ (List.mem_of_getElem? (i := 2) rfl)) (S.2.2.2.2 _ (List.mem_of_getElem? (i := 3) rfl)) rfl (by rw [S.2.2.1]; exact hl.1) rfl dX0_init_1 (Nat.le_of_ble_eq_true rfl) (Nat.le_of_ble_eq_true rfl) ?_
  refine W.eq (g2 := F0 m 4 ls []) rfl ?_
  exact W.vret hx hb hr (fun t ht hW => ⟨rfl, ht⟩) (fun q h => absurd h List.not_mem_nil) dX0_init_4 hlocks
set_option maxHeartbeats 4000000 in
set_option maxRecDepth 100000 in
theorem c_X1_init (l : Launch) (D : va_G) (h0 sz : Nat) (cI : ClassId) : Met l yX1_init wsX1_init ({ frames := 1, cells := 1, slots := 90, locals := 14 }) (PreI D h0 (.inr (1, [.int 0, .int 0, .int 0, .null])) cI sz) (PostI D h0 (.inr (1, [.int 0, .int 0, .int 0, .null])) (fun q => .inr (1, [.int 0, .int 0, .int 0, .ref q])) cI 90 sz) 1 90 (va_A [(h0, .inr (1, [.int 0, .int 0, .int 0, .null]))] sz) := by
  refine Met.ofW (cc := cX1_init) (maxL := 1) (ret := none) (by decide) rfl ?_
  intro p e s m args below meth c s₁ B hml hv
  obtain ⟨rfl, hsz, hP, hK⟩ := hv
  have hts := atoms_spec (ws := wsX1_init) B.pre
  have hown : s.vm.findClass RX1 = some m.cls := findClass_of_methodNamed B.named
  have hin2 : meth.name = "<init>" := (name_of_methodNamed B.named B.method).1
  have hr := B.returns
  have hlocks := B.notSynchronized
  have S : CallFix p m c cX1_init 1 s ([.ref h0] : List Value).toArray wsX1_init RX1 := ⟨B.exec, B.bytes, hml, hown, hts⟩
  have hx := S.1
  have hb := S.2.1
  have hl := lv_entry ([.ref h0]) (n := 1) (Nat.le_of_ble_eq_true rfl)
  rw [lg_entry_eq]
  generalize (lg_sl ([.ref h0]) ++ List.replicate (1 - (lg_sl ([.ref h0])).length) Slot.unset).toArray = ls at hl ⊢
  have hl : lv_has ls 1 [(0, .ref h0)] := hl
  have hinX1 : ∀ w ∈ wsX10, w ∈ wsX1_init := (fun _ h => List.mem_cons_of_mem _ (List.mem_append_right _ h))
  unfold PostI
  generalize hA : va_A [(h0, .inr (1, [.int 0, .int 0, .int 0, .null]))] sz = A
  have w : CG 1 (fun _ => h0) (fun _ => .inr (1, [.int 0, .int 0, .int 0, .null])) D A s.heap s.heap [] := ⟨hP, ⟨fun i j p q hi hj _ => by
    have h1 := (Wg_inv hi).1
    have h2 := (Wg_inv hj).1
    omega, fun k q hk => by
    obtain ⟨h1, rfl⟩ := Wg_inv hk
    rw [← hA]
    exact Or.inl ⟨0, _, rfl⟩⟩, va_S.rf, fun q hq => by
    rw [← hA, ← hsz]
    exact Or.inr hq⟩
  refine lv_aload_n hx hb dX1_init_0 rfl (lv_at hl 0 rfl) ?_
  refine W.objInit hx hb S.2.2.2.1 (S.2.2.2.2 _ (List.mem_of_getElem? (i := 1) rfl)) (S.2.2.2.2 _ (List.mem_of_getElem? (i := 2) rfl)) (S.2.2.2.2 _ (List.mem_of_getElem? (i := 3) rfl)) rfl (by rw [S.2.2.1]; exact hl.1) rfl dX1_init_1 (Nat.le_of_ble_eq_true rfl) (Nat.le_of_ble_eq_true rfl) ?_
  refine W.eq (g2 := F0 m 4 ls []) rfl ?_
  refine lv_aload_n hx hb dX1_init_4 rfl (lv_at hl 0 rfl) ?_
  refine lv_bipush (v := 90) hx hb dX1_init_5 (by decide) ?_
  refine g_newaI (N := 90) S hK w (t := 0) rfl (List.mem_of_getElem? (i := 4) rfl) (by decide) (by decide) (by decide) (Nat.le_of_ble_eq_true rfl) (Nat.le_of_ble_eq_true rfl) dX1_init_7 (fun q H w => ?_)
  refine g_putF (C := RX1) (T := TX1) (N := 4) S hK w (k := 0) (by decide) rfl rfl hinX1 tyX1 tyX1_ok nmX1 3 (by decide) (List.mem_of_getElem? (i := 5) rfl) rfl hin2 rfl (x := .ref q) (ty := .array .int) (by decide +kernel) rfl rfl (by show _ < List.length _; exact Nat.le_of_ble_eq_true rfl) dX1_init_9 (fun H locs w => ?_)
  have hq : sz ≤ q := by
    have h1 := w.2.1.2 1 _ rfl
    rw [← hA] at h1
    rcases h1 with ⟨i, e2, h⟩ | h
    · have h3 := (List.getElem?_eq_some_iff.mp h).1
      simp at h3
      subst h3
      have h4 : h0 = q := congrArg Prod.fst (Option.some.inj h)
      have h5 := w.2.1.1 0 1 _ _ rfl rfl h4
      exact absurd h5 (by decide)
    · exact h
  exact W.vret hx hb hr (fun t ht hW => ⟨⟨q, rfl, hq, by show va_P _ _ _ t.heap; rw [ht]; exact w.1⟩, w.2.2.1.F ht⟩) w.2.2.1.2.2 dX1_init_12 hlocks
set_option maxHeartbeats 4000000 in
set_option maxRecDepth 100000 in
theorem c_X2_init (l : Launch) (D : va_G) (h0 sz : Nat) (cI : ClassId) : Met l yX2_init wsX2_init ({ frames := 1, cells := 1, slots := 9, locals := 14 }) (PreI D h0 (.inr (2, [.int 0, .int 0, .null])) cI sz) (PostI D h0 (.inr (2, [.int 0, .int 0, .null])) (fun q => .inr (2, [.int 0, .int 0, .ref q])) cI 9 sz) 1 9 (va_A [(h0, .inr (2, [.int 0, .int 0, .null]))] sz) := by
  refine Met.ofW (cc := cX2_init) (maxL := 1) (ret := none) (by decide) rfl ?_
  intro p e s m args below meth c s₁ B hml hv
  obtain ⟨rfl, hsz, hP, hK⟩ := hv
  have hts := atoms_spec (ws := wsX2_init) B.pre
  have hown : s.vm.findClass RX2 = some m.cls := findClass_of_methodNamed B.named
  have hin2 : meth.name = "<init>" := (name_of_methodNamed B.named B.method).1
  have hr := B.returns
  have hlocks := B.notSynchronized
  have S : CallFix p m c cX2_init 1 s ([.ref h0] : List Value).toArray wsX2_init RX2 := ⟨B.exec, B.bytes, hml, hown, hts⟩
  have hx := S.1
  have hb := S.2.1
  have hl := lv_entry ([.ref h0]) (n := 1) (Nat.le_of_ble_eq_true rfl)
  rw [lg_entry_eq]
  generalize (lg_sl ([.ref h0]) ++ List.replicate (1 - (lg_sl ([.ref h0])).length) Slot.unset).toArray = ls at hl ⊢
  have hl : lv_has ls 1 [(0, .ref h0)] := hl
  have hinX2 : ∀ w ∈ wsX20, w ∈ wsX2_init := (fun _ h => List.mem_cons_of_mem _ (List.mem_append_right _ h))
  unfold PostI
  generalize hA : va_A [(h0, .inr (2, [.int 0, .int 0, .null]))] sz = A
  have w : CG 1 (fun _ => h0) (fun _ => .inr (2, [.int 0, .int 0, .null])) D A s.heap s.heap [] := ⟨hP, ⟨fun i j p q hi hj _ => by
    have h1 := (Wg_inv hi).1
    have h2 := (Wg_inv hj).1
    omega, fun k q hk => by
    obtain ⟨h1, rfl⟩ := Wg_inv hk
    rw [← hA]
    exact Or.inl ⟨0, _, rfl⟩⟩, va_S.rf, fun q hq => by
    rw [← hA, ← hsz]
    exact Or.inr hq⟩
  refine lv_aload_n hx hb dX2_init_0 rfl (lv_at hl 0 rfl) ?_
  refine W.objInit hx hb S.2.2.2.1 (S.2.2.2.2 _ (List.mem_of_getElem? (i := 1) rfl)) (S.2.2.2.2 _ (List.mem_of_getElem? (i := 2) rfl)) (S.2.2.2.2 _ (List.mem_of_getElem? (i := 3) rfl)) rfl (by rw [S.2.2.1]; exact hl.1) rfl dX2_init_1 (Nat.le_of_ble_eq_true rfl) (Nat.le_of_ble_eq_true rfl) ?_
  refine W.eq (g2 := F0 m 4 ls []) rfl ?_
  refine lv_aload_n hx hb dX2_init_4 rfl (lv_at hl 0 rfl) ?_
  refine lv_bipush (v := 9) hx hb dX2_init_5 (by decide) ?_
  refine g_newaI (N := 9) S hK w (t := 0) rfl (List.mem_of_getElem? (i := 4) rfl) (by decide) (by decide) (by decide) (Nat.le_of_ble_eq_true rfl) (Nat.le_of_ble_eq_true rfl) dX2_init_7 (fun q H w => ?_)
  refine g_putF (C := RX2) (T := TX2) (N := 3) S hK w (k := 0) (by decide) rfl rfl hinX2 tyX2 tyX2_ok nmX2 2 (by decide) (List.mem_of_getElem? (i := 5) rfl) rfl hin2 rfl (x := .ref q) (ty := .array .int) (by decide +kernel) rfl rfl (by show _ < List.length _; exact Nat.le_of_ble_eq_true rfl) dX2_init_9 (fun H locs w => ?_)
  have hq : sz ≤ q := by
    have h1 := w.2.1.2 1 _ rfl
    rw [← hA] at h1
    rcases h1 with ⟨i, e2, h⟩ | h
    · have h3 := (List.getElem?_eq_some_iff.mp h).1
      simp at h3
      subst h3
      have h4 : h0 = q := congrArg Prod.fst (Option.some.inj h)
      have h5 := w.2.1.1 0 1 _ _ rfl rfl h4
      exact absurd h5 (by decide)
    · exact h
  exact W.vret hx hb hr (fun t ht hW => ⟨⟨q, rfl, hq, by show va_P _ _ _ t.heap; rw [ht]; exact w.1⟩, w.2.2.1.F ht⟩) w.2.2.1.2.2 dX2_init_12 hlocks
theorem hd_X0_init : yX0_init.cls ≠ "java/lang/invoke/MethodHandle" ∧ yX0_init.cls ≠ "java/lang/invoke/VarHandle" ∧ (parseMethodDescriptor yX0_init.desc).map (fun d => d.parameters.length) = some 0 := by decide +kernel
theorem hd_X1_init : yX1_init.cls ≠ "java/lang/invoke/MethodHandle" ∧ yX1_init.cls ≠ "java/lang/invoke/VarHandle" ∧ (parseMethodDescriptor yX1_init.desc).map (fun d => d.parameters.length) = some 0 := by decide +kernel
theorem hd_X2_init : yX2_init.cls ≠ "java/lang/invoke/MethodHandle" ∧ yX2_init.cls ≠ "java/lang/invoke/VarHandle" ∧ (parseMethodDescriptor yX2_init.desc).map (fun d => d.parameters.length) = some 0 := by decide +kernel
theorem hd_X3_init : yX3_init.cls ≠ "java/lang/invoke/MethodHandle" ∧ yX3_init.cls ≠ "java/lang/invoke/VarHandle" ∧ (parseMethodDescriptor yX3_init.desc).map (fun d => d.parameters.length) = some 0 := by decide +kernel
