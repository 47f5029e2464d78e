/-! java.util.Arrays.fill of a row of ints -/
def fillF (N : Nat) (v : Int32) (f : Nat → Int32) : Nat → Int32 := fun j => if j < N then v else f j
abbrev fW (a : Nat) (cA : ClassId) (N : Nat) (f : Nat → Int32) : va_W := [(a, .inl (cA, N, .inl f))]
def PreF (D : va_G) (a : Nat) (cA : ClassId) (N : Nat) (f : Nat → Int32) (sz : Nat) (v : Int32) : Array Value → State → Prop :=
  va_Pc [.ref a, .int v] (fun U => U.heap.size = sz ∧ va_P D vwCl (fW a cA N f) U.heap ∧ va_K D vwCl [(cA, .int)] U)
def PostF (D : va_G) (a : Nat) (cA : ClassId) (N : Nat) (f : Nat → Int32) (sz : Nat) (v : Int32) : Array Value → State → Outcome → State → Prop :=
  va_Qv (fun u : Nat → Int32 => u = fillF N v f) (fun u t => va_P D vwCl (fW a cA N u) t.heap) (va_A (fW a cA N f) sz)
theorem fillF_step {N : Nat} {v : Int32} {f : Nat → Int32} {i : Nat} (hi : i < N) : upd (fillF i v f) i v = fillF (i + 1) v f := by
  funext j
  unfold upd fillF
  by_cases h : j = i
  · rw [if_pos h, if_pos (by omega)]
  · rw [if_neg h]
    by_cases h2 : j < i
    · rw [if_pos h2, if_pos (by omega)]
    · rw [if_neg h2, if_neg (by omega)]
set_option maxHeartbeats 4000000 in
set_option maxRecDepth 100000 in
theorem c_fill (l : Launch) (D : va_G) (a : Nat) (cA : ClassId) (N : Nat) (hN : N < 2 ^ 31) (f : Nat → Int32) (sz : Nat) (v : Int32) : Met l yJ7_fill_53178 wsJ7_fill_53178 ({ frames := 0, cells := 0, slots := 0, locals := 0 }) (PreF D a cA N f sz v) (PostF D a cA N f sz v) 0 0 (va_A (fW a cA N f) sz) := by
  refine Met.ofW (cc := cJ7_fill_53178) (maxL := 4) (ret := none) (by decide) rfl ?_
  intro p e s m args below meth c s₁ B hml hv
  obtain ⟨rfl, hsz, hP, hK⟩ := hv
  have hx := B.exec
  have hb := B.bytes
  have hr := B.returns
  have hlocks := B.notSynchronized
  have hD : va_D (va_A (fW a cA N f) sz) (fW a cA N f) := by
    refine ⟨fun i j p q hi hj _ => ?_, fun k q hk => va_A.in hk⟩
    have h1 := (List.getElem?_eq_some_iff.mp hi).1
    have h2 := (List.getElem?_eq_some_iff.mp hj).1
    simp at h1 h2
    omega
  unfold PostF
  generalize hA : va_A (fW a cA N f) sz = A at hD ⊢
  have hS : va_S A s.heap s.heap [] := va_S.rf
  have hl := lv_entry ([.ref a, .int v]) (n := 4) (Nat.le_of_ble_eq_true rfl)
  rw [lg_entry_eq]
  generalize (lg_sl ([.ref a, .int v]) ++ List.replicate (4 - (lg_sl ([.ref a, .int v])).length) Slot.unset).toArray = ls at hl ⊢
  have hl : lv_has ls 4 [(0, .ref a), (1, .int v)] := hl
  refine lv_iconst (v := 0) hx hb dJ7_fill_53178_0 (by decide) ?_
  refine lv_istore_n (lv' := [(2, .int 0), (0, .ref a), (1, .int v)]) hx hb dJ7_fill_53178_1 rfl hl (by decide) rfl (fun ls hl => ?_)
  refine lv_aload_n hx hb dJ7_fill_53178_2 rfl (lv_at hl 1 rfl) ?_
  refine va_alen hx hb hK hP 0 0 rfl rfl (v := nI N) rfl dJ7_fill_53178_3 ?_
  refine lv_istore_n (lv' := [(3, .int (nI N)), (2, .int 0), (0, .ref a), (1, .int v)]) hx hb dJ7_fill_53178_4 rfl hl (by decide) rfl (fun ls hl => ?_)
  have L : ∀ (n i : Nat), i ≤ N → N + 1 ≤ i + n → ∀ (H : Heap) (locs : List Loc), va_P D vwCl (fW a cA N (fillF i v f)) H → va_D A (fW a cA N (fillF i v f)) → va_S A s.heap H locs → ∀ ls : Array Slot, lv_has ls 4 [(3, .int (nI N)), (2, .int (nI i)), (0, .ref a), (1, .int v)] → W p l e (headSpec wsJ7_fill_53178 { frames := 0, cells := 0, slots := 0, locals := 0 }).room s m ([.ref a, .int v] : List Value).toArray below meth c H locs 0 0 (MQ below (va_Qv (fun u : Nat → Int32 => u = fillF N v f) (fun u t => va_P D vwCl (fW a cA N u) t.heap) A) ([.ref a, .int v] : List Value).toArray s 0 0 A) (F0 m 5 ls []) := by
    intro n
    induction n with
    | zero => intro i h1 h2; exact absurd h2 (by omega)
    | succ n ih =>
      intro i h1 h2 H locs hP hD hS ls hl
      refine lv_iload_n hx hb dJ7_fill_53178_5 rfl (lv_at hl 1 rfl) ?_
      refine lv_iload_n hx hb dJ7_fill_53178_6 rfl (lv_at hl 0 rfl) ?_
      refine lv_icmp_ge (tgt := 20) hx hb dJ7_fill_53178_7 (by decide) (fun c7 => ?_) (fun c7 => ?_)
      · have hi : i = N := by
          rcases Nat.lt_or_ge i N with q | q
          · exact absurd c7 (nI_ge q hN)
          · omega
        subst hi
        exact W.vret hx hb hr (fun t ht hW => ⟨⟨fillF i v f, rfl, rfl, by show va_P _ _ _ t.heap; rw [ht]; exact hP⟩, hS.F ht⟩) hS.2.2 dJ7_fill_53178_20 hlocks
      · have hi : i < N := by
          rcases Nat.lt_or_ge i N with q | q
          · exact q
          · exact absurd (nI_le q (by omega)) c7
        refine lv_aload_n hx hb dJ7_fill_53178_10 rfl (lv_at hl 2 rfl) ?_
        refine lv_iload_n hx hb dJ7_fill_53178_11 rfl (lv_at hl 1 rfl) ?_
        refine lv_iload_n hx hb dJ7_fill_53178_12 rfl (lv_at hl 3 rfl) ?_
        refine va_iast hx hb hK hP hD hS 0 0 (cA := cA) (n := N) (f := fillF i v f) rfl rfl (vp_in_nI hi hN) dJ7_fill_53178_13 (fun H locs hP hD hS => ?_)
        have e1 : upd (fillF i v f) (nI i).toNatClampNeg v = fillF (i + 1) v f := by rw [nI_clamp (by omega)]; exact fillF_step hi
        rw [e1] at hP hD
        refine lv_iinc (v := nI (i + 1)) (lv' := [(2, .int (nI (i + 1))), (3, .int (nI N)), (0, .ref a), (1, .int v)]) hx hb dJ7_fill_53178_14 hl (k := 1) rfl (nI_1 i) (by decide) rfl (fun ls hl => ?_)
        refine lv_goto (tgt := 5) hx hb dJ7_fill_53178_17 (by decide) ?_
        exact ih (i + 1) hi (by omega) H locs hP hD hS ls (lv_sub hl [1, 0, 2, 3] rfl)
  have e0 : fillF 0 v f = f := by
    funext j
    unfold fillF
    rw [if_neg (by omega)]
  exact L (N + 1) 0 (by omega) (by omega) s.heap [] (by rw [e0]; exact hP) (by rw [e0]; exact hD) hS ls (by rw [nI_0]; exact hl)
theorem hd_J7_fill_53178 : yJ7_fill_53178.cls ≠ "java/lang/invoke/MethodHandle" ∧ yJ7_fill_53178.cls ≠ "java/lang/invoke/VarHandle" ∧ (parseMethodDescriptor yJ7_fill_53178.desc).map (fun d => d.parameters.length) = some 2 := by decide +kernel
section FILL
variable {p : Program} {l : Launch} {e : Env} {R : Room} {s : State} {m : MethodId} {args : Array Value} {below : List Frame} {meth : Method} {c : Code} {H : Heap} {locs : List Loc} {cells slots : Nat} {Q : State → Prop}
variable {cc : ByteArray} {nL : Nat} {Ts : List Cond} {own : String} {pc : Nat} {ls : Array Slot}
variable {n : Nat} {E : Nat → (Nat → Int32) → va_E} {ad : Nat → Nat} {D : va_G} {A : Nat → Prop} {H0 : Heap} {σ : St} {tys : List (ClassId × FieldType)}
theorem PreF.blind {a : Nat} {cA : ClassId} {N : Nat} {f : Nat → Int32} {sz : Nat} {v : Int32} : FrameBlind (PreF D a cA N f sz v) := by
  intro a U g mk q
  obtain ⟨q0, q1, qP, qK⟩ := q
  exact ⟨q0, q1, qP, va_K.moved (u := U) (U := U.calling g mk a) (Vm.Alike.refl U.vm) qK⟩
theorem callFill {cA : ClassId} {N : Nat} (hN : N < 2 ^ 31) (S : CallFix p m c cc nL s args Ts own) (hls : ls.size = nL) (hK : va_K D vwCl tys s) (hNW : NW s) (w : CW n E ad D A H0 σ H locs) {k : Nat} (hk : k < n) (he : ∀ f, E k f = .inl (cA, N, .inl f)) (ht : tys[0]? = some (cA, .int)) {index : Nat} (g : GoodIn Ts (va_wsS own index yJ7_fill_53178 wsJ7_fill_53178)) (hf : 1 ≤ R.frames) (hlo : 23 ≤ R.locals) {v : Int32} (hdg : decode cc pc = .ok (.invokestatic index, 3)) (hcs : cells ≤ R.cells ∧ slots ≤ R.slots)
    (kk : ∀ (H1 : Heap) (locs1 : List Loc), CW n E ad D A H0 (u1 σ k (fillF N v (σ k))) H1 locs1 → W p l e R s m args below meth c H1 locs1 cells slots Q (F0 m (pc + 3) ls [])) : W p l e R s m args below meth c H locs cells slots Q (F0 m pc ls [.int v, .ref (ad k)]) := by
  have hPk : va_P D vwCl (fW (ad k) cA N (σ k)) H := fun i q hi => by
    have h1 := (List.getElem?_eq_some_iff.mp hi).1
    simp at h1
    subst h1
    cases hi
    have := w.1 k _ (Wd_get hk)
    rw [he] at this
    exact this
  have hKk : va_K D vwCl [(cA, .int)] s := ⟨hK.1, fun i q hi => by
    have h1 := (List.getElem?_eq_some_iff.mp hi).1
    simp at h1
    subst h1
    cases hi
    exact hK.2 0 _ ht⟩
  have hfr : ∀ q, va_A (fW (ad k) cA N (σ k)) H.size q → A q := by
    intro q h
    rcases h with ⟨i, e1, h⟩ | h
    · have h1 := (List.getElem?_eq_some_iff.mp h).1
      simp at h1
      subst h1
      cases h
      exact w.2.1.2 k _ (Wd_get hk)
    · exact w.2.2.2 q (Nat.le_trans w.2.2.1.1 h)
  refine va_callv (va_runS (As := [.ref (ad k), .int v]) (rest := []) S (c_fill l D (ad k) cA N hN (σ k) H.size v) (va_cwS 2 S.2.2.2.2 g rfl rfl rfl hd_J7_fill_53178 ⟨hf, hlo⟩) ⟨PreF.blind, fun U hU hW => ⟨rfl, by rw [hU], by rw [hU]; exact hPk, va_K.moved hW.alike hKk⟩⟩ rfl rfl hls rfl (lv_room (Nat.le_of_ble_eq_true rfl)) hdg hcs) w.2.2.1 (fun q _ h => hfr q h) hfr (fun u t H1 locs1 ht hvm hw hB hz hk1 hS => ?_)
  subst hw
  rw [ht] at hB
  refine kk H1 locs1 ⟨fun c q hc => ?_, Wd_addr w.2.1 (fun c hc => w.2.1.2 c _ (Wd_get hc)), hS, w.2.2.2⟩
  obtain ⟨hcn, rfl⟩ := Wd_get_inv hc
  by_cases hck : c = k
  · subst hck
    rw [u1_same, he]
    exact hB 0 _ rfl
  · rw [u1_ne _ hck]
    have hat := w.1 c _ (Wd_get hcn)
    refine hat.kept (hk1 _ hat.lt (fun h => ?_))
    rcases h with ⟨i, e1, h⟩ | h
    · have h1 := (List.getElem?_eq_some_iff.mp h).1
      simp at h1
      subst h1
      have h2 : ad k = ad c := congrArg Prod.fst (Option.some.inj h)
      exact hck (w.2.1.1 c k _ _ (Wd_get hcn) (Wd_get hk) h2.symm)
    · exact absurd hat.lt (Nat.not_lt.mpr h)
end FILL
