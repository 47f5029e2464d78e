/-! the check's constructor -/
def zNullM : List Value := [.int 0, .int 0, .int 0, .int 0, .null, .null, .null, .int 0, .int 0, .null, .null, .int 0, .null, .null, .null, .null, .null, .null, .null, .null, .null, .null, .null, .null, .int 0]
def σM0 : St := fun c => if c = 14 then fillF 4 (-1) (fun _ => 0) else fun _ => 0
def IM (cI : ClassId) (k : Nat) (ad : Nat → Nat) (G : Nat → va_E) : Prop := G 0 = .inr (4, fsM ad (fun _ => 0)) ∧ (∀ c, 1 ≤ c → c < 18 → c ≠ 14 → G c = zInts cI (lenM c) (fun _ => 0)) ∧ G 14 = zInts cI 4 (fillF k (-1) (fun _ => 0))
def zAdM (ad : Nat → Nat) (cI : ClassId) (c : Nat) : Nat := if c < 18 then ad c else cI
theorem IM_done {cI : ClassId} {ad : Nat → Nat} {G : Nat → va_E} {D : va_G} {A : Nat → Prop} {H0 H : Heap} {locs : List Loc} (h : IM cI 4 ad G) (w : CG 18 ad G D A H0 H locs) :
    va_P D vwCl (Wd 18 (eM (zAdM ad cI)) (zAdM ad cI) σM0) H ∧ va_D A (Wd 18 (eM (zAdM ad cI)) (zAdM ad cI) σM0) := by
  have hz : ∀ c, c < 18 → zAdM ad cI c = ad c := fun c hc => if_pos hc
  constructor
  · intro c q hc
    obtain ⟨hcn, rfl⟩ := Wd_get_inv hc
    rw [hz c hcn]
    have ha := w.1 c _ (Wg_get hcn)
    by_cases h0 : c = 0
    · subst h0
      rw [h.1] at ha
      exact ha
    · by_cases h14 : c = 14
      · subst h14
        rw [h.2.2] at ha
        exact ha
      · rw [h.2.1 c (by omega) hcn h14] at ha
        have e1 : σM0 c = fun _ => 0 := if_neg h14
        rw [e1]
        unfold eM
        rw [if_neg h0]
        exact ha
  · refine ⟨fun i j p q hi hj hpq => ?_, fun c q hc => ?_⟩
    · obtain ⟨li, rfl⟩ := Wd_get_inv hi
      obtain ⟨lj, rfl⟩ := Wd_get_inv hj
      have h1 : zAdM ad cI i = zAdM ad cI j := hpq
      rw [hz i li, hz j lj] at h1
      exact w.2.1.1 _ _ _ _ (Wg_get li) (Wg_get lj) h1
    · obtain ⟨lc, rfl⟩ := Wd_get_inv hc
      show A (zAdM ad cI c)
      rw [hz c lc]
      exact w.2.1.2 _ _ (Wg_get lc)
def PreM4 (D : va_G) (h0 sz : Nat) : Array Value → State → Prop :=
  va_Pc [.ref h0] (fun U => U.heap.size = sz ∧ va_P D vwCl [(h0, .inr (4, zNullM))] U.heap ∧ va_K D vwCl [] U)
theorem PreM4.blind {D : va_G} {h0 sz : Nat} : FrameBlind (PreM4 D h0 sz) := by
  intro a U g mk q
  obtain ⟨q0, q1, qP, qK⟩ := q
  exact ⟨q0, q1, qP, va_K.moved (u := U) (U := U.calling g mk a) (Vm.Alike.refl U.vm) qK⟩
def PostM4 (D : va_G) (h0 sz : Nat) : Array Value → State → Outcome → State → Prop :=
  va_Qv (fun ad : Nat → Nat => ad 0 = h0) (fun ad t => va_P D vwCl (Wd 18 (eM ad) ad σM0) t.heap ∧ va_K D vwCl (tyM ad) t ∧ va_D (va_A [(h0, .inr (4, zNullM))] sz) (Wd 18 (eM ad) ad σM0)) (va_A [(h0, .inr (4, zNullM))] sz)
set_option maxHeartbeats 8000000 in
set_option maxRecDepth 100000 in
theorem c_X4_init (l : Launch) (D : va_G) (h0 sz : Nat) : Met l yX4_init wsX4_init ({ frames := 1, cells := 17, slots := 692, locals := 12 } : Room) (PreM4 D h0 sz) (PostM4 D h0 sz) 17 692 (va_A [(h0, .inr (4, zNullM))] sz) := by
  refine Met.ofW (cc := cX4_init) (maxL := 2) (ret := none) (by decide) rfl ?_
  intro p e s m args below meth c s₁ B hml hv
  obtain ⟨rfl, hsz, hP, hK⟩ := hv
  have hts := atoms_spec (ws := wsX4_init) B.pre
  have hown : s.vm.findClass RX4 = some m.cls := findClass_of_methodNamed B.named
  have hin2 : meth.name = "<init>" := (name_of_methodNamed B.named B.method).1
  have hr := B.returns
  have hlocks := B.notSynchronized
  have S : CallFix p m c cX4_init 2 s ([.ref h0] : List Value).toArray wsX4_init RX4 := ⟨B.exec, B.bytes, hml, hown, hts⟩
  have hx := S.1
  have hb := S.2.1
  have hl := lv_entry ([.ref h0]) (n := 2) (Nat.le_of_ble_eq_true rfl)
  rw [lg_entry_eq]
  generalize (lg_sl ([.ref h0]) ++ List.replicate (2 - (lg_sl ([.ref h0])).length) Slot.unset).toArray = ls at hl ⊢
  have hl : lv_has ls 2 [(0, .ref h0)] := hl
  have hinX4 : ∀ w ∈ wsX40, w ∈ wsX4_init := (fun _ h => List.mem_cons_of_mem _ (List.mem_append_right _ h))
  unfold PostM4
  generalize hA : va_A [(h0, .inr (4, zNullM))] sz = A
  have w : CG 1 (fun _ => h0) (fun _ => .inr (4, zNullM)) D A s.heap s.heap [] := ⟨hP, ⟨fun i j p q hi hj _ => by
    have h1 := (Wg_inv hi).1
    have h2 := (Wg_inv hj).1
    omega, fun k q hk => by
    obtain ⟨h1, rfl⟩ := Wg_inv hk
    rw [← hA]
    exact Or.inl ⟨0, _, rfl⟩⟩, va_S.rf, fun q hq => by
    rw [← hA, ← hsz]
    exact Or.inr hq⟩
  refine lv_aload_n hx hb dX4_init_0 rfl (lv_at hl 0 rfl) ?_
  refine W.objInit hx hb S.2.2.2.1 (S.2.2.2.2 _ (List.mem_of_getElem? (i := 1) rfl)) (S.2.2.2.2 _ (List.mem_of_getElem? (i := 2) rfl)) (S.2.2.2.2 _ (List.mem_of_getElem? (i := 3) rfl)) rfl (by rw [S.2.2.1]; exact hl.1) rfl dX4_init_1 (Nat.le_of_ble_eq_true rfl) (Nat.le_of_ble_eq_true rfl) ?_
  refine W.eq (g2 := F0 m 4 ls []) rfl ?_
  refine lv_aload_n hx hb dX4_init_4 rfl (lv_at hl 0 rfl) ?_
  refine lv_bipush (v := 8) hx hb dX4_init_5 (by decide) ?_
  refine g_newa (N := 8) S hK w (List.mem_of_getElem? (i := 4) rfl) (by decide) (by decide) (by decide) (Nat.le_of_ble_eq_true rfl) (Nat.le_of_ble_eq_true rfl) dX4_init_7 (fun q1 cI H hK w => ?_)
  have hK : va_K D vwCl [(cI, .int)] s := hK
  refine g_putF (C := RX4) (T := TX4) (N := 25) S hK w (k := 0) (by decide) (fs := [.int 0, .int 0, .int 0, .int 0, .null, .null, .null, .int 0, .int 0, .null, .null, .int 0, .null, .null, .null, .null, .null, .null, .null, .null, .null, .null, .null, .null, .int 0]) rfl rfl hinX4 tyX4 tyX4_ok nmX4 4 (by decide) (List.mem_of_getElem? (i := 5) rfl) rfl hin2 rfl (x := .ref q1) (ty := .array .int) (by decide +kernel) rfl rfl (by show _ < List.length _; exact Nat.le_of_ble_eq_true rfl) dX4_init_9 (fun H locs w => ?_)
  refine lv_aload_n hx hb dX4_init_12 rfl (lv_at hl 0 rfl) ?_
  refine lv_bipush (v := 72) hx hb dX4_init_13 (by decide) ?_
  refine g_newaI (N := 72) S hK w (t := 0) rfl (List.mem_of_getElem? (i := 4) rfl) (by decide) (by decide) (by decide) (Nat.le_of_ble_eq_true rfl) (Nat.le_of_ble_eq_true rfl) dX4_init_15 (fun q2 H w => ?_)
  refine g_putF (C := RX4) (T := TX4) (N := 25) S hK w (k := 0) (by decide) (fs := [.int 0, .int 0, .int 0, .int 0, .ref q1, .null, .null, .int 0, .int 0, .null, .null, .int 0, .null, .null, .null, .null, .null, .null, .null, .null, .null, .null, .null, .null, .int 0]) rfl rfl hinX4 tyX4 tyX4_ok nmX4 5 (by decide) (List.mem_of_getElem? (i := 6) rfl) rfl hin2 rfl (x := .ref q2) (ty := .array .int) (by decide +kernel) rfl rfl (by show _ < List.length _; exact Nat.le_of_ble_eq_true rfl) dX4_init_17 (fun H locs w => ?_)
  refine lv_aload_n hx hb dX4_init_20 rfl (lv_at hl 0 rfl) ?_
  refine lv_bipush (v := 9) hx hb dX4_init_21 (by decide) ?_
  refine g_newaI (N := 9) S hK w (t := 0) rfl (List.mem_of_getElem? (i := 4) rfl) (by decide) (by decide) (by decide) (Nat.le_of_ble_eq_true rfl) (Nat.le_of_ble_eq_true rfl) dX4_init_23 (fun q3 H w => ?_)
  refine g_putF (C := RX4) (T := TX4) (N := 25) S hK w (k := 0) (by decide) (fs := [.int 0, .int 0, .int 0, .int 0, .ref q1, .ref q2, .null, .int 0, .int 0, .null, .null, .int 0, .null, .null, .null, .null, .null, .null, .null, .null, .null, .null, .null, .null, .int 0]) rfl rfl hinX4 tyX4 tyX4_ok nmX4 6 (by decide) (List.mem_of_getElem? (i := 7) rfl) rfl hin2 rfl (x := .ref q3) (ty := .array .int) (by decide +kernel) rfl rfl (by show _ < List.length _; exact Nat.le_of_ble_eq_true rfl) dX4_init_25 (fun H locs w => ?_)
  refine lv_aload_n hx hb dX4_init_28 rfl (lv_at hl 0 rfl) ?_
  refine lv_bipush (v := 8) hx hb dX4_init_29 (by decide) ?_
  refine g_newaI (N := 8) S hK w (t := 0) rfl (List.mem_of_getElem? (i := 4) rfl) (by decide) (by decide) (by decide) (Nat.le_of_ble_eq_true rfl) (Nat.le_of_ble_eq_true rfl) dX4_init_31 (fun q4 H w => ?_)
  refine g_putF (C := RX4) (T := TX4) (N := 25) S hK w (k := 0) (by decide) (fs := [.int 0, .int 0, .int 0, .int 0, .ref q1, .ref q2, .ref q3, .int 0, .int 0, .null, .null, .int 0, .null, .null, .null, .null, .null, .null, .null, .null, .null, .null, .null, .null, .int 0]) rfl rfl hinX4 tyX4 tyX4_ok nmX4 9 (by decide) (List.mem_of_getElem? (i := 8) rfl) rfl hin2 rfl (x := .ref q4) (ty := .array .int) (by decide +kernel) rfl rfl (by show _ < List.length _; exact Nat.le_of_ble_eq_true rfl) dX4_init_33 (fun H locs w => ?_)
  refine lv_aload_n hx hb dX4_init_36 rfl (lv_at hl 0 rfl) ?_
  refine lv_bipush (v := 72) hx hb dX4_init_37 (by decide) ?_
  refine g_newaI (N := 72) S hK w (t := 0) rfl (List.mem_of_getElem? (i := 4) rfl) (by decide) (by decide) (by decide) (Nat.le_of_ble_eq_true rfl) (Nat.le_of_ble_eq_true rfl) dX4_init_39 (fun q5 H w => ?_)
  refine g_putF (C := RX4) (T := TX4) (N := 25) S hK w (k := 0) (by decide) (fs := [.int 0, .int 0, .int 0, .int 0, .ref q1, .ref q2, .ref q3, .int 0, .int 0, .ref q4, .null, .int 0, .null, .null, .null, .null, .null, .null, .null, .null, .null, .null, .null, .null, .int 0]) rfl rfl hinX4 tyX4 tyX4_ok nmX4 10 (by decide) (List.mem_of_getElem? (i := 9) rfl) rfl hin2 rfl (x := .ref q5) (ty := .array .int) (by decide +kernel) rfl rfl (by show _ < List.length _; exact Nat.le_of_ble_eq_true rfl) dX4_init_41 (fun H locs w => ?_)
  refine lv_aload_n hx hb dX4_init_44 rfl (lv_at hl 0 rfl) ?_
  refine lv_bipush (v := 8) hx hb dX4_init_45 (by decide) ?_
  refine g_newaI (N := 8) S hK w (t := 0) rfl (List.mem_of_getElem? (i := 4) rfl) (by decide) (by decide) (by decide) (Nat.le_of_ble_eq_true rfl) (Nat.le_of_ble_eq_true rfl) dX4_init_47 (fun q6 H w => ?_)
  refine g_putF (C := RX4) (T := TX4) (N := 25) S hK w (k := 0) (by decide) (fs := [.int 0, .int 0, .int 0, .int 0, .ref q1, .ref q2, .ref q3, .int 0, .int 0, .ref q4, .ref q5, .int 0, .null, .null, .null, .null, .null, .null, .null, .null, .null, .null, .null, .null, .int 0]) rfl rfl hinX4 tyX4 tyX4_ok nmX4 12 (by decide) (List.mem_of_getElem? (i := 10) rfl) rfl hin2 rfl (x := .ref q6) (ty := .array .int) (by decide +kernel) rfl rfl (by show _ < List.length _; exact Nat.le_of_ble_eq_true rfl) dX4_init_49 (fun H locs w => ?_)
  refine lv_aload_n hx hb dX4_init_52 rfl (lv_at hl 0 rfl) ?_
  refine lv_bipush (v := 8) hx hb dX4_init_53 (by decide) ?_
  refine g_newaI (N := 8) S hK w (t := 0) rfl (List.mem_of_getElem? (i := 4) rfl) (by decide) (by decide) (by decide) (Nat.le_of_ble_eq_true rfl) (Nat.le_of_ble_eq_true rfl) dX4_init_55 (fun q7 H w => ?_)
  refine g_putF (C := RX4) (T := TX4) (N := 25) S hK w (k := 0) (by decide) (fs := [.int 0, .int 0, .int 0, .int 0, .ref q1, .ref q2, .ref q3, .int 0, .int 0, .ref q4, .ref q5, .int 0, .ref q6, .null, .null, .null, .null, .null, .null, .null, .null, .null, .null, .null, .int 0]) rfl rfl hinX4 tyX4 tyX4_ok nmX4 13 (by decide) (List.mem_of_getElem? (i := 11) rfl) rfl hin2 rfl (x := .ref q7) (ty := .array .int) (by decide +kernel) rfl rfl (by show _ < List.length _; exact Nat.le_of_ble_eq_true rfl) dX4_init_57 (fun H locs w => ?_)
  refine lv_aload_n hx hb dX4_init_60 rfl (lv_at hl 0 rfl) ?_
  refine lv_bipush (v := 8) hx hb dX4_init_61 (by decide) ?_
  refine g_newaI (N := 8) S hK w (t := 0) rfl (List.mem_of_getElem? (i := 4) rfl) (by decide) (by decide) (by decide) (Nat.le_of_ble_eq_true rfl) (Nat.le_of_ble_eq_true rfl) dX4_init_63 (fun q8 H w => ?_)
  refine g_putF (C := RX4) (T := TX4) (N := 25) S hK w (k := 0) (by decide) (fs := [.int 0, .int 0, .int 0, .int 0, .ref q1, .ref q2, .ref q3, .int 0, .int 0, .ref q4, .ref q5, .int 0, .ref q6, .ref q7, .null, .null, .null, .null, .null, .null, .null, .null, .null, .null, .int 0]) rfl rfl hinX4 tyX4 tyX4_ok nmX4 14 (by decide) (List.mem_of_getElem? (i := 12) rfl) rfl hin2 rfl (x := .ref q8) (ty := .array .int) (by decide +kernel) rfl rfl (by show _ < List.length _; exact Nat.le_of_ble_eq_true rfl) dX4_init_65 (fun H locs w => ?_)
  refine lv_aload_n hx hb dX4_init_68 rfl (lv_at hl 0 rfl) ?_
  refine lv_bipush (v := 8) hx hb dX4_init_69 (by decide) ?_
  refine g_newaI (N := 8) S hK w (t := 0) rfl (List.mem_of_getElem? (i := 4) rfl) (by decide) (by decide) (by decide) (Nat.le_of_ble_eq_true rfl) (Nat.le_of_ble_eq_true rfl) dX4_init_71 (fun q9 H w => ?_)
  refine g_putF (C := RX4) (T := TX4) (N := 25) S hK w (k := 0) (by decide) (fs := [.int 0, .int 0, .int 0, .int 0, .ref q1, .ref q2, .ref q3, .int 0, .int 0, .ref q4, .ref q5, .int 0, .ref q6, .ref q7, .ref q8, .null, .null, .null, .null, .null, .null, .null, .null, .null, .int 0]) rfl rfl hinX4 tyX4 tyX4_ok nmX4 15 (by decide) (List.mem_of_getElem? (i := 13) rfl) rfl hin2 rfl (x := .ref q9) (ty := .array .int) (by decide +kernel) rfl rfl (by show _ < List.length _; exact Nat.le_of_ble_eq_true rfl) dX4_init_73 (fun H locs w => ?_)
  refine lv_aload_n hx hb dX4_init_76 rfl (lv_at hl 0 rfl) ?_
  refine lv_bipush (v := 8) hx hb dX4_init_77 (by decide) ?_
  refine g_newaI (N := 8) S hK w (t := 0) rfl (List.mem_of_getElem? (i := 4) rfl) (by decide) (by decide) (by decide) (Nat.le_of_ble_eq_true rfl) (Nat.le_of_ble_eq_true rfl) dX4_init_79 (fun q10 H w => ?_)
  refine g_putF (C := RX4) (T := TX4) (N := 25) S hK w (k := 0) (by decide) (fs := [.int 0, .int 0, .int 0, .int 0, .ref q1, .ref q2, .ref q3, .int 0, .int 0, .ref q4, .ref q5, .int 0, .ref q6, .ref q7, .ref q8, .ref q9, .null, .null, .null, .null, .null, .null, .null, .null, .int 0]) rfl rfl hinX4 tyX4 tyX4_ok nmX4 16 (by decide) (List.mem_of_getElem? (i := 14) rfl) rfl hin2 rfl (x := .ref q10) (ty := .array .int) (by decide +kernel) rfl rfl (by show _ < List.length _; exact Nat.le_of_ble_eq_true rfl) dX4_init_81 (fun H locs w => ?_)
  refine lv_aload_n hx hb dX4_init_84 rfl (lv_at hl 0 rfl) ?_
  refine lv_bipush (v := 8) hx hb dX4_init_85 (by decide) ?_
  refine g_newaI (N := 8) S hK w (t := 0) rfl (List.mem_of_getElem? (i := 4) rfl) (by decide) (by decide) (by decide) (Nat.le_of_ble_eq_true rfl) (Nat.le_of_ble_eq_true rfl) dX4_init_87 (fun q11 H w => ?_)
  refine g_putF (C := RX4) (T := TX4) (N := 25) S hK w (k := 0) (by decide) (fs := [.int 0, .int 0, .int 0, .int 0, .ref q1, .ref q2, .ref q3, .int 0, .int 0, .ref q4, .ref q5, .int 0, .ref q6, .ref q7, .ref q8, .ref q9, .ref q10, .null, .null, .null, .null, .null, .null, .null, .int 0]) rfl rfl hinX4 tyX4 tyX4_ok nmX4 17 (by decide) (List.mem_of_getElem? (i := 15) rfl) rfl hin2 rfl (x := .ref q11) (ty := .array .int) (by decide +kernel) rfl rfl (by show _ < List.length _; exact Nat.le_of_ble_eq_true rfl) dX4_init_89 (fun H locs w => ?_)
  refine lv_aload_n hx hb dX4_init_92 rfl (lv_at hl 0 rfl) ?_
  refine lv_bipush (v := 9) hx hb dX4_init_93 (by decide) ?_
  refine g_newaI (N := 9) S hK w (t := 0) rfl (List.mem_of_getElem? (i := 4) rfl) (by decide) (by decide) (by decide) (Nat.le_of_ble_eq_true rfl) (Nat.le_of_ble_eq_true rfl) dX4_init_95 (fun q12 H w => ?_)
  refine g_putF (C := RX4) (T := TX4) (N := 25) S hK w (k := 0) (by decide) (fs := [.int 0, .int 0, .int 0, .int 0, .ref q1, .ref q2, .ref q3, .int 0, .int 0, .ref q4, .ref q5, .int 0, .ref q6, .ref q7, .ref q8, .ref q9, .ref q10, .ref q11, .null, .null, .null, .null, .null, .null, .int 0]) rfl rfl hinX4 tyX4 tyX4_ok nmX4 18 (by decide) (List.mem_of_getElem? (i := 16) rfl) rfl hin2 rfl (x := .ref q12) (ty := .array .int) (by decide +kernel) rfl rfl (by show _ < List.length _; exact Nat.le_of_ble_eq_true rfl) dX4_init_97 (fun H locs w => ?_)
  refine lv_aload_n hx hb dX4_init_100 rfl (lv_at hl 0 rfl) ?_
  refine lv_bipush (v := 8) hx hb dX4_init_101 (by decide) ?_
  refine g_newaI (N := 8) S hK w (t := 0) rfl (List.mem_of_getElem? (i := 4) rfl) (by decide) (by decide) (by decide) (Nat.le_of_ble_eq_true rfl) (Nat.le_of_ble_eq_true rfl) dX4_init_103 (fun q13 H w => ?_)
  refine g_putF (C := RX4) (T := TX4) (N := 25) S hK w (k := 0) (by decide) (fs := [.int 0, .int 0, .int 0, .int 0, .ref q1, .ref q2, .ref q3, .int 0, .int 0, .ref q4, .ref q5, .int 0, .ref q6, .ref q7, .ref q8, .ref q9, .ref q10, .ref q11, .ref q12, .null, .null, .null, .null, .null, .int 0]) rfl rfl hinX4 tyX4 tyX4_ok nmX4 19 (by decide) (List.mem_of_getElem? (i := 17) rfl) rfl hin2 rfl (x := .ref q13) (ty := .array .int) (by decide +kernel) rfl rfl (by show _ < List.length _; exact Nat.le_of_ble_eq_true rfl) dX4_init_105 (fun H locs w => ?_)
  refine lv_aload_n hx hb dX4_init_108 rfl (lv_at hl 0 rfl) ?_
  refine lv_iconst (v := 4) hx hb dX4_init_109 (by decide) ?_
  refine g_newaI (N := 4) S hK w (t := 0) rfl (List.mem_of_getElem? (i := 4) rfl) (by decide) (by decide) (by decide) (Nat.le_of_ble_eq_true rfl) (Nat.le_of_ble_eq_true rfl) dX4_init_110 (fun q14 H w => ?_)
  refine g_putF (C := RX4) (T := TX4) (N := 25) S hK w (k := 0) (by decide) (fs := [.int 0, .int 0, .int 0, .int 0, .ref q1, .ref q2, .ref q3, .int 0, .int 0, .ref q4, .ref q5, .int 0, .ref q6, .ref q7, .ref q8, .ref q9, .ref q10, .ref q11, .ref q12, .ref q13, .null, .null, .null, .null, .int 0]) rfl rfl hinX4 tyX4 tyX4_ok nmX4 20 (by decide) (List.mem_of_getElem? (i := 18) rfl) rfl hin2 rfl (x := .ref q14) (ty := .array .int) (by decide +kernel) rfl rfl (by show _ < List.length _; exact Nat.le_of_ble_eq_true rfl) dX4_init_112 (fun H locs w => ?_)
  refine lv_aload_n hx hb dX4_init_115 rfl (lv_at hl 0 rfl) ?_
  refine lv_iconst (v := 4) hx hb dX4_init_116 (by decide) ?_
  refine g_newaI (N := 4) S hK w (t := 0) rfl (List.mem_of_getElem? (i := 4) rfl) (by decide) (by decide) (by decide) (Nat.le_of_ble_eq_true rfl) (Nat.le_of_ble_eq_true rfl) dX4_init_117 (fun q15 H w => ?_)
  refine g_putF (C := RX4) (T := TX4) (N := 25) S hK w (k := 0) (by decide) (fs := [.int 0, .int 0, .int 0, .int 0, .ref q1, .ref q2, .ref q3, .int 0, .int 0, .ref q4, .ref q5, .int 0, .ref q6, .ref q7, .ref q8, .ref q9, .ref q10, .ref q11, .ref q12, .ref q13, .ref q14, .null, .null, .null, .int 0]) rfl rfl hinX4 tyX4 tyX4_ok nmX4 21 (by decide) (List.mem_of_getElem? (i := 19) rfl) rfl hin2 rfl (x := .ref q15) (ty := .array .int) (by decide +kernel) rfl rfl (by show _ < List.length _; exact Nat.le_of_ble_eq_true rfl) dX4_init_119 (fun H locs w => ?_)
  refine lv_aload_n hx hb dX4_init_122 rfl (lv_at hl 0 rfl) ?_
  refine lv_sipush (v := 360) hx hb dX4_init_123 (by decide) ?_
  refine g_newaI (N := 360) S hK w (t := 0) rfl (List.mem_of_getElem? (i := 4) rfl) (by decide) (by decide) (by decide) (Nat.le_of_ble_eq_true rfl) (Nat.le_of_ble_eq_true rfl) dX4_init_126 (fun q16 H w => ?_)
  refine g_putF (C := RX4) (T := TX4) (N := 25) S hK w (k := 0) (by decide) (fs := [.int 0, .int 0, .int 0, .int 0, .ref q1, .ref q2, .ref q3, .int 0, .int 0, .ref q4, .ref q5, .int 0, .ref q6, .ref q7, .ref q8, .ref q9, .ref q10, .ref q11, .ref q12, .ref q13, .ref q14, .ref q15, .null, .null, .int 0]) rfl rfl hinX4 tyX4 tyX4_ok nmX4 22 (by decide) (List.mem_of_getElem? (i := 20) rfl) rfl hin2 rfl (x := .ref q16) (ty := .array .int) (by decide +kernel) rfl rfl (by show _ < List.length _; exact Nat.le_of_ble_eq_true rfl) dX4_init_128 (fun H locs w => ?_)
  refine lv_aload_n hx hb dX4_init_131 rfl (lv_at hl 0 rfl) ?_
  refine lv_bipush (v := 90) hx hb dX4_init_132 (by decide) ?_
  refine g_newaI (N := 90) S hK w (t := 0) rfl (List.mem_of_getElem? (i := 4) rfl) (by decide) (by decide) (by decide) (Nat.le_of_ble_eq_true rfl) (Nat.le_of_ble_eq_true rfl) dX4_init_134 (fun q17 H w => ?_)
  refine g_putF (C := RX4) (T := TX4) (N := 25) S hK w (k := 0) (by decide) (fs := [.int 0, .int 0, .int 0, .int 0, .ref q1, .ref q2, .ref q3, .int 0, .int 0, .ref q4, .ref q5, .int 0, .ref q6, .ref q7, .ref q8, .ref q9, .ref q10, .ref q11, .ref q12, .ref q13, .ref q14, .ref q15, .ref q16, .null, .int 0]) rfl rfl hinX4 tyX4 tyX4_ok nmX4 23 (by decide) (List.mem_of_getElem? (i := 21) rfl) rfl hin2 rfl (x := .ref q17) (ty := .array .int) (by decide +kernel) rfl rfl (by show _ < List.length _; exact Nat.le_of_ble_eq_true rfl) dX4_init_136 (fun H locs w => ?_)
  obtain ⟨ad, G, had0, hIM, w⟩ : ∃ (ad : Nat → Nat) (G : Nat → va_E), ad 0 = h0 ∧ IM cI 0 ad G ∧ CG 18 ad G D A s.heap H locs := ⟨_, _, rfl, ⟨rfl, fun c h1 h2 h3 => by rcases (show c = 1 ∨ c = 2 ∨ c = 3 ∨ c = 4 ∨ c = 5 ∨ c = 6 ∨ c = 7 ∨ c = 8 ∨ c = 9 ∨ c = 10 ∨ c = 11 ∨ c = 12 ∨ c = 13 ∨ c = 15 ∨ c = 16 ∨ c = 17 by omega) with rfl | rfl | rfl | rfl | rfl | rfl | rfl | rfl | rfl | rfl | rfl | rfl | rfl | rfl | rfl | rfl <;> rfl, rfl⟩, w⟩
  refine lv_iconst (v := 0) hx hb dX4_init_139 (by decide) ?_
  refine lv_istore_n (lv' := [(1, .int 0), (0, .ref h0)]) hx hb dX4_init_140 rfl hl (by decide) rfl (fun ls hl => ?_)
  have L : ∀ (n k : Nat), k ≤ 4 → 5 ≤ k + n → ∀ (ad : Nat → Nat) (G : Nat → va_E) (H : Heap) (locs : List Loc), ad 0 = h0 → IM cI k ad G → CG 18 ad G D A s.heap H locs → ∀ ls : Array Slot, lv_has ls 2 [(1, .int (nI k)), (0, .ref h0)] → W p l e (headSpec wsX4_init ({ frames := 1, cells := 17, slots := 692, locals := 12 } : Room)).room s m ([.ref h0] : List Value).toArray below meth c H locs 17 692 (MQ below (va_Qv (fun ad : Nat → Nat => ad 0 = h0) (fun ad t => va_P D vwCl (Wd 18 (eM ad) ad σM0) t.heap ∧ va_K D vwCl (tyM ad) t ∧ va_D A (Wd 18 (eM ad) ad σM0)) A) ([.ref h0] : List Value).toArray s 17 692 A) (F0 m 141 ls []) := by
    intro n
    induction n with
    | zero => intro k h1 h2; exact absurd h2 (by omega)
    | succ n ih =>
      intro k h1 h2 ad G H locs had0 hIM w ls hl
      refine lv_iload_n hx hb dX4_init_141 rfl (lv_at hl 0 rfl) ?_
      refine lv_iconst (v := 4) hx hb dX4_init_142 (by decide) ?_
      refine lv_icmp_ge (tgt := 159) hx hb dX4_init_143 (by decide) (fun c143 => ?_) (fun c143 => ?_)
      · have hk : k = 4 := by
          rcases Nat.lt_or_ge k 4 with q | q
          · exact absurd c143 (nI_ge q (by decide))
          · omega
        subst hk
        obtain ⟨hPw, hDw⟩ := IM_done hIM w
        have hKw : va_K D vwCl (tyM (zAdM ad cI)) s := hK
        exact W.vret hx hb hr (fun t ht hW => ⟨⟨zAdM ad cI, rfl, had0, by show va_P _ _ _ t.heap ∧ _; exact ⟨by rw [ht]; exact hPw, va_K.moved hW.alike hKw, hDw⟩⟩, w.2.2.1.F ht⟩) w.2.2.1.2.2 dX4_init_159 hlocks
      · have hk : k < 4 := by
          rcases Nat.lt_or_ge k 4 with q | q
          · exact q
          · exact absurd (nI_le q (by omega)) c143
        refine lv_aload_n hx hb dX4_init_146 rfl (lv_at hl 1 rfl) ?_
        refine W.eq (g2 := F0 m 147 ls [.ref (ad 0)]) (by rw [had0]) ?_
        refine g_get (C := RX4) (T := TX4) (N := 25) S hK w (k := 0) (by omega) hIM.1 rfl hinX4 20 (by decide) (List.mem_of_getElem? (i := 18) rfl) (v := .ref (ad 14)) rfl dX4_init_147 ?_
        refine lv_iload_n hx hb dX4_init_150 rfl (lv_at hl 0 rfl) ?_
        refine lv_iconst (v := -1) hx hb dX4_init_151 (by decide) ?_
        refine g_iast (k := 14) (cI := cI) (N := 4) (t := 0) S hK w (by omega) hIM.2.2 rfl (vp_in_nI hk (by decide)) dX4_init_152 (fun H locs w => ?_)
        rw [nI_clamp (show k < 2 ^ 31 by omega), fillF_step (show k < k + 1 by omega)] at w
        refine lv_iinc (v := nI (k + 1)) (lv' := [(1, .int (nI (k + 1))), (0, .ref h0)]) hx hb dX4_init_153 hl (k := 0) rfl (nI_1 k) (by decide) rfl (fun ls hl => ?_)
        refine lv_goto (tgt := 141) hx hb dX4_init_156 (by decide) ?_
        exact ih (k + 1) (by omega) (by omega) ad _ H locs had0 ⟨by rw [up2 (by omega)]; exact hIM.1, fun c h1 h2 h3 => by rw [up2 h3]; exact hIM.2.1 c h1 h2 h3, va_up_self _ _ _⟩ w ls hl
  refine L 5 0 (by omega) (by omega) ad G H locs had0 ⟨hIM.1, hIM.2.1, ?_⟩ w ls (by rw [nI_0]; exact hl)
  exact hIM.2.2
