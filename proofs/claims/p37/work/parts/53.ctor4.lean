/-! what the constructor made is the class's world -/
def zPi (c : Nat) : Nat := if c < 9 then c else if c < 13 then 9 + 2 * (c - 9) else if c < 17 then 10 + 2 * (c - 13) else if c < 25 then 17 + 2 * (c - 17) else if c < 33 then 18 + 2 * (c - 25) else c
theorem zPi_inj : ∀ i, i < 41 → ∀ j, j < 41 → zPi i = zPi j → i = j := by decide +kernel
theorem zPi_lt : ∀ i, i < 41 → zPi i < 41 := by decide +kernel
def zAd (ad : Nat → Nat) (cI cS cG cP : ClassId) (c : Nat) : Nat := if c < 41 then ad (zPi c) else if c = 100 then cI else if c = 101 then cS else if c = 102 then cG else cP
def σC0 : St := fun _ _ => 0
theorem refs_congr {cA : ClassId} {N : Nat} {f g : Nat → Option Nat} (h : ∀ j, j < N → f j = g j) : vp_cell cA (N, .inr (.inr (.inr (.inr f)))) = vp_cell cA (N, .inr (.inr (.inr (.inr g)))) := by
  rw [vp_cell_q, vp_cell_q]
  unfold arrV
  congr 1
  congr 1
  funext j
  show va_rf (f j.val) = va_rf (g j.val)
  rw [h j.val j.isLt]
theorem at_refs {D : va_G} {a : Nat} {cA : ClassId} {N : Nat} {f g : Nat → Option Nat} {H : Heap} (h : ∀ j, j < N → f j = g j) (q : va_at D vwCl (a, zRefs cA N f) H) : va_at D vwCl (a, zRefs cA N g) H := by
  show H[a]? = some (vp_cell cA (N, .inr (.inr (.inr (.inr g)))))
  rw [← refs_congr h]
  exact q
theorem IV_done {cI cS cG cP : ClassId} {ad : Nat → Nat} {G : Nat → va_E} {D : va_G} {A : Nat → Prop} {H0 H : Heap} {locs : List Loc} (h : IV cI cS cG cP 4 8 8 ad G) (w : CG 41 ad G D A H0 H locs) :
    va_P D vwCl (Wd 41 (eC (zAd ad cI cS cG cP)) (zAd ad cI cS cG cP) σC0) H ∧ va_D A (Wd 41 (eC (zAd ad cI cS cG cP)) (zAd ad cI cS cG cP) σC0) := by
  obtain ⟨h0, ⟨f1, e1, g1⟩, ⟨f2, e2, g2⟩, ⟨f3, e3, g3⟩, ⟨e4, e5, e6, e7, e8⟩, hs, hg, hp⟩ := h
  have hz : ∀ c, c < 41 → zAd ad cI cS cG cP c = ad (zPi c) := fun c hc => if_pos hc
  have hat : ∀ c, c < 41 → va_at D vwCl (ad (zPi c), G (zPi c)) H := fun c hc => w.1 (zPi c) _ (Wg_get (zPi_lt c hc))
  constructor
  · intro c q hc
    obtain ⟨hcn, rfl⟩ := Wd_get_inv hc
    rw [hz c hcn]
    have ha := hat c hcn
    by_cases h9 : c < 9
    · have hpi : zPi c = c := if_pos h9
      rw [hpi] at ha ⊢
      rcases (show c = 0 ∨ c = 1 ∨ c = 2 ∨ c = 3 ∨ c = 4 ∨ c = 5 ∨ c = 6 ∨ c = 7 ∨ c = 8 by omega) with rfl | rfl | rfl | rfl | rfl | rfl | rfl | rfl | rfl
      · rw [h0] at ha; exact ha
      · rw [e1] at ha
        exact at_refs (g := fun j => some (zAd ad cI cS cG cP (9 + j))) (fun j hj => by
          rw [g1 j hj, hz _ (by omega)]
          congr 2
          unfold zPi
          rw [if_neg (by omega), if_pos (by omega)]
          omega) ha
      · rw [e2] at ha
        exact at_refs (g := fun j => some (zAd ad cI cS cG cP (17 + j))) (fun j hj => by
          rw [g2 j hj, hz _ (by omega)]
          congr 2
          unfold zPi
          rw [if_neg (by omega), if_neg (by omega), if_neg (by omega), if_pos (by omega)]
          omega) ha
      · rw [e3] at ha
        exact at_refs (g := fun j => some (zAd ad cI cS cG cP (33 + j))) (fun j hj => by
          rw [g3 j hj, hz _ (by omega)]
          congr 2
          unfold zPi
          rw [if_neg (by omega), if_neg (by omega), if_neg (by omega), if_neg (by omega), if_neg (by omega)]) ha
      · rw [e4] at ha; exact ha
      · rw [e5] at ha; exact ha
      · rw [e6] at ha; exact ha
      · rw [e7] at ha; exact ha
      · rw [e8] at ha; exact ha
    · by_cases h13 : c < 13
      · obtain ⟨j, rfl⟩ : ∃ j, c = 9 + j := ⟨c - 9, by omega⟩
        have hpi : zPi (9 + j) = 9 + 2 * j := by
          unfold zPi
          rw [if_neg (by omega), if_pos (by omega)]
          omega
        rw [hpi] at ha ⊢
        rw [(hs j (by omega)).1] at ha
        rw [eC_sh _ (by omega)]
        have h2 : zAd ad cI cS cG cP (13 + j) = ad (10 + 2 * j) := by
          rw [hz _ (by omega)]
          congr 1
          unfold zPi
          rw [if_neg (by omega), if_neg (by omega), if_pos (by omega)]
          omega
        unfold fsSh
        rw [h2]
        have h3 : σC0 (9 + j) = fun _ => 0 := rfl
        rw [h3]
        exact ha
      · by_cases h17 : c < 17
        · obtain ⟨j, rfl⟩ : ∃ j, c = 13 + j := ⟨c - 13, by omega⟩
          have hpi : zPi (13 + j) = 10 + 2 * j := by
            unfold zPi
            rw [if_neg (by omega), if_neg (by omega), if_pos (by omega)]
            omega
          rw [hpi] at ha ⊢
          rw [(hs j (by omega)).2] at ha
          rw [eC_sc _ (by omega)]
          have h3 : σC0 (13 + j) = fun _ => 0 := rfl
          rw [h3]
          exact ha
        · by_cases h25 : c < 25
          · obtain ⟨j, rfl⟩ : ∃ j, c = 17 + j := ⟨c - 17, by omega⟩
            have hpi : zPi (17 + j) = 17 + 2 * j := by
              unfold zPi
              rw [if_neg (by omega), if_neg (by omega), if_neg (by omega), if_pos (by omega)]
              omega
            rw [hpi] at ha ⊢
            rw [(hg j (by omega)).1] at ha
            rw [eC_sg _ (by omega)]
            have h2 : zAd ad cI cS cG cP (25 + j) = ad (18 + 2 * j) := by
              rw [hz _ (by omega)]
              congr 1
              unfold zPi
              rw [if_neg (by omega), if_neg (by omega), if_neg (by omega), if_neg (by omega), if_pos (by omega)]
              omega
            unfold fsSg
            rw [h2]
            have h3 : σC0 (17 + j) = fun _ => 0 := rfl
            rw [h3]
            exact ha
          · by_cases h33 : c < 33
            · obtain ⟨j, rfl⟩ : ∃ j, c = 25 + j := ⟨c - 25, by omega⟩
              have hpi : zPi (25 + j) = 18 + 2 * j := by
                unfold zPi
                rw [if_neg (by omega), if_neg (by omega), if_neg (by omega), if_neg (by omega), if_pos (by omega)]
                omega
              rw [hpi] at ha ⊢
              rw [(hg j (by omega)).2] at ha
              rw [eC_st _ (by omega)]
              have h3 : σC0 (25 + j) = fun _ => 0 := rfl
              rw [h3]
              exact ha
            · obtain ⟨j, rfl⟩ : ∃ j, c = 33 + j := ⟨c - 33, by omega⟩
              have hpi : zPi (33 + j) = 33 + j := by
                unfold zPi
                rw [if_neg (by omega), if_neg (by omega), if_neg (by omega), if_neg (by omega), if_neg (by omega)]
              rw [hpi] at ha ⊢
              rw [hp j (by omega)] at ha
              rw [eC_pa _ (by omega)]
              have h3 : σC0 (33 + j) = fun _ => 0 := rfl
              rw [h3]
              exact ha
  · refine ⟨fun i j p q hi hj hpq => ?_, fun c q hc => ?_⟩
    · obtain ⟨li, rfl⟩ := Wd_get_inv hi
      obtain ⟨lj, rfl⟩ := Wd_get_inv hj
      have h1 : zAd ad cI cS cG cP i = zAd ad cI cS cG cP j := hpq
      rw [hz i li, hz j lj] at h1
      exact zPi_inj i li j lj (w.2.1.1 _ _ _ _ (Wg_get (zPi_lt i li)) (Wg_get (zPi_lt j lj)) h1)
    · obtain ⟨lc, rfl⟩ := Wd_get_inv hc
      show A (zAd ad cI cS cG cP c)
      rw [hz c lc]
      exact w.2.1.2 _ _ (Wg_get (zPi_lt c lc))
def zNull : List Value := [.null, .null, .null, .null, .int 0, .int 0, .int 0, .int 0, .int 0, .int 0, .null, .null, .null, .null]
def AO3 (U : State) : Prop := va_AO "NineSmells$Sheet" U ∧ va_AO "NineSmells$Sign" U ∧ va_AO "NineSmells$Paper" U
def PreC3 (D : va_G) (h0 sz : Nat) : Array Value → State → Prop :=
  va_Pc [.ref h0] (fun U => U.heap.size = sz ∧ va_P D vwCl [(h0, .inr (3, zNull))] U.heap ∧ va_K D vwCl [] U ∧ NW U ∧ AO3 U)
theorem PreC3.blind {D : va_G} {h0 sz : Nat} : FrameBlind (PreC3 D h0 sz) := by
  intro a U g mk q
  obtain ⟨q0, q1, qP, qK, qN, qA⟩ := q
  exact ⟨q0, q1, qP, va_K.moved (u := U) (U := U.calling g mk a) (Vm.Alike.refl U.vm) qK, qN.same rfl, va_AO.moved (u := U) (U := U.calling g mk a) (Vm.Alike.refl U.vm) qA.1, va_AO.moved (u := U) (U := U.calling g mk a) (Vm.Alike.refl U.vm) qA.2.1, va_AO.moved (u := U) (U := U.calling g mk a) (Vm.Alike.refl U.vm) qA.2.2⟩
def PostC3 (D : va_G) (h0 sz : Nat) : Array Value → State → Outcome → State → Prop :=
  va_Qv (fun ad : Nat → Nat => ad 0 = h0) (fun ad t => va_P D vwCl (Wd 41 (eC ad) ad σC0) t.heap ∧ va_K D vwCl (tyC ad) t ∧ va_D (va_A [(h0, .inr (3, zNull))] sz) (Wd 41 (eC ad) ad σC0)) (va_A [(h0, .inr (3, zNull))] sz)
set_option maxHeartbeats 8000000 in
set_option maxRecDepth 100000 in
theorem c_X3_init (l : Launch) (D : va_G) (h0 sz : Nat) : Met l yX3_init wsX3_init ({ frames := 2, cells := 40, slots := 580, locals := 40 } : Room) (PreC3 D h0 sz) (PostC3 D h0 sz) 40 580 (va_A [(h0, .inr (3, zNull))] sz) := by
  refine Met.ofW (cc := cX3_init) (maxL := 2) (ret := none) (by decide) rfl ?_
  intro p e s m args below meth c s₁ B hml hv
  obtain ⟨rfl, hsz, hP, hK, hN, hA3⟩ := hv
  have hts := atoms_spec (ws := wsX3_init) B.pre
  have hown : s.vm.findClass RX3 = some m.cls := findClass_of_methodNamed B.named
  have hin2 : meth.name = "<init>" := (name_of_methodNamed B.named B.method).1
  have hr := B.returns
  have hlocks := B.notSynchronized
  have S : CallFix p m c cX3_init 2 s ([.ref h0] : List Value).toArray wsX3_init RX3 := ⟨B.exec, B.bytes, hml, hown, hts⟩
  have hx := S.1
  have hb := S.2.1
  have z0 : (0 : Int32).toInt = 0 := by decide
  have hl := lv_entry ([.ref h0]) (n := 2) (Nat.le_of_ble_eq_true rfl)
  rw [lg_entry_eq]
  generalize (lg_sl ([.ref h0]) ++ List.replicate (2 - (lg_sl ([.ref h0])).length) Slot.unset).toArray = ls at hl ⊢
  have hl : lv_has ls 2 [(0, .ref h0)] := hl
  have hinX3 : ∀ w ∈ wsX30, w ∈ wsX3_init := (fun _ h => List.mem_cons_of_mem _ (List.mem_append_left _ (List.mem_append_left _ (List.mem_append_left _ (List.mem_append_right _ h)))))
  have hinX1 : ∀ w ∈ wsX10, w ∈ wsX3_init := (fun _ h => List.mem_cons_of_mem _ (List.mem_append_left _ (List.mem_append_left _ (List.mem_append_right _ h))))
  have hinX2 : ∀ w ∈ wsX20, w ∈ wsX3_init := (fun _ h => List.mem_cons_of_mem _ (List.mem_append_left _ (List.mem_append_right _ h)))
  have hinX0 : ∀ w ∈ wsX00, w ∈ wsX3_init := (fun _ h => List.mem_cons_of_mem _ (List.mem_append_right _ h))
  unfold PostC3
  generalize hA : va_A [(h0, .inr (3, zNull))] sz = A
  have w : CG 1 (fun _ => h0) (fun _ => .inr (3, zNull)) D A s.heap s.heap [] := ⟨hP, ⟨fun i j p q hi hj _ => by
    have h1 := (Wg_inv hi).1
    have h2 := (Wg_inv hj).1
    omega, fun k q hk => by
    obtain ⟨h1, rfl⟩ := Wg_inv hk
    rw [← hA]
    exact Or.inl ⟨0, _, rfl⟩⟩, va_S.rf, fun q hq => by
    rw [← hA, ← hsz]
    exact Or.inr hq⟩
  refine lv_aload_n hx hb dX3_init_0 rfl (lv_at hl 0 rfl) ?_
  refine W.objInit hx hb S.2.2.2.1 (S.2.2.2.2 _ (List.mem_of_getElem? (i := 1) rfl)) (S.2.2.2.2 _ (List.mem_of_getElem? (i := 2) rfl)) (S.2.2.2.2 _ (List.mem_of_getElem? (i := 3) rfl)) rfl (by rw [S.2.2.1]; exact hl.1) rfl dX3_init_1 (Nat.le_of_ble_eq_true rfl) (Nat.le_of_ble_eq_true rfl) ?_
  refine W.eq (g2 := F0 m 4 ls []) rfl ?_
  refine lv_aload_n hx hb dX3_init_4 rfl (lv_at hl 0 rfl) ?_
  refine lv_iconst (v := 4) hx hb dX3_init_5 (by decide) ?_
  refine g_newq (C := "NineSmells$Sheet") (N := 4) S hK w (List.mem_of_getElem? (i := 4) rfl) hA3.1 (by decide) (by decide) (by decide) (Nat.le_of_ble_eq_true rfl) (Nat.le_of_ble_eq_true rfl) dX3_init_6 (fun q1 cS H hK w => ?_)
  refine g_putF (C := RX3) (T := TX3) (N := 14) S hK w (k := 0) (by decide) (fs := [.null, .null, .null, .null, .int 0, .int 0, .int 0, .int 0, .int 0, .int 0, .null, .null, .null, .null]) rfl rfl hinX3 tyX3 tyX3_ok nmX3 0 (by decide) (List.mem_of_getElem? (i := 5) rfl) rfl hin2 rfl (x := .ref q1) (ty := .array (.object "NineSmells$Sheet")) (by decide +kernel) rfl rfl (by show _ < List.length _; exact Nat.le_of_ble_eq_true rfl) dX3_init_9 (fun H locs w => ?_)
  refine lv_aload_n hx hb dX3_init_12 rfl (lv_at hl 0 rfl) ?_
  refine lv_bipush (v := 8) hx hb dX3_init_13 (by decide) ?_
  refine g_newq (C := "NineSmells$Sign") (N := 8) S hK w (List.mem_of_getElem? (i := 6) rfl) hA3.2.1 (by decide) (by decide) (by decide) (Nat.le_of_ble_eq_true rfl) (Nat.le_of_ble_eq_true rfl) dX3_init_15 (fun q2 cG H hK w => ?_)
  refine g_putF (C := RX3) (T := TX3) (N := 14) S hK w (k := 0) (by decide) (fs := [.ref q1, .null, .null, .null, .int 0, .int 0, .int 0, .int 0, .int 0, .int 0, .null, .null, .null, .null]) rfl rfl hinX3 tyX3 tyX3_ok nmX3 1 (by decide) (List.mem_of_getElem? (i := 7) rfl) rfl hin2 rfl (x := .ref q2) (ty := .array (.object "NineSmells$Sign")) (by decide +kernel) rfl rfl (by show _ < List.length _; exact Nat.le_of_ble_eq_true rfl) dX3_init_18 (fun H locs w => ?_)
  refine lv_aload_n hx hb dX3_init_21 rfl (lv_at hl 0 rfl) ?_
  refine lv_bipush (v := 8) hx hb dX3_init_22 (by decide) ?_
  refine g_newq (C := "NineSmells$Paper") (N := 8) S hK w (List.mem_of_getElem? (i := 8) rfl) hA3.2.2 (by decide) (by decide) (by decide) (Nat.le_of_ble_eq_true rfl) (Nat.le_of_ble_eq_true rfl) dX3_init_24 (fun q3 cP H hK w => ?_)
  refine g_putF (C := RX3) (T := TX3) (N := 14) S hK w (k := 0) (by decide) (fs := [.ref q1, .ref q2, .null, .null, .int 0, .int 0, .int 0, .int 0, .int 0, .int 0, .null, .null, .null, .null]) rfl rfl hinX3 tyX3 tyX3_ok nmX3 2 (by decide) (List.mem_of_getElem? (i := 9) rfl) rfl hin2 rfl (x := .ref q3) (ty := .array (.object "NineSmells$Paper")) (by decide +kernel) rfl rfl (by show _ < List.length _; exact Nat.le_of_ble_eq_true rfl) dX3_init_27 (fun H locs w => ?_)
  refine lv_aload_n hx hb dX3_init_30 rfl (lv_at hl 0 rfl) ?_
  refine lv_bipush (v := 9) hx hb dX3_init_31 (by decide) ?_
  refine g_newa (N := 9) S hK w (List.mem_of_getElem? (i := 10) rfl) (by decide) (by decide) (by decide) (Nat.le_of_ble_eq_true rfl) (Nat.le_of_ble_eq_true rfl) dX3_init_33 (fun q4 cI H hK w => ?_)
  have hK : va_K D vwCl (([] ++ [(cS, .object "NineSmells$Sheet")]) ++ [(cG, .object "NineSmells$Sign")] ++ [(cP, .object "NineSmells$Paper")] ++ [(cI, .int)]) s := hK
  refine g_putF (C := RX3) (T := TX3) (N := 14) S hK w (k := 0) (by decide) (fs := [.ref q1, .ref q2, .ref q3, .null, .int 0, .int 0, .int 0, .int 0, .int 0, .int 0, .null, .null, .null, .null]) rfl rfl hinX3 tyX3 tyX3_ok nmX3 3 (by decide) (List.mem_of_getElem? (i := 11) rfl) rfl hin2 rfl (x := .ref q4) (ty := .array .int) (by decide +kernel) rfl rfl (by show _ < List.length _; exact Nat.le_of_ble_eq_true rfl) dX3_init_35 (fun H locs w => ?_)
  refine lv_aload_n hx hb dX3_init_38 rfl (lv_at hl 0 rfl) ?_
  refine lv_bipush (v := 9) hx hb dX3_init_39 (by decide) ?_
  refine g_newaI (N := 9) S hK w (t := 3) rfl (List.mem_of_getElem? (i := 10) rfl) (by decide) (by decide) (by decide) (Nat.le_of_ble_eq_true rfl) (Nat.le_of_ble_eq_true rfl) dX3_init_41 (fun q5 H w => ?_)
  refine g_putF (C := RX3) (T := TX3) (N := 14) S hK w (k := 0) (by decide) (fs := [.ref q1, .ref q2, .ref q3, .ref q4, .int 0, .int 0, .int 0, .int 0, .int 0, .int 0, .null, .null, .null, .null]) rfl rfl hinX3 tyX3 tyX3_ok nmX3 10 (by decide) (List.mem_of_getElem? (i := 12) rfl) rfl hin2 rfl (x := .ref q5) (ty := .array .int) (by decide +kernel) rfl rfl (by show _ < List.length _; exact Nat.le_of_ble_eq_true rfl) dX3_init_43 (fun H locs w => ?_)
  refine lv_aload_n hx hb dX3_init_46 rfl (lv_at hl 0 rfl) ?_
  refine lv_bipush (v := 9) hx hb dX3_init_47 (by decide) ?_
  refine g_newaI (N := 9) S hK w (t := 3) rfl (List.mem_of_getElem? (i := 10) rfl) (by decide) (by decide) (by decide) (Nat.le_of_ble_eq_true rfl) (Nat.le_of_ble_eq_true rfl) dX3_init_49 (fun q6 H w => ?_)
  refine g_putF (C := RX3) (T := TX3) (N := 14) S hK w (k := 0) (by decide) (fs := [.ref q1, .ref q2, .ref q3, .ref q4, .int 0, .int 0, .int 0, .int 0, .int 0, .int 0, .ref q5, .null, .null, .null]) rfl rfl hinX3 tyX3 tyX3_ok nmX3 11 (by decide) (List.mem_of_getElem? (i := 13) rfl) rfl hin2 rfl (x := .ref q6) (ty := .array .int) (by decide +kernel) rfl rfl (by show _ < List.length _; exact Nat.le_of_ble_eq_true rfl) dX3_init_51 (fun H locs w => ?_)
  refine lv_aload_n hx hb dX3_init_54 rfl (lv_at hl 0 rfl) ?_
  refine lv_bipush (v := 8) hx hb dX3_init_55 (by decide) ?_
  refine g_newaI (N := 8) S hK w (t := 3) rfl (List.mem_of_getElem? (i := 10) rfl) (by decide) (by decide) (by decide) (Nat.le_of_ble_eq_true rfl) (Nat.le_of_ble_eq_true rfl) dX3_init_57 (fun q7 H w => ?_)
  refine g_putF (C := RX3) (T := TX3) (N := 14) S hK w (k := 0) (by decide) (fs := [.ref q1, .ref q2, .ref q3, .ref q4, .int 0, .int 0, .int 0, .int 0, .int 0, .int 0, .ref q5, .ref q6, .null, .null]) rfl rfl hinX3 tyX3 tyX3_ok nmX3 12 (by decide) (List.mem_of_getElem? (i := 14) rfl) rfl hin2 rfl (x := .ref q7) (ty := .array .int) (by decide +kernel) rfl rfl (by show _ < List.length _; exact Nat.le_of_ble_eq_true rfl) dX3_init_59 (fun H locs w => ?_)
  refine lv_aload_n hx hb dX3_init_62 rfl (lv_at hl 0 rfl) ?_
  refine lv_iconst (v := 5) hx hb dX3_init_63 (by decide) ?_
  refine g_newaI (N := 5) S hK w (t := 3) rfl (List.mem_of_getElem? (i := 10) rfl) (by decide) (by decide) (by decide) (Nat.le_of_ble_eq_true rfl) (Nat.le_of_ble_eq_true rfl) dX3_init_64 (fun q8 H w => ?_)
  refine g_putF (C := RX3) (T := TX3) (N := 14) S hK w (k := 0) (by decide) (fs := [.ref q1, .ref q2, .ref q3, .ref q4, .int 0, .int 0, .int 0, .int 0, .int 0, .int 0, .ref q5, .ref q6, .ref q7, .null]) rfl rfl hinX3 tyX3 tyX3_ok nmX3 13 (by decide) (List.mem_of_getElem? (i := 15) rfl) rfl hin2 rfl (x := .ref q8) (ty := .array .int) (by decide +kernel) rfl rfl (by show _ < List.length _; exact Nat.le_of_ble_eq_true rfl) dX3_init_66 (fun H locs w => ?_)
  obtain ⟨ad, G, had0, hIV, w⟩ : ∃ (ad : Nat → Nat) (G : Nat → va_E), ad 0 = h0 ∧ IV cI cS cG cP 0 0 0 ad G ∧ CG 9 ad G D A s.heap H locs := ⟨_, _, rfl, ⟨rfl, ⟨_, rfl, fun j hj => absurd hj (Nat.not_lt_zero _)⟩, ⟨_, rfl, fun j hj => absurd hj (Nat.not_lt_zero _)⟩, ⟨_, rfl, fun j hj => absurd hj (Nat.not_lt_zero _)⟩, ⟨rfl, rfl, rfl, rfl, rfl⟩, fun j hj => absurd hj (Nat.not_lt_zero _), fun j hj => absurd hj (Nat.not_lt_zero _), fun j hj => absurd hj (Nat.not_lt_zero _)⟩, w⟩
  refine lv_iconst (v := 0) hx hb dX3_init_69 (by decide) ?_
  refine lv_istore_n (lv' := [(1, .int 0), (0, .ref h0)]) hx hb dX3_init_70 rfl hl (by decide) rfl (fun ls hl => ?_)
  have hK : va_K D vwCl [(cS, .object "NineSmells$Sheet"), (cG, .object "NineSmells$Sign"), (cP, .object "NineSmells$Paper"), (cI, .int)] s := hK
  have LP : ∀ (n k : Nat), k ≤ 8 → 8 + 1 ≤ k + n → ∀ (ad : Nat → Nat) (G : Nat → va_E) (H : Heap) (locs : List Loc), ad 0 = h0 → IV cI cS cG cP 4 8 k ad G → CG (33 + k) ad G D A s.heap H locs → ∀ ls : Array Slot, lv_has ls 2 [(1, .int (nI k)), (0, .ref h0)] → W p l e (headSpec wsX3_init ({ frames := 2, cells := 40, slots := 580, locals := 40 } : Room)).room s m ([.ref h0] : List Value).toArray below meth c H locs (32 + k) (532 + 6 * k) (MQ below (va_Qv (fun ad : Nat → Nat => ad 0 = h0) (fun ad t => va_P D vwCl (Wd 41 (eC ad) ad σC0) t.heap ∧ va_K D vwCl (tyC ad) t ∧ va_D A (Wd 41 (eC ad) ad σC0)) A) ([.ref h0] : List Value).toArray s 40 580 A) (F0 m 124 ls []) := by
    intro n
    induction n with
    | zero => intro k h1 h2; exact absurd h2 (by omega)
    | succ n ih =>
      intro k h1 h2 ad G H locs had0 hIV w ls hl
      refine lv_iload_n hx hb dX3_init_124 rfl (lv_at hl 0 rfl) ?_
      refine lv_bipush (v := 8) hx hb dX3_init_125 (by decide) ?_
      refine lv_icmp_ge (tgt := 149) hx hb dX3_init_127 (by decide) (fun c127 => ?_) (fun c127 => ?_)
      · have hk : k = 8 := by
          rcases Nat.lt_or_ge k 8 with q | q
          · exact absurd c127 (nI_ge q (by decide))
          · omega
        subst hk
        obtain ⟨hPw, hDw⟩ := IV_done hIV w
        have hKw : va_K D vwCl (tyC (zAd ad cI cS cG cP)) s := hK.sub [3, 0, 1, 2] rfl
        refine W.widen (k := 40) (n := 580) (by omega) (by omega) ?_
        exact W.vret hx hb hr (fun t ht hW => ⟨⟨zAd ad cI cS cG cP, rfl, had0, by show va_P _ _ _ t.heap ∧ _; exact ⟨by rw [ht]; exact hPw, va_K.moved hW.alike hKw, hDw⟩⟩, w.2.2.1.F ht⟩) w.2.2.1.2.2 dX3_init_149 hlocks
      · have hk : k < 8 := by
          rcases Nat.lt_or_ge k 8 with q | q
          · exact q
          · exact absurd (nI_le q (by omega)) c127
        refine lv_aload_n hx hb dX3_init_130 rfl (lv_at hl 1 rfl) ?_
        refine W.eq (g2 := F0 m 131 ls [.ref (ad 0)]) (by rw [had0]) ?_
        refine g_get (C := RX3) (T := TX3) (N := 14) S hK w (k := 0) (by omega) hIV.1 rfl hinX3 2 (by decide) (List.mem_of_getElem? (i := 9) rfl) (v := .ref (ad 3)) rfl dX3_init_131 ?_
        refine lv_iload_n hx hb dX3_init_134 rfl (lv_at hl 0 rfl) ?_
        obtain ⟨f, hf, hfj⟩ := hIV.2.2.2.1
        refine g_new (C := RX0) (T := TX0) (N := 6) (ci := 0) (fs := [.int 0, .int 0, .int 0, .int 0, .int 0, .int 0]) S hK w hinX0 tyX0 tyX0_ok (List.mem_of_getElem? (i := 8) rfl) (List.mem_of_getElem? (i := 20) rfl) (List.mem_of_getElem? (i := 21) rfl) rfl (fun j hj => by rcases (show j = 0 ∨ j = 1 ∨ j = 2 ∨ j = 3 ∨ j = 4 ∨ j = 5 by omega) with rfl | rfl | rfl | rfl | rfl | rfl <;> rfl) (by show _ ≤ 40; omega) (by show _ ≤ 580; omega) dX3_init_135 (fun q H w => ?_)
        refine lv_dup hx hb dX3_init_138 rfl ?_
        refine W.eq (g2 := F0 m 139 ls [.ref (va_up ad (33 + k) q (33 + k)), .ref (va_up ad (33 + k) q (33 + k)), .int (nI k), .ref (ad 3)]) (by rw [va_up_self]) ?_
        refine g_call0 S hl.1 (c_X0_init l (va_up ad (33 + k) q (33 + k))) ⟨va_cnB 0 S.2.2.2.2 gX3_init_X0_init_n47 rfl rfl rfl (hN.m 2 rfl) (S.2.2.2.2 _ (List.mem_of_getElem? (i := 21) rfl)) hd_X0_init ⟨Nat.le_of_ble_eq_true rfl, Nat.le_of_ble_eq_true rfl⟩, rfl, S.2.2.2.2 _ (List.mem_of_getElem? (i := 30) rfl)⟩ (lv_room (m := m) (pc := 0) (ls := ls) (rest := []) (Nat.le_of_ble_eq_true rfl)) dX3_init_139 ⟨by show _ ≤ 40; omega, by show _ ≤ 580; omega⟩ ?_
        refine W.eq (g2 := F0 m 142 ls [.ref ((va_up ad (33 + k) q) (33 + k)), .int (nI k), .ref ((va_up ad (33 + k) q) 3)]) (by rw [up2 (show 3 ≠ 33 + k by omega)]) ?_
        refine g_aast (k := 3) (k2 := 33 + k) (cA := cP) (N := 8) (t := 2) (ci := 0) (f := f) S hK w (by omega) (by omega) (by rw [up2 (by omega)]; exact hf) rfl (va_up_self _ _ _) rfl (vp_in_nI hk (by decide)) dX3_init_142 (fun H locs w => ?_)
        rw [nI_clamp (show k < 2 ^ 31 by omega)] at w
        refine lv_iinc (v := nI (k + 1)) (lv' := [(1, .int (nI (k + 1))), (0, .ref h0)]) hx hb dX3_init_143 hl (k := 0) rfl (nI_1 k) (by decide) rfl (fun ls hl => ?_)
        refine lv_goto (tgt := 124) hx hb dX3_init_146 (by decide) ?_
        have hIV2 := IV_paper hIV hf hfj q
        have e1 : va_up ad (33 + k) q (33 + k) = q := va_up_self _ _ _
        rw [e1] at w
        refine W.widen (k := 32 + (k + 1)) (n := 532 + 6 * (k + 1)) (by omega) (by omega) ?_
        exact ih (k + 1) (by omega) (by omega) _ _ H locs (by rw [up2 (by omega)]; exact had0) hIV2 w ls hl
  have LG : ∀ (n k : Nat), k ≤ 8 → 8 + 1 ≤ k + n → ∀ (ad : Nat → Nat) (G : Nat → va_E) (H : Heap) (locs : List Loc), ad 0 = h0 → IV cI cS cG cP 4 k 0 ad G → CG (17 + 2 * k) ad G D A s.heap H locs → ∀ ls : Array Slot, lv_has ls 2 [(1, .int (nI k)), (0, .ref h0)] → W p l e (headSpec wsX3_init ({ frames := 2, cells := 40, slots := 580, locals := 40 } : Room)).room s m ([.ref h0] : List Value).toArray below meth c H locs (16 + 2 * k) (436 + 12 * k) (MQ below (va_Qv (fun ad : Nat → Nat => ad 0 = h0) (fun ad t => va_P D vwCl (Wd 41 (eC ad) ad σC0) t.heap ∧ va_K D vwCl (tyC ad) t ∧ va_D A (Wd 41 (eC ad) ad σC0)) A) ([.ref h0] : List Value).toArray s 40 580 A) (F0 m 97 ls []) := by
    intro n
    induction n with
    | zero => intro k h1 h2; exact absurd h2 (by omega)
    | succ n ih =>
      intro k h1 h2 ad G H locs had0 hIV w ls hl
      refine lv_iload_n hx hb dX3_init_97 rfl (lv_at hl 0 rfl) ?_
      refine lv_bipush (v := 8) hx hb dX3_init_98 (by decide) ?_
      refine lv_icmp_ge (tgt := 122) hx hb dX3_init_100 (by decide) (fun c100 => ?_) (fun c100 => ?_)
      · have hk : k = 8 := by
          rcases Nat.lt_or_ge k 8 with q | q
          · exact absurd c100 (nI_ge q (by decide))
          · omega
        subst hk
        refine lv_iconst (v := 0) hx hb dX3_init_122 (by decide) ?_
        refine lv_istore_n (lv' := [(1, .int 0), (0, .ref h0)]) hx hb dX3_init_123 rfl hl (by decide) rfl (fun ls hl => ?_)
        exact LP 9 0 (by omega) (by omega) ad G H locs had0 hIV w ls (by rw [nI_0]; exact hl)
      · have hk : k < 8 := by
          rcases Nat.lt_or_ge k 8 with q | q
          · exact q
          · exact absurd (nI_le q (by omega)) c100
        refine lv_aload_n hx hb dX3_init_103 rfl (lv_at hl 1 rfl) ?_
        refine W.eq (g2 := F0 m 104 ls [.ref (ad 0)]) (by rw [had0]) ?_
        refine g_get (C := RX3) (T := TX3) (N := 14) S hK w (k := 0) (by omega) hIV.1 rfl hinX3 1 (by decide) (List.mem_of_getElem? (i := 7) rfl) (v := .ref (ad 2)) rfl dX3_init_104 ?_
        refine lv_iload_n hx hb dX3_init_107 rfl (lv_at hl 0 rfl) ?_
        obtain ⟨f, hf, hfj⟩ := hIV.2.2.1
        refine g_new (C := RX2) (T := TX2) (N := 3) (ci := 2) (fs := [.int 0, .int 0, .null]) S hK w hinX2 tyX2 tyX2_ok (List.mem_of_getElem? (i := 6) rfl) (List.mem_of_getElem? (i := 18) rfl) (List.mem_of_getElem? (i := 19) rfl) rfl (fun j hj => by rcases (show j = 0 ∨ j = 1 ∨ j = 2 by omega) with rfl | rfl | rfl <;> rfl) (by show _ ≤ 40; omega) (by show _ ≤ 580; omega) dX3_init_108 (fun q H w => ?_)
        refine lv_dup hx hb dX3_init_111 rfl ?_
        refine W.eq (g2 := F0 m 112 ls [.ref (va_up ad (17 + 2 * k) q (17 + 2 * k)), .ref (va_up ad (17 + 2 * k) q (17 + 2 * k)), .int (nI k), .ref (ad 2)]) (by rw [va_up_self]) ?_
        refine g_callI (N := 9) (t := 3) S hl.1 hK w (k := 17 + 2 * k) (by omega) (va_up_self _ _ _) rfl (c_X2_init l D (va_up ad (17 + 2 * k) q (17 + 2 * k)) H.size cI) ⟨va_cnB 0 S.2.2.2.2 gX3_init_X2_init_n46 rfl rfl rfl (hN.m 1 rfl) (S.2.2.2.2 _ (List.mem_of_getElem? (i := 19) rfl)) hd_X2_init ⟨Nat.le_of_ble_eq_true rfl, Nat.le_of_ble_eq_true rfl⟩, rfl, S.2.2.2.2 _ (List.mem_of_getElem? (i := 26) rfl)⟩ (lv_room (m := m) (pc := 0) (ls := ls) (rest := []) (Nat.le_of_ble_eq_true rfl)) dX3_init_112 ⟨by show _ ≤ 40; omega, by show _ ≤ 580; omega⟩ (fun q2 H locs w => ?_)
        refine W.eq (g2 := F0 m 115 ls [.ref ((va_up (va_up ad (17 + 2 * k) q) (17 + 2 * k + 1) q2) (17 + 2 * k)), .int (nI k), .ref ((va_up (va_up ad (17 + 2 * k) q) (17 + 2 * k + 1) q2) 2)]) (by rw [up2 (show 17 + 2 * k ≠ 17 + 2 * k + 1 by omega), up2 (show 2 ≠ 17 + 2 * k + 1 by omega), up2 (show 2 ≠ 17 + 2 * k by omega)]) ?_
        refine g_aast (k := 2) (k2 := 17 + 2 * k) (cA := cG) (N := 8) (t := 1) (ci := 2) (f := f) S hK w (by omega) (by omega) (by rw [up2 (by omega), up2 (by omega), up2 (by omega)]; exact hf) rfl (by rw [up2 (by omega), va_up_self]) rfl (vp_in_nI hk (by decide)) dX3_init_115 (fun H locs w => ?_)
        rw [nI_clamp (show k < 2 ^ 31 by omega)] at w
        refine lv_iinc (v := nI (k + 1)) (lv' := [(1, .int (nI (k + 1))), (0, .ref h0)]) hx hb dX3_init_116 hl (k := 0) rfl (nI_1 k) (by decide) rfl (fun ls hl => ?_)
        refine lv_goto (tgt := 97) hx hb dX3_init_119 (by decide) ?_
        have hIV2 := IV_sign hIV hf hfj q q2
        have e1 : va_up (va_up ad (17 + 2 * k) q) (17 + 2 * k + 1) q2 (17 + 2 * k) = q := by rw [up2 (by omega), va_up_self]
        rw [e1] at w
        refine W.widen (k := 16 + 2 * (k + 1)) (n := 436 + 12 * (k + 1)) (by omega) (by omega) ?_
        exact ih (k + 1) (by omega) (by omega) _ _ H locs (by rw [up2 (by omega), up2 (by omega)]; exact had0) hIV2 w ls hl
  have LS : ∀ (n k : Nat), k ≤ 4 → 4 + 1 ≤ k + n → ∀ (ad : Nat → Nat) (G : Nat → va_E) (H : Heap) (locs : List Loc), ad 0 = h0 → IV cI cS cG cP k 0 0 ad G → CG (9 + 2 * k) ad G D A s.heap H locs → ∀ ls : Array Slot, lv_has ls 2 [(1, .int (nI k)), (0, .ref h0)] → W p l e (headSpec wsX3_init ({ frames := 2, cells := 40, slots := 580, locals := 40 } : Room)).room s m ([.ref h0] : List Value).toArray below meth c H locs (8 + 2 * k) (60 + 94 * k) (MQ below (va_Qv (fun ad : Nat → Nat => ad 0 = h0) (fun ad t => va_P D vwCl (Wd 41 (eC ad) ad σC0) t.heap ∧ va_K D vwCl (tyC ad) t ∧ va_D A (Wd 41 (eC ad) ad σC0)) A) ([.ref h0] : List Value).toArray s 40 580 A) (F0 m 71 ls []) := by
    intro n
    induction n with
    | zero => intro k h1 h2; exact absurd h2 (by omega)
    | succ n ih =>
      intro k h1 h2 ad G H locs had0 hIV w ls hl
      refine lv_iload_n hx hb dX3_init_71 rfl (lv_at hl 0 rfl) ?_
      refine lv_iconst (v := 4) hx hb dX3_init_72 (by decide) ?_
      refine lv_icmp_ge (tgt := 95) hx hb dX3_init_73 (by decide) (fun c73 => ?_) (fun c73 => ?_)
      · have hk : k = 4 := by
          rcases Nat.lt_or_ge k 4 with q | q
          · exact absurd c73 (nI_ge q (by decide))
          · omega
        subst hk
        refine lv_iconst (v := 0) hx hb dX3_init_95 (by decide) ?_
        refine lv_istore_n (lv' := [(1, .int 0), (0, .ref h0)]) hx hb dX3_init_96 rfl hl (by decide) rfl (fun ls hl => ?_)
        exact LG 9 0 (by omega) (by omega) ad G H locs had0 hIV w ls (by rw [nI_0]; exact hl)
      · have hk : k < 4 := by
          rcases Nat.lt_or_ge k 4 with q | q
          · exact q
          · exact absurd (nI_le q (by omega)) c73
        refine lv_aload_n hx hb dX3_init_76 rfl (lv_at hl 1 rfl) ?_
        refine W.eq (g2 := F0 m 77 ls [.ref (ad 0)]) (by rw [had0]) ?_
        refine g_get (C := RX3) (T := TX3) (N := 14) S hK w (k := 0) (by omega) hIV.1 rfl hinX3 0 (by decide) (List.mem_of_getElem? (i := 5) rfl) (v := .ref (ad 1)) rfl dX3_init_77 ?_
        refine lv_iload_n hx hb dX3_init_80 rfl (lv_at hl 0 rfl) ?_
        obtain ⟨f, hf, hfj⟩ := hIV.2.1
        refine g_new (C := RX1) (T := TX1) (N := 4) (ci := 1) (fs := [.int 0, .int 0, .int 0, .null]) S hK w hinX1 tyX1 tyX1_ok (List.mem_of_getElem? (i := 4) rfl) (List.mem_of_getElem? (i := 16) rfl) (List.mem_of_getElem? (i := 17) rfl) rfl (fun j hj => by rcases (show j = 0 ∨ j = 1 ∨ j = 2 ∨ j = 3 by omega) with rfl | rfl | rfl | rfl <;> rfl) (by show _ ≤ 40; omega) (by show _ ≤ 580; omega) dX3_init_81 (fun q H w => ?_)
        refine lv_dup hx hb dX3_init_84 rfl ?_
        refine W.eq (g2 := F0 m 85 ls [.ref (va_up ad (9 + 2 * k) q (9 + 2 * k)), .ref (va_up ad (9 + 2 * k) q (9 + 2 * k)), .int (nI k), .ref (ad 1)]) (by rw [va_up_self]) ?_
        refine g_callI (N := 90) (t := 3) S hl.1 hK w (k := 9 + 2 * k) (by omega) (va_up_self _ _ _) rfl (c_X1_init l D (va_up ad (9 + 2 * k) q (9 + 2 * k)) H.size cI) ⟨va_cnB 0 S.2.2.2.2 gX3_init_X1_init_n45 rfl rfl rfl (hN.m 0 rfl) (S.2.2.2.2 _ (List.mem_of_getElem? (i := 17) rfl)) hd_X1_init ⟨Nat.le_of_ble_eq_true rfl, Nat.le_of_ble_eq_true rfl⟩, rfl, S.2.2.2.2 _ (List.mem_of_getElem? (i := 22) rfl)⟩ (lv_room (m := m) (pc := 0) (ls := ls) (rest := []) (Nat.le_of_ble_eq_true rfl)) dX3_init_85 ⟨by show _ ≤ 40; omega, by show _ ≤ 580; omega⟩ (fun q2 H locs w => ?_)
        refine W.eq (g2 := F0 m 88 ls [.ref ((va_up (va_up ad (9 + 2 * k) q) (9 + 2 * k + 1) q2) (9 + 2 * k)), .int (nI k), .ref ((va_up (va_up ad (9 + 2 * k) q) (9 + 2 * k + 1) q2) 1)]) (by rw [up2 (show 9 + 2 * k ≠ 9 + 2 * k + 1 by omega), up2 (show 1 ≠ 9 + 2 * k + 1 by omega), up2 (show 1 ≠ 9 + 2 * k by omega)]) ?_
        refine g_aast (k := 1) (k2 := 9 + 2 * k) (cA := cS) (N := 4) (t := 0) (ci := 1) (f := f) S hK w (by omega) (by omega) (by rw [up2 (by omega), up2 (by omega), up2 (by omega)]; exact hf) rfl (by rw [up2 (by omega), va_up_self]) rfl (vp_in_nI hk (by decide)) dX3_init_88 (fun H locs w => ?_)
        rw [nI_clamp (show k < 2 ^ 31 by omega)] at w
        refine lv_iinc (v := nI (k + 1)) (lv' := [(1, .int (nI (k + 1))), (0, .ref h0)]) hx hb dX3_init_89 hl (k := 0) rfl (nI_1 k) (by decide) rfl (fun ls hl => ?_)
        refine lv_goto (tgt := 71) hx hb dX3_init_92 (by decide) ?_
        have hIV2 := IV_sheet hIV hf hfj q q2
        have e1 : va_up (va_up ad (9 + 2 * k) q) (9 + 2 * k + 1) q2 (9 + 2 * k) = q := by rw [up2 (by omega), va_up_self]
        rw [e1] at w
        refine W.widen (k := 8 + 2 * (k + 1)) (n := 60 + 94 * (k + 1)) (by omega) (by omega) ?_
        exact ih (k + 1) (by omega) (by omega) _ _ H locs (by rw [up2 (by omega), up2 (by omega)]; exact had0) hIV2 w ls hl
  refine W.widen (k := 8 + 2 * 0) (n := 60 + 94 * 0) (by decide) (by decide) ?_
  exact LS 5 0 (by omega) (by omega) ad G H locs had0 hIV w ls (by rw [nI_0]; exact hl)
