/-! the class's constructor -/
section GFILL
variable {p : Program} {l : Launch} {e : Env} {R : Room} {s : State} {m : MethodId} {args : Array Value} {below : List Frame} {meth : Method} {c : Code} {H : Heap} {locs : List Loc} {cells slots : Nat} {Q : State → Prop}
variable {cc : ByteArray} {nL : Nat} {Ts : List Cond} {own : String} {pc : Nat} {ls : Array Slot} {rest : List Value}
variable {n : Nat} {ad : Nat → Nat} {G : Nat → va_E} {D : va_G} {A : Nat → Prop} {H0 : Heap} {tys : List (ClassId × FieldType)}
theorem g_fill {cI : ClassId} {N t : Nat} {f : Nat → Int32} (hN : N < 2 ^ 31) (S : CallFix p m c cc nL s args Ts own) (hls : ls.size = nL) (hK : va_K D vwCl tys s) (w : CG n ad G D A H0 H locs) {k : Nat} (hk : k < n) (he : G k = zInts cI N f) (ht : tys[t]? = some (cI, .int)) {index : Nat} (g : GoodIn Ts (va_wsS own index yJ7_fill_53178 wsJ7_fill_53178)) (hf : 1 ≤ R.frames) (hlo : 23 ≤ R.locals) {v : Int32} (hdg : decode cc pc = .ok (.invokestatic index, 3)) (hcs : cells ≤ R.cells ∧ slots ≤ R.slots)
    (kk : ∀ (H1 : Heap) (locs1 : List Loc), CG n ad (va_up G k (zInts cI N (fillF N v f))) D A H0 H1 locs1 → W p l e R s m args below meth c H1 locs1 cells slots Q (F0 m (pc + 3) ls [])) : W p l e R s m args below meth c H locs cells slots Q (F0 m pc ls [.int v, .ref (ad k)]) := by
  have hPk : va_P D vwCl (fW (ad k) cI N f) H := by
    have := w.at hk
    rw [he] at this
    exact this
  have hKk : va_K D vwCl [(cI, .int)] s := ⟨hK.1, fun i q hi => by
    have h1 := (List.getElem?_eq_some_iff.mp hi).1
    simp at h1
    subst h1
    cases hi
    exact hK.2 t _ ht⟩
  have hfr := w.free hk
  rw [he] at hfr
  refine va_callv (va_runS (As := [.ref (ad k), .int v]) (rest := []) S (c_fill l D (ad k) cI N hN f H.size v) (va_cwS 2 S.2.2.2.2 g rfl rfl rfl hd_J7_fill_53178 ⟨hf, hlo⟩) ⟨PreF.blind, fun U hU hW => ⟨rfl, by rw [hU], by rw [hU]; exact hPk, va_K.moved hW.alike hKk⟩⟩ rfl rfl hls rfl (lv_room (Nat.le_of_ble_eq_true rfl)) hdg hcs) w.2.2.1 (fun q _ h => hfr q h) hfr (fun u t H1 locs1 ht hvm hw hB hz hk1 hS => ?_)
  subst hw
  rw [ht] at hB
  exact kk H1 locs1 (w.behind hk hB (by rw [he]; exact hk1) hS)
/-- a part's constructor: the object is cell k; one new row of ints -/
theorem g_callI {y : MethodName} {bytes : ByteArray} {ws : List Cond} {rm : Room} {e0 : va_E} {e1 : Nat → va_E} {cI : ClassId} {N t : Nat} (S : CallFix p m c cc nL s args Ts own) (hls : ls.size = nL) (hK : va_K D vwCl tys s) (w : CG n ad G D A H0 H locs) {k : Nat} (hk : k < n) (he : G k = e0) (ht : tys[t]? = some (cI, .int)) (hM : Met l y ws rm (PreI D (ad k) e0 cI H.size) (PostI D (ad k) e0 e1 cI N H.size) 1 N (va_A [(ad k, e0)] H.size))
    {index : Nat} {host : String} (cw : va_CN R s args own index y host bytes 1 none ws rm 1 N 0 ∧ y.name = "<init>" ∧ (Cond.instanceMethod y).before args s = true) (hrest : 2 * 0 + (rest.map fun v => v.category).sum ≤ 8) (hdg : decode cc pc = .ok (.invokespecial index, 3)) (hcs : cells + 1 ≤ R.cells ∧ slots + N ≤ R.slots)
    (kk : ∀ (q : Nat) (H1 : Heap) (locs1 : List Loc), CG (n + 1) (va_up ad n q) (va_up (va_up G k (e1 q)) n (zInts cI N (fun _ => 0))) D A H0 H1 locs1 → W p l e R s m args below meth c H1 locs1 (cells + 1) (slots + N) Q (F0 m (pc + 3) ls rest)) : W p l e R s m args below meth c H locs cells slots Q (F0 m pc ls (.ref (ad k) :: rest)) := by
  have hPk : va_P D vwCl [(ad k, e0)] H := by
    have := w.at hk
    rw [he] at this
    exact this
  have hKk : va_K D vwCl [(cI, .int)] s := ⟨hK.1, fun i q hi => by
    have h1 := (List.getElem?_eq_some_iff.mp hi).1
    simp at h1
    subst h1
    cases hi
    exact hK.2 t _ ht⟩
  have hfr := w.free hk
  rw [he] at hfr
  refine va_callv (va_runIN (As := []) (rest := rest) S hM cw ⟨PreI.blind, fun U hU hW => ⟨rfl, by rw [hU], by rw [hU]; exact hPk, va_K.moved hW.alike hKk⟩⟩ rfl rfl hls rfl hrest hdg hcs) w.2.2.1 (fun q _ h => hfr q h) hfr (fun q t H1 locs1 ht hvm hw hB hz hk1 hS => ?_)
  rw [ht] at hB
  have hP1 : va_P D vwCl [(ad k, e1 q)] H1 := hB.sub [0] rfl
  have w1 := w.behind hk hP1 (by rw [he]; exact hk1) hS
  refine kk q H1 locs1 (w1.push (hB 1 _ rfl) (w.2.2.2 q (Nat.le_trans w.2.2.1.1 hw)) (fun c hc h => ?_))
  have := (w.1 c _ (Wg_get hc)).lt
  have h2 : ad c < H.size := this
  omega
theorem g_call0 {y : MethodName} {bytes : ByteArray} {ws : List Cond} {rm : Room} (S : CallFix p m c cc nL s args Ts own) (hls : ls.size = nL) {a : Nat} (hM : Met l y ws rm (Pre0 [.ref a]) Q0v 0 0 N0)
    {index : Nat} {host : String} (cw : va_CN R s args own index y host bytes 1 none ws rm 0 0 0 ∧ y.name = "<init>" ∧ (Cond.instanceMethod y).before args s = true) (hrest : 2 * 0 + (rest.map fun v => v.category).sum ≤ 8) (hdg : decode cc pc = .ok (.invokespecial index, 3)) (hcs : cells + 0 ≤ R.cells ∧ slots + 0 ≤ R.slots)
    (kk : W p l e R s m args below meth c H locs cells slots Q (F0 m (pc + 3) ls rest)) : W p l e R s m args below meth c H locs cells slots Q (F0 m pc ls (.ref a :: rest)) :=
  call0v (va_runIN (As := []) (rest := rest) S hM cw pre0S rfl rfl hls rfl hrest hdg hcs) kk
end GFILL
/-- how far the constructor is: a SHEETS, b SIGNS, d PAPERS -/
def zFS (ad : Nat → Nat) : List Value := [.ref (ad 1), .ref (ad 2), .ref (ad 3), .ref (ad 4), .int 0, .int 0, .int 0, .int 0, .int 0, .int 0, .ref (ad 5), .ref (ad 6), .ref (ad 7), .ref (ad 8)]
def IV (cI cS cG cP : ClassId) (a b d : Nat) (ad : Nat → Nat) (G : Nat → va_E) : Prop :=
  G 0 = .inr (3, zFS ad) ∧ (∃ f, G 1 = zRefs cS 4 f ∧ ∀ j, j < a → f j = some (ad (9 + 2 * j))) ∧ (∃ f, G 2 = zRefs cG 8 f ∧ ∀ j, j < b → f j = some (ad (17 + 2 * j))) ∧ (∃ f, G 3 = zRefs cP 8 f ∧ ∀ j, j < d → f j = some (ad (33 + j))) ∧
  (G 4 = zInts cI 9 (fun _ => 0) ∧ G 5 = zInts cI 9 (fun _ => 0) ∧ G 6 = zInts cI 9 (fun _ => 0) ∧ G 7 = zInts cI 8 (fun _ => 0) ∧ G 8 = zInts cI 5 (fun _ => 0)) ∧
  (∀ j, j < a → G (9 + 2 * j) = .inr (1, [.int 0, .int 0, .int 0, .ref (ad (10 + 2 * j))]) ∧ G (10 + 2 * j) = zInts cI 90 (fun _ => 0)) ∧
  (∀ j, j < b → G (17 + 2 * j) = .inr (2, [.int 0, .int 0, .ref (ad (18 + 2 * j))]) ∧ G (18 + 2 * j) = zInts cI 9 (fun _ => 0)) ∧
  (∀ j, j < d → G (33 + j) = .inr (0, [.int 0, .int 0, .int 0, .int 0, .int 0, .int 0]))
theorem up2 {α : Type} {f : Nat → α} {k j : Nat} {v : α} (h : j ≠ k) : va_up f k v j = f j := va_up_ne _ _ h
theorem IV_sheet {cI cS cG cP : ClassId} {a : Nat} {ad : Nat → Nat} {G : Nat → va_E} (h : IV cI cS cG cP a 0 0 ad G) {f : Nat → Option Nat} (hf : G 1 = zRefs cS 4 f) (hfj : ∀ j, j < a → f j = some (ad (9 + 2 * j))) (q q2 : Nat) :
    IV cI cS cG cP (a + 1) 0 0 (va_up (va_up ad (9 + 2 * a) q) (9 + 2 * a + 1) q2) (va_up (va_up (va_up (va_up G (9 + 2 * a) (.inr (1, [.int 0, .int 0, .int 0, .null]))) (9 + 2 * a) (.inr (1, [.int 0, .int 0, .int 0, .ref q2]))) (9 + 2 * a + 1) (zInts cI 90 (fun _ => 0))) 1 (zRefs cS 4 (va_up f a (some q)))) := by
  obtain ⟨h0, -, ⟨f2, e2, -⟩, ⟨f3, e3, -⟩, ⟨e4, e5, e6, e7, e8⟩, hs, -, -⟩ := h
  have had : ∀ j, j < 9 + 2 * a → (va_up (va_up ad (9 + 2 * a) q) (9 + 2 * a + 1) q2) j = ad j := fun j hj => by rw [up2 (by omega), up2 (by omega)]
  have hG : ∀ j, j < 9 + 2 * a → j ≠ 1 → (va_up (va_up (va_up (va_up G (9 + 2 * a) (.inr (1, [.int 0, .int 0, .int 0, .null]))) (9 + 2 * a) (.inr (1, [.int 0, .int 0, .int 0, .ref q2]))) (9 + 2 * a + 1) (zInts cI 90 (fun _ => 0))) 1 (zRefs cS 4 (va_up f a (some q)))) j = G j := fun j hj hj1 => by rw [up2 hj1, up2 (by omega), up2 (by omega), up2 (by omega)]
  refine ⟨?_, ⟨_, va_up_self _ _ _, fun j hj => ?_⟩, ⟨f2, by rw [hG 2 (by omega) (by omega)]; exact e2, fun j hj => by omega⟩, ⟨f3, by rw [hG 3 (by omega) (by omega)]; exact e3, fun j hj => by omega⟩, ⟨by rw [hG 4 (by omega) (by omega)]; exact e4, by rw [hG 5 (by omega) (by omega)]; exact e5, by rw [hG 6 (by omega) (by omega)]; exact e6, by rw [hG 7 (by omega) (by omega)]; exact e7, by rw [hG 8 (by omega) (by omega)]; exact e8⟩, fun j hj => ?_, fun j hj => by omega, fun j hj => by omega⟩
  · rw [hG 0 (by omega) (by omega), h0]
    unfold zFS
    rw [had 1 (by omega), had 2 (by omega), had 3 (by omega), had 4 (by omega), had 5 (by omega), had 6 (by omega), had 7 (by omega), had 8 (by omega)]
  · by_cases e : j = a
    · subst e
      rw [va_up_self, up2 (by omega), va_up_self]
    · rw [up2 e, had _ (by omega)]
      exact hfj j (by omega)
  · by_cases e : j = a
    · subst e
      refine ⟨?_, ?_⟩
      · rw [up2 (by omega), up2 (by omega), va_up_self, show 10 + 2 * j = 9 + 2 * j + 1 by omega, va_up_self]
      · rw [up2 (by omega), show 10 + 2 * j = 9 + 2 * j + 1 by omega, va_up_self]
    · rw [hG _ (by omega) (by omega), hG _ (by omega) (by omega), had _ (by omega)]
      exact hs j (by omega)
theorem IV_sign {cI cS cG cP : ClassId} {b : Nat} {ad : Nat → Nat} {G : Nat → va_E} (h : IV cI cS cG cP 4 b 0 ad G) {f : Nat → Option Nat} (hf : G 2 = zRefs cG 8 f) (hfj : ∀ j, j < b → f j = some (ad (17 + 2 * j))) (q q2 : Nat) :
    IV cI cS cG cP 4 (b + 1) 0 (va_up (va_up ad (17 + 2 * b) q) (17 + 2 * b + 1) q2) (va_up (va_up (va_up (va_up G (17 + 2 * b) (.inr (2, [.int 0, .int 0, .null]))) (17 + 2 * b) (.inr (2, [.int 0, .int 0, .ref q2]))) (17 + 2 * b + 1) (zInts cI 9 (fun _ => 0))) 2 (zRefs cG 8 (va_up f b (some q)))) := by
  obtain ⟨h0, ⟨f1, e1, g1⟩, -, ⟨f3, e3, -⟩, ⟨e4, e5, e6, e7, e8⟩, hs, hg, -⟩ := h
  have had : ∀ j, j < 17 + 2 * b → (va_up (va_up ad (17 + 2 * b) q) (17 + 2 * b + 1) q2) j = ad j := fun j hj => by rw [up2 (by omega), up2 (by omega)]
  have hG : ∀ j, j < 17 + 2 * b → j ≠ 2 → (va_up (va_up (va_up (va_up G (17 + 2 * b) (.inr (2, [.int 0, .int 0, .null]))) (17 + 2 * b) (.inr (2, [.int 0, .int 0, .ref q2]))) (17 + 2 * b + 1) (zInts cI 9 (fun _ => 0))) 2 (zRefs cG 8 (va_up f b (some q)))) j = G j := fun j hj hj1 => by rw [up2 hj1, up2 (by omega), up2 (by omega), up2 (by omega)]
  refine ⟨?_, ⟨f1, by rw [hG 1 (by omega) (by omega)]; exact e1, fun j hj => by rw [had _ (by omega)]; exact g1 j hj⟩, ⟨_, va_up_self _ _ _, fun j hj => ?_⟩, ⟨f3, by rw [hG 3 (by omega) (by omega)]; exact e3, fun j hj => by omega⟩, ⟨by rw [hG 4 (by omega) (by omega)]; exact e4, by rw [hG 5 (by omega) (by omega)]; exact e5, by rw [hG 6 (by omega) (by omega)]; exact e6, by rw [hG 7 (by omega) (by omega)]; exact e7, by rw [hG 8 (by omega) (by omega)]; exact e8⟩, fun j hj => ?_, fun j hj => ?_, fun j hj => by omega⟩
  · rw [hG 0 (by omega) (by omega), h0]
    unfold zFS
    rw [had 1 (by omega), had 2 (by omega), had 3 (by omega), had 4 (by omega), had 5 (by omega), had 6 (by omega), had 7 (by omega), had 8 (by omega)]
  · by_cases e : j = b
    · subst e
      rw [va_up_self, up2 (by omega), va_up_self]
    · rw [up2 e, had _ (by omega)]
      exact hfj j (by omega)
  · rw [hG _ (by omega) (by omega), hG _ (by omega) (by omega), had _ (by omega)]
    exact hs j hj
  · by_cases e : j = b
    · subst e
      refine ⟨?_, ?_⟩
      · rw [up2 (by omega), up2 (by omega), va_up_self, show 18 + 2 * j = 17 + 2 * j + 1 by omega, va_up_self]
      · rw [up2 (by omega), show 18 + 2 * j = 17 + 2 * j + 1 by omega, va_up_self]
    · rw [hG _ (by omega) (by omega), hG _ (by omega) (by omega), had _ (by omega)]
      exact hg j (by omega)
theorem IV_paper {cI cS cG cP : ClassId} {d : Nat} {ad : Nat → Nat} {G : Nat → va_E} (h : IV cI cS cG cP 4 8 d ad G) {f : Nat → Option Nat} (hf : G 3 = zRefs cP 8 f) (hfj : ∀ j, j < d → f j = some (ad (33 + j))) (q : Nat) :
    IV cI cS cG cP 4 8 (d + 1) (va_up ad (33 + d) q) (va_up (va_up G (33 + d) (.inr (0, [.int 0, .int 0, .int 0, .int 0, .int 0, .int 0]))) 3 (zRefs cP 8 (va_up f d (some q)))) := by
  obtain ⟨h0, ⟨f1, e1, g1⟩, ⟨f2, e2, g2⟩, -, ⟨e4, e5, e6, e7, e8⟩, hs, hg, hp⟩ := h
  have had : ∀ j, j < 33 + d → (va_up ad (33 + d) q) j = ad j := fun j hj => by rw [up2 (by omega)]
  have hG : ∀ j, j < 33 + d → j ≠ 3 → (va_up (va_up G (33 + d) (.inr (0, [.int 0, .int 0, .int 0, .int 0, .int 0, .int 0]))) 3 (zRefs cP 8 (va_up f d (some q)))) j = G j := fun j hj hj1 => by rw [up2 hj1, up2 (by omega)]
  refine ⟨?_, ⟨f1, by rw [hG 1 (by omega) (by omega)]; exact e1, fun j hj => by rw [had _ (by omega)]; exact g1 j hj⟩, ⟨f2, by rw [hG 2 (by omega) (by omega)]; exact e2, fun j hj => by rw [had _ (by omega)]; exact g2 j hj⟩, ⟨_, va_up_self _ _ _, fun j hj => ?_⟩, ⟨by rw [hG 4 (by omega) (by omega)]; exact e4, by rw [hG 5 (by omega) (by omega)]; exact e5, by rw [hG 6 (by omega) (by omega)]; exact e6, by rw [hG 7 (by omega) (by omega)]; exact e7, by rw [hG 8 (by omega) (by omega)]; exact e8⟩, fun j hj => ?_, fun j hj => ?_, fun j hj => ?_⟩
  · rw [hG 0 (by omega) (by omega), h0]
    unfold zFS
    rw [had 1 (by omega), had 2 (by omega), had 3 (by omega), had 4 (by omega), had 5 (by omega), had 6 (by omega), had 7 (by omega), had 8 (by omega)]
  · by_cases e : j = d
    · subst e
      rw [va_up_self, va_up_self]
    · rw [up2 e, had _ (by omega)]
      exact hfj j (by omega)
  · rw [hG _ (by omega) (by omega), hG _ (by omega) (by omega), had _ (by omega)]
    exact hs j hj
  · rw [hG _ (by omega) (by omega), hG _ (by omega) (by omega), had _ (by omega)]
    exact hg j hj
  · by_cases e : j = d
    · subst e
      rw [up2 (by omega), va_up_self]
    · rw [hG _ (by omega) (by omega)]
      exact hp j (by omega)
