/-! the law's walk: two worlds beside one another, the class's cells and the law's own rows -/
section LAW2
variable {p : Program} {l : Launch} {e : Env} {R : Room} {s : State} {m : MethodId} {args : Array Value} {below : List Frame} {meth : Method} {c : Code} {H : Heap} {locs : List Loc} {cells slots : Nat} {Q : State → Prop}
variable {pc : Nat} {ls : Array Slot} {rest st0 : List Value} {a : Array Value}
variable {n : Nat} {E : Nat → (Nat → Int32) → va_E} {ad : Nat → Nat} {D : va_G} {A : Nat → Prop} {H0 : Heap} {σ : St}
variable {n2 : Nat} {E2 : Nat → (Nat → Int32) → va_E} {ad2 : Nat → Nat} {τ : St}
theorem CW.beside (w2 : CW n2 E2 ad2 D A H0 τ H locs) (hdis : ∀ i, i < n → ∀ j, j < n2 → ad i ≠ ad2 j) {H1 : Heap} {locs1 : List Loc} (hk1 : ∀ q : Nat, q < H.size → ¬ CA n ad H.size q → H1[q]? = H[q]?) (hS : va_S A H0 H1 locs1) : CW n2 E2 ad2 D A H0 τ H1 locs1 := by
  refine ⟨fun c q hc => ?_, w2.2.1, hS, w2.2.2.2⟩
  obtain ⟨hcn, rfl⟩ := Wd_get_inv hc
  have hat := w2.1 c _ (Wd_get hcn)
  refine hat.kept (hk1 _ hat.lt (fun h => ?_))
  rcases h with ⟨i, hi, h⟩ | h
  · exact hdis i hi c hcn h.symm
  · exact absurd hat.lt (Nat.not_lt.mpr h)
theorem callWi2 (w : CW n E ad D A H0 σ H locs) (w2 : CW n2 E2 ad2 D A H0 τ H locs) (hdis : ∀ i, i < n → ∀ j, j < n2 → ad i ≠ ad2 j) {tgt : Int32 × St} (hr : va_Run p l e R s m args below meth c H locs cells slots 0 0 (F0 m pc ls st0) rest (QWi n E ad D tgt (CA n ad H.size) a) (CA n ad H.size))
    (kk : ∀ (H1 : Heap) (locs1 : List Loc), CW n E ad D A H0 tgt.2 H1 locs1 → CW n2 E2 ad2 D A H0 τ H1 locs1 → W p l e R s m args below meth c H1 locs1 cells slots Q (F0 m (pc + 3) ls (.int tgt.1 :: rest))) : W p l e R s m args below meth c H locs cells slots Q (F0 m pc ls st0) := by
  refine va_calli hr w.2.2.1 (fun q _ h => w.free q h) w.free (fun r u t H1 locs1 ht hvm hw hB hz hk1 hS => ?_)
  subst hw
  rw [ht] at hB
  exact kk H1 locs1 ⟨hB, Wd_addr w.2.1 (fun k hk => w.2.1.2 k _ (Wd_get hk)), hS, w.2.2.2⟩ (w2.beside hdis hk1 hS)
theorem callWl2 (w : CW n E ad D A H0 σ H locs) (w2 : CW n2 E2 ad2 D A H0 τ H locs) (hdis : ∀ i, i < n → ∀ j, j < n2 → ad i ≠ ad2 j) {tgt : Int64 × St} (hr : va_Run p l e R s m args below meth c H locs cells slots 0 0 (F0 m pc ls st0) rest (QWl n E ad D tgt (CA n ad H.size) a) (CA n ad H.size))
    (kk : ∀ (H1 : Heap) (locs1 : List Loc), CW n E ad D A H0 tgt.2 H1 locs1 → CW n2 E2 ad2 D A H0 τ H1 locs1 → W p l e R s m args below meth c H1 locs1 cells slots Q (F0 m (pc + 3) ls (.long tgt.1 :: rest))) : W p l e R s m args below meth c H locs cells slots Q (F0 m pc ls st0) := by
  refine va_calll hr w.2.2.1 (fun q _ h => w.free q h) w.free (fun r u t H1 locs1 ht hvm hw hB hz hk1 hS => ?_)
  subst hw
  rw [ht] at hB
  exact kk H1 locs1 ⟨hB, Wd_addr w.2.1 (fun k hk => w.2.1.2 k _ (Wd_get hk)), hS, w.2.2.2⟩ (w2.beside hdis hk1 hS)
theorem callWv2 (w : CW n E ad D A H0 σ H locs) (w2 : CW n2 E2 ad2 D A H0 τ H locs) (hdis : ∀ i, i < n → ∀ j, j < n2 → ad i ≠ ad2 j) {tgt : St} (hr : va_Run p l e R s m args below meth c H locs cells slots 0 0 (F0 m pc ls st0) rest (QWv n E ad D tgt (CA n ad H.size) a) (CA n ad H.size))
    (kk : ∀ (H1 : Heap) (locs1 : List Loc), CW n E ad D A H0 tgt H1 locs1 → CW n2 E2 ad2 D A H0 τ H1 locs1 → W p l e R s m args below meth c H1 locs1 cells slots Q (F0 m (pc + 3) ls rest)) : W p l e R s m args below meth c H locs cells slots Q (F0 m pc ls st0) := by
  refine va_callv hr w.2.2.1 (fun q _ h => w.free q h) w.free (fun u t H1 locs1 ht hvm hw hB hz hk1 hS => ?_)
  subst hw
  rw [ht] at hB
  exact kk H1 locs1 ⟨hB, Wd_addr w.2.1 (fun k hk => w.2.1.2 k _ (Wd_get hk)), hS, w.2.2.2⟩ (w2.beside hdis hk1 hS)
/-- fewer cells -/
theorem CW.take {k : Nat} (w : CW n E ad D A H0 σ H locs) (hk : k ≤ n) : CW k E ad D A H0 σ H locs := by
  refine ⟨fun c q hc => ?_, ⟨fun i j p q hi hj h => ?_, fun c q hc => ?_⟩, w.2.2⟩
  · obtain ⟨hcn, rfl⟩ := Wd_get_inv hc
    exact w.1 c _ (Wd_get (Nat.lt_of_lt_of_le hcn hk))
  · obtain ⟨li, rfl⟩ := Wd_get_inv hi
    obtain ⟨lj, rfl⟩ := Wd_get_inv hj
    exact w.2.1.1 i j _ _ (Wd_get (Nat.lt_of_lt_of_le li hk)) (Wd_get (Nat.lt_of_lt_of_le lj hk)) h
  · obtain ⟨lc, rfl⟩ := Wd_get_inv hc
    exact w.2.1.2 c (ad c, E c (σ c)) (Wd_get (Nat.lt_of_lt_of_le lc hk))
theorem join2 (w : CW n E ad D A H0 σ H locs) (w2 : CW n2 E2 ad2 D A H0 τ H locs) (hdis : ∀ i, i < n → ∀ j, j < n2 → ad i ≠ ad2 j) : CG (n + n2) (fun i => if i < n then ad i else ad2 (i - n)) (fun i => if i < n then E i (σ i) else E2 (i - n) (τ (i - n))) D A H0 H locs := by
  refine ⟨fun c q hc => ?_, ⟨fun i j p q hi hj h => ?_, fun c q hc => ?_⟩, w.2.2⟩
  · obtain ⟨hcn, rfl⟩ := Wg_inv hc
    by_cases h : c < n
    · simp only [if_pos h]
      exact w.1 c _ (Wd_get h)
    · simp only [if_neg h]
      exact w2.1 (c - n) _ (Wd_get (by omega))
  · obtain ⟨li, rfl⟩ := Wg_inv hi
    obtain ⟨lj, rfl⟩ := Wg_inv hj
    have h3 : (if i < n then ad i else ad2 (i - n)) = (if j < n then ad j else ad2 (j - n)) := h
    by_cases h1 : i < n
    · by_cases h2 : j < n
      · rw [if_pos h1, if_pos h2] at h3
        exact w.2.1.1 i j _ _ (Wd_get h1) (Wd_get h2) h3
      · rw [if_pos h1, if_neg h2] at h3
        exact absurd h3 (hdis i h1 _ (by omega))
    · by_cases h2 : j < n
      · rw [if_neg h1, if_pos h2] at h3
        exact absurd h3.symm (hdis j h2 _ (by omega))
      · rw [if_neg h1, if_neg h2] at h3
        have h4 := w2.2.1.1 (i - n) (j - n) _ _ (Wd_get (by omega)) (Wd_get (by omega)) h3
        omega
  · obtain ⟨lc, rfl⟩ := Wg_inv hc
    show A (if c < n then ad c else ad2 (c - n))
    by_cases h : c < n
    · rw [if_pos h]
      exact w.2.1.2 c (ad c, E c (σ c)) (Wd_get h)
    · rw [if_neg h]
      exact w2.2.1.2 (c - n) (ad2 (c - n), E2 (c - n) (τ (c - n))) (Wd_get (by omega))
theorem split2 {aX : Nat → Nat} {gX : Nat → va_E} (w : CG (n + n2) aX gX D A H0 H locs) (h1 : ∀ i, i < n → aX i = ad i ∧ gX i = E i (σ i)) (h2 : ∀ j, j < n2 → aX (n + j) = ad2 j ∧ gX (n + j) = E2 j (τ j)) : CW n E ad D A H0 σ H locs ∧ CW n2 E2 ad2 D A H0 τ H locs ∧ ∀ i, i < n → ∀ j, j < n2 → ad i ≠ ad2 j := by
  refine ⟨⟨fun c q hc => ?_, ⟨fun i j p q hi hj h => ?_, fun c q hc => ?_⟩, w.2.2⟩, ⟨fun c q hc => ?_, ⟨fun i j p q hi hj h => ?_, fun c q hc => ?_⟩, w.2.2⟩, fun i hi j hj h => ?_⟩
  · obtain ⟨hcn, rfl⟩ := Wd_get_inv hc
    have h := w.1 c _ (Wg_get (show c < n + n2 by omega))
    rw [(h1 c hcn).1, (h1 c hcn).2] at h
    exact h
  · obtain ⟨li, rfl⟩ := Wd_get_inv hi
    obtain ⟨lj, rfl⟩ := Wd_get_inv hj
    exact w.2.1.1 i j (aX i, gX i) (aX j, gX j) (Wg_get (by omega)) (Wg_get (by omega)) (by show aX i = aX j; rw [(h1 i li).1, (h1 j lj).1]; exact h)
  · obtain ⟨lc, rfl⟩ := Wd_get_inv hc
    have h := w.2.1.2 c (aX c, gX c) (Wg_get (show c < n + n2 by omega))
    show A (ad c)
    rw [← (h1 c lc).1]
    exact h
  · obtain ⟨hcn, rfl⟩ := Wd_get_inv hc
    have h := w.1 (n + c) _ (Wg_get (show n + c < n + n2 by omega))
    rw [(h2 c hcn).1, (h2 c hcn).2] at h
    exact h
  · obtain ⟨li, rfl⟩ := Wd_get_inv hi
    obtain ⟨lj, rfl⟩ := Wd_get_inv hj
    have h4 := w.2.1.1 (n + i) (n + j) (aX (n + i), gX (n + i)) (aX (n + j), gX (n + j)) (Wg_get (by omega)) (Wg_get (by omega)) (by show aX (n + i) = aX (n + j); rw [(h2 i li).1, (h2 j lj).1]; exact h)
    omega
  · obtain ⟨lc, rfl⟩ := Wd_get_inv hc
    have h := w.2.1.2 (n + c) (aX (n + c), gX (n + c)) (Wg_get (show n + c < n + n2 by omega))
    show A (ad2 c)
    rw [← (h2 c lc).1]
    exact h
  · have h4 := w.2.1.1 i (n + j) (aX i, gX i) (aX (n + j), gX (n + j)) (Wg_get (by omega)) (Wg_get (by omega)) (by show aX i = aX (n + j); rw [(h1 i hi).1, (h2 j hj).1]; exact h)
    omega
variable {cc : ByteArray} {nL : Nat} {Ts : List Cond} {own : String} {tys : List (ClassId × FieldType)}
/-- a place of one of the law's rows -/
theorem iast2 (S : CallFix p m c cc nL s args Ts own) (hK : va_K D vwCl tys s) (w : CW n E ad D A H0 σ H locs) (w2 : CW n2 E2 ad2 D A H0 τ H locs) (hdis : ∀ i, i < n → ∀ j, j < n2 → ad i ≠ ad2 j) {k : Nat} (hk : k < n2) {cA : ClassId} {N : Nat} (he : ∀ f, E2 k f = .inl (cA, N, .inl f)) (ht : tys[0]? = some (cA, .int)) {i x : Int32} (hi : vp_in i N) (hdg : decode cc pc = .ok (.iastore, 1))
    (kk : ∀ (H1 : Heap) (locs1 : List Loc), CW n E ad D A H0 σ H1 locs1 → CW n2 E2 ad2 D A H0 (u2 τ k (ix i) x) H1 locs1 → W p l e R s m args below meth c H1 locs1 cells slots Q (F0 m (pc + 1) ls rest)) : W p l e R s m args below meth c H locs cells slots Q (F0 m pc ls (.int x :: .int i :: .ref (ad2 k) :: rest)) := by
  have wj := join2 w w2 hdis
  have e1 : (fun i => if i < n then ad i else ad2 (i - n)) (n + k) = ad2 k := by
    show (if n + k < n then ad (n + k) else ad2 (n + k - n)) = ad2 k
    rw [if_neg (by omega), Nat.add_sub_cancel_left]
  rw [← e1]
  refine g_iast S hK wj (k := n + k) (by omega) (cI := cA) (N := N) (t := 0) (f := τ k) (by
    show (if n + k < n then E (n + k) (σ (n + k)) else E2 (n + k - n) (τ (n + k - n))) = zInts cA N (τ k)
    rw [if_neg (by omega), Nat.add_sub_cancel_left, he]) ht hi hdg (fun H1 locs1 w' => ?_)
  obtain ⟨a1, a2, -⟩ := split2 (E := E) (ad := ad) (σ := σ) (E2 := E2) (ad2 := ad2) (τ := u2 τ k (ix i) x) w' (fun i hi => ⟨if_pos hi, (va_up_ne _ _ (by omega)).trans (if_pos hi)⟩) (fun j hj => ⟨by
      show (if n + j < n then ad (n + j) else ad2 (n + j - n)) = ad2 j
      rw [if_neg (by omega), Nat.add_sub_cancel_left], by
      by_cases h : j = k
      · subst h
        rw [va_up_self, u2, u1_same, he]
      · rw [va_up_ne _ _ (by omega), u2_nc h]
        show (if n + j < n then E (n + j) (σ (n + j)) else E2 (n + j - n) (τ (n + j - n))) = E2 j (τ j)
        rw [if_neg (by omega), Nat.add_sub_cancel_left]⟩)
  exact kk H1 locs1 a1 a2
/-- a new row of the law -/
theorem newa2 (S : CallFix p m c cc nL s args Ts own) (hK : va_K D vwCl tys s) (w : CW n E ad D A H0 σ H locs) (w2 : CW n2 (eL ad2) ad2 D A H0 τ H locs) (hdis : ∀ i, i < n → ∀ j, j < n2 → ad i ≠ ad2 j) (hn2 : n2 < 100) {t : Nat} (ht : tys[t]? = some (ad2 100, .int)) (harr : (Cond.arrayClass (newarray.typeOf .int)) ∈ Ts) {x : Int32} {N : Nat} (hn : ¬ x < 0) (hN : x.toNatClampNeg = N) (hln : lenL n2 = N) (hby : N * 4 ≤ 536870912) (hc : cells + 1 ≤ R.cells) (hs : slots + N ≤ R.slots) (hdg : decode cc pc = .ok (.newarray .int, 2))
    (kk : ∀ (ad' : Nat → Nat) (H1 : Heap), (∀ i, i ≠ n2 → ad' i = ad2 i) → CW n E ad D A H0 σ H1 locs → CW (n2 + 1) (eL ad') ad' D A H0 (u1 τ n2 (fun _ => 0)) H1 locs → (∀ i, i < n → ∀ j, j < n2 + 1 → ad i ≠ ad' j) → W p l e R s m args below meth c H1 locs (cells + 1) (slots + N) Q (F0 m (pc + 2) ls (.ref (ad' n2) :: rest))) : W p l e R s m args below meth c H locs cells slots Q (F0 m pc ls (.int x :: rest)) := by
  refine g_newaI S hK (join2 w w2 hdis) ht harr hn hN hby hc hs hdg (fun q H1 w' => ?_)
  have hq : va_up ad2 n2 q n2 = q := va_up_self _ _ _
  have ho : ∀ i, i ≠ n2 → va_up ad2 n2 q i = ad2 i := fun i hi => va_up_ne _ _ hi
  obtain ⟨a1, a2, a3⟩ := split2 (n := n) (n2 := n2 + 1) (E := E) (ad := ad) (σ := σ) (E2 := eL (va_up ad2 n2 q)) (ad2 := va_up ad2 n2 q) (τ := u1 τ n2 (fun _ => 0)) w' (fun i hi => ⟨(va_up_ne _ _ (by omega)).trans (if_pos hi), (va_up_ne _ _ (by omega)).trans (if_pos hi)⟩) (fun j hj => by
      by_cases h : j = n2
      · subst h
        rw [va_up_self, hq, va_up_self, u1_same]
        refine ⟨rfl, ?_⟩
        show zInts (ad2 100) N (fun _ => 0) = .inl (va_up ad2 j q 100, lenL j, .inl (fun _ => 0))
        rw [ho 100 (by omega), hln]
      · rw [va_up_ne _ _ (show n + j ≠ n + n2 by omega), va_up_ne _ _ (show n + j ≠ n + n2 by omega), ho j h, u1_ne _ h]
        refine ⟨?_, ?_⟩
        · show (if n + j < n then ad (n + j) else ad2 (n + j - n)) = ad2 j
          rw [if_neg (by omega), Nat.add_sub_cancel_left]
        · show (if n + j < n then E (n + j) (σ (n + j)) else eL ad2 (n + j - n) (τ (n + j - n))) = eL (va_up ad2 n2 q) j (τ j)
          rw [if_neg (by omega), Nat.add_sub_cancel_left]
          show (Sum.inl (ad2 100, lenL j, .inl (τ j)) : va_E) = Sum.inl (va_up ad2 n2 q 100, lenL j, .inl (τ j))
          rw [ho 100 (by omega)])
  rw [← hq]
  exact kk (va_up ad2 n2 q) H1 ho a1 a2 a3
end LAW2
