/-! washing, a SHEET made, cells copied, in step -/
theorem or_bv (w : BitVec 32) (m : Nat) (hm : m < 9) (h : ¬ (w.sshiftRight m) &&& 1#32 = 0#32) : w ||| (1#32 <<< m) = w := by
  have hb : w.getLsbD m = true := by
    cases q : w.getLsbD m with
    | true => rfl
    | false =>
      refine absurd ?_ h
      apply BitVec.eq_of_getLsbD_eq
      intro i hi
      by_cases i0 : i = 0
      · subst i0
        rw [BitVec.getLsbD_and, BitVec.getLsbD_sshiftRight, if_pos (show m + 0 < 32 by omega), Nat.add_zero, q]
        simp
      · simp [i0, BitVec.getLsbD_one]
  apply BitVec.eq_of_getLsbD_eq
  intro i hi
  by_cases im : i = m
  · subst im
    simp [hb]
  · by_cases lt : i < m
    · simp [lt]
    · have : ¬ i - m = 0 := by omega
      simp [BitVec.getLsbD_one, this]
theorem or_bit {w : Int32} {m : Nat} (hm : m < 9) (h : ¬ (w >>> (nI m &&& 31)) &&& 1 = 0) : w ||| ((1 : Int32) <<< (nI m &&& 31)) = w := by
  have e : ∀ m : Nat, m < 9 → ((nI m &&& 31).toBitVec.smod 32).toNat = m := by decide +kernel
  have e2 : ∀ m : Nat, m < 9 → ((1 : Int32) <<< (nI m &&& 31)).toBitVec = 1#32 <<< m := by decide +kernel
  have e3 : (w >>> (nI m &&& 31)).toBitVec = w.toBitVec.sshiftRight m := by
    show BitVec.sshiftRight' _ _ = _
    unfold BitVec.sshiftRight'
    rw [e m hm]
  apply Int32.toBitVec_inj.mp
  show w.toBitVec ||| ((1 : Int32) <<< (nI m &&& 31)).toBitVec = w.toBitVec
  rw [e2 m hm]
  refine or_bv _ _ hm (fun q => h ?_)
  apply Int32.toBitVec_inj.mp
  show (w >>> (nI m &&& 31)).toBitVec &&& (1 : Int32).toBitVec = 0#32
  rw [e3]
  exact q
theorem u2_id {S : St} {c k : Nat} : u2 S c k (S c k) = S := by
  funext c' k'
  by_cases h : c' = c
  · subst h
    by_cases h2 : k' = k
    · subst h2; rw [u2_self]
    · rw [u2_nk h2]
  · rw [u2_nc h]
theorem cpy_val {f g : Nat → Int32} {sp dp n i : Nat} : va_cpy f g sp dp n i = if dp ≤ i ∧ i < dp + n then f (sp + (i - dp)) else g i := by
  by_cases h : dp ≤ i ∧ i < dp + n
  · rw [if_pos h]
    first | exact pk_cpy_in h.1 h.2 | (unfold va_cpy; rw [if_pos h])
  · rw [if_neg h]
    first | exact pk_cpy_out (by omega) | (unfold va_cpy; rw [if_neg h])
section REL8
variable {j : Nat} {σ τ : St}
theorem R_wash1 (h : R j σ τ) {p : Nat} (v : Int32) : R j (u2 σ (33 + p) 4 v) (u2 τ 10 p v) := by
  have h' := h
  obtain ⟨a1, a2, a3, a4, a5, a6, a7, a8, a9, a10⟩ := h'
  refine R_mk h (okC_pa (by omega) a1) (okM_scr (by unfold scrM; omega) a2) ?_ (u2_o (by omega) _) (by rw [u2_o (by omega)]; exact a5) (fun x hx => ⟨u2_nc (by omega), u2_nc (by omega)⟩) (u2_nc (by omega)) (u2_nc (by omega)) (u2_nc (by omega)) (fun m hm hn => ?_) (fun q hq => ?_) (fun k hk => ?_)
  · rw [u2_o (by omega), u2_o (by omega), u2_o (by omega), u2_o (by omega), u2_o (by omega), u2_o (by omega), u2_o (by omega), u2_o (by omega), u2_o (by omega), u2_o (by omega), u2_o (by omega), u2_o (by omega)]
    exact a3
  · rw [u2_nc (by omega), u2_nc (by omega)]; exact a7 m hm hn
  · rw [u2_o (by omega)] at hq
    obtain ⟨⟨q1, q2, q3, q4, q5, q6⟩, q7⟩ := a8 q hq
    unfold Rpap
    rw [u2_o (by omega), u2_o (by omega), u2_nc (show (6 : Nat) ≠ 10 by omega), u2_nc (show (7 : Nat) ≠ 10 by omega), u2_nc (show (8 : Nat) ≠ 10 by omega), u2_nc (show (9 : Nat) ≠ 10 by omega), u2_nc (show (11 : Nat) ≠ 10 by omega)]
    by_cases e : q = p
    · subst e
      rw [u2_self, u2_nk (by omega), u2_nk (by omega), u2_nk (by omega), u2_nk (by omega), u2_self, u2_nk (by omega)]
      exact ⟨⟨q1, q2, q3, q4, rfl, q6⟩, q7⟩
    · rw [u2_nc (show 33 + q ≠ 33 + p by omega), u2_nk e]
      exact ⟨⟨q1, q2, q3, q4, q5, q6⟩, q7⟩
  · exact Rsh_congr (a9 k hk) (u2_nc (by omega)) (u2_nc (by omega)) (by rw [u2_nc (by omega)]) (by rw [u2_nc (by omega)]) (fun i _ => by rw [u2_nc (by omega)])
theorem q_wash (h : R j σ τ) (hj : j < 512) (a0 a1 : Int32) : (f_X3_wash σ a0 a1).1 = (f_X4_wash τ a0 a1).1 ∧ R (j + 1) (f_X3_wash σ a0 a1).2 (f_X4_wash τ a0 a1).2 := by
  unfold f_X3_wash f_X4_wash f_X3_isWashed
  by_cases g : f_X4_noPaper τ a0 = 0
  case neg => rw [if_pos ((R_paper h).mpr g), if_neg g]; exact ⟨rfl, R_up h⟩
  rw [if_neg (fun q => (R_paper h).mp q g), if_pos g]
  by_cases g1 : f_X4_noSmell a1 = 0
  case neg => rw [if_pos (s_smell.mpr g1), if_neg g1]; exact ⟨rfl, R_up h⟩
  rw [if_neg (fun q => s_smell.mp q g1), if_pos g1]
  have hm := noSmell_z.mp g1
  have e := (R_Rpap h (noPaper_z.mp g)).1.2.2.2.2.1
  rw [e]
  have n10 : ¬ (1 : Int32) = 0 := by decide
  rcases and1 (τ 10 (ix a0) >>> (a1 &&& 31)) with q | q
  · rw [q, if_pos rfl, if_pos rfl]
    exact ⟨by show (1 : Int32) = 1 - 0; decide, R_up (R_wash1 h _)⟩
  · rw [if_neg (show ¬ (if (τ 10 (ix a0) >>> (a1 &&& 31)) &&& 1 = 0 then (0 : Int32) else 1) = 0 by rw [q, if_neg n10]; exact n10), q]
    have em := ix_toInt hm.1
    have eo : τ 10 (ix a0) ||| ((1 : Int32) <<< (a1 &&& 31)) = τ 10 (ix a0) := by
      have := or_bit (w := τ 10 (ix a0)) (m := ix a1) (by omega)
      rw [← nI_ix hm.1] at this
      exact this (by rw [q]; exact n10)
    rw [eo, u2_id]
    exact ⟨by show (0 : Int32) = 1 - 1; decide, R_up h⟩
theorem sh_65 {a n : Int32} (ha : 0 ≤ a.toInt ∧ a.toInt < 4) (hn : n.toInt ≤ 90) : ∀ (N : Nat) (k : Int32) (S : St), 0 ≤ k.toInt → n.toInt - k.toInt < N → (∀ c, c ≠ 16 → lp_X4_sheet_65 a n N k S c = S c) ∧ (∀ i : Nat, lp_X4_sheet_65 a n N k S 16 i = if 90 * a.toInt + k.toInt ≤ i ∧ (i : Int) < 90 * a.toInt + n.toInt then 0 else S 16 i) := by
  intro N
  induction N with
  | zero =>
    intro k S h0 h1
    exact ⟨fun c hc => rfl, fun i => by rw [if_neg (by omega)]; rfl⟩
  | succ N ih =>
    intro k S h0 h1
    rw [lp_X4_sheet_65]
    by_cases c : n ≤ k
    · have := qt_le c
      rw [if_pos c]
      exact ⟨fun c hc => rfl, fun i => by rw [if_neg (by omega)]⟩
    · have c' := qt_nle c
      have h3 := inc_toInt (a := k) h0 (by omega)
      rw [if_neg c, ix_90 ha (by omega)]
      obtain ⟨i1, i2⟩ := ih (k + 1) (u2 S 16 (90 * ix a + ix k) 0) (by omega) (by omega)
      have e1 := ix_toInt ha.1
      have e2 := ix_toInt h0
      refine ⟨fun c hc => by rw [i1 c hc, u2_nc hc], fun i => ?_⟩
      rw [i2 i]
      by_cases ei : i = 90 * ix a + ix k
      · subst ei
        rw [if_neg (by omega), u2_self, if_pos (by omega)]
      · rw [u2_nk ei]
        by_cases q : 90 * a.toInt + k.toInt ≤ i ∧ (i : Int) < 90 * a.toInt + n.toInt
        · rw [if_pos q, if_pos (by omega)]
        · rw [if_neg q, if_neg (by omega)]
theorem R_sheet (h : R j σ τ) {S T : St} {k : Nat} {lane n : Int32} (hk : k < 4) (hl : 0 ≤ lane.toInt ∧ lane.toInt ≤ 2) (hn : 0 ≤ n.toInt ∧ n.toInt ≤ 90) (s0 : ∀ i, i ≠ 9 → S 0 i = σ 0 i) (t0 : ∀ i, i ≠ 0 → T 0 i = τ 0 i) (f : S 0 9 = T 0 0) (sk : S (9 + k) 0 = 1 ∧ S (9 + k) 1 = lane ∧ S (9 + k) 2 = n) (sc : ∀ i : Nat, (i : Int) < n.toInt → S (13 + k) i = T 16 (90 * k + i)) (so : ∀ c, c ≠ 0 → c ≠ 9 + k → c ≠ 13 + k → S c = σ c) (to : ∀ c, c ≠ 0 → c ≠ 14 → c ≠ 15 → c ≠ 16 → T c = τ c) (t14 : ∀ i, T 14 i = if i = k then n else τ 14 i) (t15 : ∀ i, T 15 i = if i = k then lane else τ 15 i) (t16 : ∀ k' i : Nat, k' < 4 → k' ≠ k → i < 90 → T 16 (90 * k' + i) = τ 16 (90 * k' + i)) : R j S T := by
  have h' := h
  obtain ⟨a1, a2, a3, a4, a5, a6, a7, a8, a9, a10⟩ := h'
  refine R_mk h ?_ ?_ ?_ (t0 1 (by omega)) (by rw [t0 3 (by omega)]; exact a5) (fun x hx => ⟨so _ (by omega) (by omega) (by omega), so _ (by omega) (by omega) (by omega)⟩) (to 1 (by omega) (by omega) (by omega) (by omega)) (to 2 (by omega) (by omega) (by omega) (by omega)) (so 8 (by omega) (by omega) (by omega)) (fun m hm hnz => by rw [so 4 (by omega) (by omega) (by omega), to 3 (by omega) (by omega) (by omega) (by omega)]; exact a7 m hm hnz) (fun q hq => ?_) (fun k' hk' => ?_)
  · obtain ⟨b1, b2, b3, b4, b5, b6⟩ := a1
    refine ⟨by rw [s0 4 (by omega)]; exact b1, by rw [s0 5 (by omega)]; exact b2, fun m hm hnz => by rw [s0 4 (by omega)] at hnz; rw [so 4 (by omega) (by omega) (by omega)]; exact b3 m hm hnz, fun q hq => ?_, fun p hp => by rw [so _ (by omega) (by omega) (by omega)]; exact b5 p hp, by rw [s0 6 (by omega)]; exact b6⟩
    by_cases e : q = k
    · subst e; rw [sk.2.2]; exact hn
    · rw [so _ (by omega) (by omega) (by omega)]; exact b4 q hq
  · obtain ⟨b1, b2, b3, b4, b5, b6, b7, b8⟩ := a2
    refine ⟨by rw [t0 1 (by omega)]; exact b1, by rw [t0 11 (by omega)]; exact b2, fun m hm hnz => by rw [t0 1 (by omega)] at hnz; rw [to 3 (by omega) (by omega) (by omega) (by omega)]; exact b3 m hm hnz, fun q hq => ?_, by rw [to 6 (by omega) (by omega) (by omega) (by omega), to 7 (by omega) (by omega) (by omega) (by omega)]; exact b5, by rw [t0 2 (by omega)]; exact b6, by rw [to 8 (by omega) (by omega) (by omega) (by omega)]; exact b7, by rw [t0 11 (by omega), t0 1 (by omega)]; exact b8⟩
    rw [t14]
    by_cases e : q = k
    · rw [if_pos e]; omega
    · rw [if_neg e]; exact b4 q hq
  · rw [s0 4 (by omega), s0 5 (by omega), s0 6 (by omega), s0 7 (by omega), s0 8 (by omega), t0 1 (by omega), t0 11 (by omega), t0 2 (by omega), t0 3 (by omega), t0 24 (by omega)]
    exact ⟨a3.1, a3.2.1, a3.2.2.1, a3.2.2.2.1, a3.2.2.2.2.1, f⟩
  · rw [t0 11 (by omega)] at hq
    refine Rpap_congr (a8 q hq) (so _ (by omega) (by omega) (by omega)) (t0 1 (by omega)) (t0 2 (by omega)) ?_
    rw [to 6 (by omega) (by omega) (by omega) (by omega), to 7 (by omega) (by omega) (by omega) (by omega), to 8 (by omega) (by omega) (by omega) (by omega), to 9 (by omega) (by omega) (by omega) (by omega), to 10 (by omega) (by omega) (by omega) (by omega), to 11 (by omega) (by omega) (by omega) (by omega)]
    exact ⟨rfl, rfl, rfl, rfl, rfl, rfl⟩
  · by_cases e : k' = k
    · subst e
      exact Or.inr ⟨sk.1, by rw [t14, if_pos rfl]; exact sk.2.2, by rw [t14, if_pos rfl]; exact hn, by rw [t15, if_pos rfl]; exact sk.2.1, by rw [t15, if_pos rfl]; exact hl, fun i hi => by rw [t14, if_pos rfl] at hi; exact sc i hi⟩
    · have hb := a2.2.2.2.1 k' hk'
      exact Rsh_congr (a9 k' hk') (so _ (by omega) (by omega) (by omega)) (so _ (by omega) (by omega) (by omega)) (by rw [t14, if_neg e]) (by rw [t15, if_neg e]) (fun i hi => t16 k' i hk' e (by omega))
theorem q_sheet (h : R j σ τ) (hj : j < 512) (a0 a1 a2 : Int32) : (f_X3_sheet σ a0 a1 a2).1 = (f_X4_sheet τ a0 a1 a2).1 ∧ R (j + 1) (f_X3_sheet σ a0 a1 a2).2 (f_X4_sheet τ a0 a1 a2).2 := by
  unfold f_X3_sheet f_X4_sheet
  by_cases g : f_X4_noSheet a0 = 0
  case neg => rw [if_pos (s_sheet.mpr g), if_neg g]; exact Q_refused h _
  rw [if_neg (fun q => s_sheet.mp q g), if_pos g]
  have hk := noSheet_z.mp g
  by_cases g1 : f_X4_in a1.toInt64 0 2 = 0
  · rw [if_pos (s_lane.mpr g1), if_pos g1]; exact Q_refused h _
  rw [if_neg (fun q => g1 (s_lane.mp q)), if_neg g1]
  have hl : 0 ≤ a1.toInt ∧ a1.toInt ≤ 2 := Classical.not_not.mp (fun q => g1 ((in_i (L := 0) (H := 2) (by decide) (by decide)).mpr q))
  by_cases c : a2 ≤ 90
  case neg => rw [if_neg c, if_neg c]; exact Q_refused h _
  rw [if_pos c, if_pos c]
  by_cases d : 0 ≤ a2
  case neg => rw [if_neg d, if_neg d]; exact Q_failed h 4
  rw [if_pos d, if_pos d]
  have hn : 0 ≤ a2.toInt ∧ a2.toInt ≤ 90 := ⟨qt_le d, qt_le c⟩
  refine ⟨rfl, R_up ?_⟩
  have e0 := ix_toInt hk.1
  have z0 : (0 : Int32).toInt = 0 := by decide
  obtain ⟨m1, m2⟩ := sh_65 (n := a2) hk hn.2 200 0 (u2 (u2 τ 14 (ix a0) a2) 15 (ix a0) a1) (by decide) (by omega)
  show R j (f_X1_renew (u2 σ 0 9 0) (ix a0) a1 a2) (u2 (lp_X4_sheet_65 a0 a2 200 0 (u2 (u2 τ 14 (ix a0) a2) 15 (ix a0) a1)) 0 0 0)
  generalize lp_X4_sheet_65 a0 a2 200 0 (u2 (u2 τ 14 (ix a0) a2) 15 (ix a0) a1) = T at m1 m2 ⊢
  generalize hkk : ix a0 = k at *
  unfold f_X1_renew
  refine R_sheet h (k := k) (lane := a1) (n := a2) (by omega) hl hn (fun i hi => ?_) (fun i hi => ?_) ?_ ?_ (fun i hi => ?_) (fun c c0 c9 c13 => ?_) (fun c c0 c14 c15 c16 => ?_) (fun i => ?_) (fun i => ?_) (fun k' i hk' hne hi => ?_)
  · rw [u1_ne _ (by omega), u2_o (by omega), u2_o (by omega), u2_o (by omega), u2_nk hi]
  · rw [u2_nk hi, m1 0 (by omega), u2_o (by omega), u2_o (by omega)]
  · rw [u1_ne _ (by omega), u2_o (by omega), u2_o (by omega), u2_o (by omega), u2_self, u2_self]
  · rw [u1_ne _ (by omega), u2_self, u2_nk (by omega), u2_nk (by omega), u2_self, u2_nk (by omega), u2_self]
    exact ⟨rfl, rfl, rfl⟩
  · rw [u1_same, u2_nc (show (16 : Nat) ≠ 0 by omega), m2, if_pos (by omega)]
    unfold fillF
    rw [if_pos (by omega)]
  · rw [u1_ne _ c13, u2_nc c9, u2_nc c9, u2_nc c9, u2_nc c0]
  · rw [u2_nc c0, m1 c c16, u2_nc c15, u2_nc c14]
  · rw [u2_nc (by omega), m1 14 (by omega), u2_nc (by omega)]
    by_cases e : i = k
    · subst e; rw [u2_self, if_pos rfl]
    · rw [u2_nk e, if_neg e]
  · rw [u2_nc (by omega), m1 15 (by omega)]
    by_cases e : i = k
    · subst e; rw [u2_self, if_pos rfl]
    · rw [u2_nk e, if_neg e, u2_nc (by omega)]
  · rw [u2_nc (by omega), m2, if_neg (by omega), u2_nc (by omega), u2_nc (by omega)]
end REL8
