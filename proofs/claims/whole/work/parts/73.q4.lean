/-! the SHEETS, in step -/
theorem lacks_iff {σ : St} {r : Nat} {i : Int32} {n : Int64} (hn : -4294967296 ≤ n.toInt ∧ n.toInt < 4294967296) : f_X1_lacks σ r i n = 0 ↔ (0 ≤ i.toInt ∧ i.toInt + n.toInt ≤ (σ (9 + r) 2).toInt) := by
  constructor
  · intro h
    have := bf_lacks_z h
    exact ⟨this.1, this.2 hn.2 hn.1⟩
  · intro h
    unfold f_X1_lacks
    have h6 := lb i
    rw [if_neg (qm_nlt (x := i) (y := 0) h.1), if_pos ((lg_cmp_le _ _).mpr (Int64.le_iff_toInt_le.mpr (by rw [la_toInt (by rw [Int32.toInt_toInt64]; omega) (by rw [Int32.toInt_toInt64]; omega), Int32.toInt_toInt64, Int32.toInt_toInt64]; exact h.2)))]
theorem beyond_iff {i a : Int32} {n : Int64} (hn : n.toInt < 4294967296) : f_X4_isBeyond i n a = 0 ↔ (0 ≤ i.toInt ∧ 0 ≤ n.toInt ∧ i.toInt + n.toInt ≤ a.toInt) := by
  constructor
  · intro h
    have := bf_isBeyond_z h
    exact ⟨this.1, this.2.1, this.2.2 hn⟩
  · intro h
    unfold f_X4_isBeyond
    have h6 := lb i
    have h7 : (0 : Int64).toInt = 0 := by decide
    rw [if_neg (qm_nlt (x := i) (y := 0) h.1), if_neg (fun q => by have := lg_lt q; omega), if_pos ((lg_cmp_le _ _).mpr (Int64.le_iff_toInt_le.mpr (by rw [la_toInt (by rw [Int32.toInt_toInt64]; omega) (by rw [Int32.toInt_toInt64]; omega), Int32.toInt_toInt64, Int32.toInt_toInt64]; exact h.2.2)))]
/-- a span's refusal on both sides -/
def Sp (σ τ : St) (x y : Int32 × St) : Prop := (x = (0, u2 σ 0 9 0) ∧ y = (0, τ)) ∨ (¬ x.1 = 0 ∧ ¬ 0 ≤ y.1 ∧ x.1 = y.1 ∧ ∃ v, x.2 = u2 σ 0 9 v ∧ y.2 = u2 τ 0 0 v)
section REL4
variable {j : Nat} {σ τ : St}
theorem R_Rsh (h : R j σ τ) {k : Int32} (hk : 0 ≤ k.toInt ∧ k.toInt < 4) : Rsh σ τ (ix k) := h.2.2.2.2.2.2.2.2.1 (ix k) (by have := ix_toInt hk.1; omega)
theorem R_span (h : R j σ τ) {k lane i : Int32} {n : Int64} (hn : -4294967296 ≤ n.toInt ∧ n.toInt < 4294967296) : Sp σ τ (f_X3_spanRefusal σ k lane i n) (f_X4_barred τ k lane i n) := by
  have rf : ∀ v : Int32, ¬ v = 0 → ¬ 0 ≤ v → Sp σ τ ((f_X3_refused σ v).1, (f_X3_refused σ v).2) ((f_X4_refused τ v).1, (f_X4_refused τ v).2) := fun v h1 h2 => Or.inr ⟨h1, h2, rfl, 0, rfl, rfl⟩
  have fl : ∀ v : Int32, ¬ (-10 - v) = 0 → ¬ 0 ≤ (-10 - v) → Sp σ τ ((f_X3_faulted σ v).1, (f_X3_faulted σ v).2) ((f_X4_failed τ v).1, (f_X4_failed τ v).2) := fun v h1 h2 => Or.inr ⟨h1, h2, rfl, v, rfl, rfl⟩
  unfold f_X3_spanRefusal f_X4_barred
  by_cases g : f_X4_noSheet k = 0
  case neg => rw [if_pos (s_sheet.mpr g), if_neg g]; exact rf _ (by decide) (by decide)
  rw [if_neg (fun q => s_sheet.mp q g), if_pos g]
  by_cases g1 : f_X4_in lane.toInt64 0 2 = 0
  · rw [if_pos (s_lane.mpr g1), if_pos g1]; exact rf _ (by decide) (by decide)
  rw [if_neg (fun q => g1 (s_lane.mp q)), if_neg g1]
  have z0 : (0 : Int32).toInt = 0 := by decide
  rcases R_Rsh h (noSheet_z.mp g) with ⟨q1, q2⟩ | ⟨q1, q2, q3, q4, q5, q6⟩
  · rw [q1, q2, if_pos rfl, if_pos rfl, if_pos (by decide), if_neg (by decide)]
    exact fl 1 (by decide) (by decide)
  have n1 : ¬ (1 : Int32) = 0 := by decide
  have ge : (0 : Int32) ≤ τ 14 (ix k) := qm_le (by omega)
  rw [q1, if_neg n1, if_neg n1, if_neg (qm_nlt (x := τ 14 (ix k)) (y := 0) q3.1), if_pos ge, q4]
  by_cases l : τ 15 (ix k) = lane
  case neg => rw [if_neg l, if_neg l]; exact fl 2 (by decide) (by decide)
  rw [if_pos l, if_pos l]
  by_cases c : 0 ≤ lg_cmp n 0
  case neg => rw [if_neg c, if_neg c]; exact fl 4 (by decide) (by decide)
  rw [if_pos c, if_pos c]
  have c' : (0 : Int64).toInt ≤ n.toInt := Int64.le_iff_toInt_le.mp ((lg_cmp_ge n 0).mp c)
  have z0l : (0 : Int64).toInt = 0 := by decide
  by_cases b : f_X4_isBeyond i n (τ 14 (ix k)) = 0
  · have b' := (beyond_iff hn.2).mp b
    rw [if_pos b, if_pos ((lacks_iff hn).mpr ⟨b'.1, by rw [q2]; exact b'.2.2⟩)]
    exact Or.inl ⟨rfl, rfl⟩
  · rw [if_neg b, if_neg (fun q => b ((beyond_iff hn.2).mpr (by have q' := (lacks_iff hn).mp q; rw [q2] at q'; exact ⟨q'.1, by omega, q'.2⟩)))]
    exact fl 3 (by decide) (by decide)
/-- one cell of a SHEET -/
theorem R_put1 (h : R j σ τ) {k i : Nat} {v : Int32} (hk : k < 4) (hi : i < 90) : R j (u2 σ (13 + k) i v) (u2 τ 16 (90 * k + i) v) := by
  have h' := h
  obtain ⟨a1, a2, a3, a4, a5, a6, a7, a8, a9, a10⟩ := h'
  refine R_mk h (okC_scr (by unfold scrC; omega) a1) (okM_scr (by unfold scrM; omega) a2) ?_ (u2_o (by omega) _) (by rw [u2_o (by omega)]; exact a5) (fun x hx => ⟨u2_nc (by omega), u2_nc (by omega)⟩) (u2_nc (by omega)) (u2_nc (by omega)) (u2_nc (by omega)) (fun m hm hn => ?_) (fun p hp => ?_) (fun k' hk' => ?_)
  · rw [u2_o (by omega), u2_o (by omega), u2_o (by omega), u2_o (by omega), u2_o (by omega), u2_o (by omega), u2_o (by omega), u2_o (by omega), u2_o (by omega), u2_o (by omega), u2_o (by omega), u2_o (by omega)]
    exact a3
  · rw [u2_nc (by omega), u2_nc (by omega)]; exact a7 m hm hn
  · rw [u2_o (by omega)] at hp
    exact Rpap_congr (a8 p hp) (u2_nc (by omega)) (u2_o (by omega) _) (u2_o (by omega) _) ⟨by rw [u2_nc (by omega)], by rw [u2_nc (by omega)], by rw [u2_nc (by omega)], by rw [u2_nc (by omega)], by rw [u2_nc (by omega)], by rw [u2_nc (by omega)]⟩
  · have hb := a2.2.2.2.1 k' hk'
    by_cases e : k' = k
    · subst e
      have q := a9 k' hk'
      unfold Rsh at q ⊢
      rw [u2_nc (show 9 + k' ≠ 13 + k' by omega), u2_nc (show (14 : Nat) ≠ 16 by omega), u2_nc (show (15 : Nat) ≠ 16 by omega)]
      rcases q with q | ⟨q1, q2, q3, q4, q5, q6⟩
      · exact Or.inl q
      · refine Or.inr ⟨q1, q2, q3, q4, q5, fun i' hi' => ?_⟩
        by_cases ei : i' = i
        · subst ei; rw [u2_self, u2_self]
        · rw [u2_nk ei, u2_nk (by omega)]; exact q6 i' hi'
    · exact Rsh_congr (a9 k' hk') (u2_nc (by omega)) (u2_nc (by omega)) (by rw [u2_nc (by omega)]) (by rw [u2_nc (by omega)]) (fun i' hi' => u2_nk (by omega))
theorem ix_90 {a b : Int32} (ha : 0 ≤ a.toInt ∧ a.toInt < 4) (hb : 0 ≤ b.toInt ∧ b.toInt < 90) : ix (90 * a + b) = 90 * ix a + ix b := by
  have e1 := km_toInt (a := a) (k := 90) (z := 90) (by decide) (by omega) (by omega)
  have e2 := a_toInt (a := 90 * a) (b := b) (by omega) (by omega)
  have e3 := ix_toInt (x := 90 * a + b) (by omega)
  have e4 := ix_toInt ha.1
  have e5 := ix_toInt hb.1
  omega
theorem q_put (h : R j σ τ) (hj : j < 512) (a0 a1 a2 : Int32) : (f_X3_put σ a0 a1 a2).1 = (f_X4_put τ a0 a1 a2).1 ∧ R (j + 1) (f_X3_put σ a0 a1 a2).2 (f_X4_put τ a0 a1 a2).2 := by
  unfold f_X3_put f_X4_put f_X4_noCell
  by_cases g : f_X4_noSheet a0 = 0
  case neg => rw [if_pos (s_sheet.mpr g), if_neg g]; exact Q_refused h _
  rw [if_neg (fun q => s_sheet.mp q g), if_pos g]
  have hk := noSheet_z.mp g
  have z0 : (0 : Int32).toInt = 0 := by decide
  have z1 : (1 : Int64).toInt = 1 := by decide
  rcases R_Rsh h hk with ⟨q1, q2⟩ | ⟨q1, q2, q3, q4, q5, q6⟩
  · have w : ¬ (if (0 : Int32) ≤ τ 14 (ix a0) then (if f_X4_in a1.toInt64 0 ((τ 14 (ix a0)).toInt64 - 1) = 0 then (3 : Int32) else 0) else 1) ≤ 0 := by rw [q2, if_neg (by decide)]; decide
    rw [if_pos q1, if_neg w, q2, if_neg (by decide)]
    exact Q_failed h 1
  have n1 : ¬ (1 : Int32) = 0 := by decide
  have ge : (0 : Int32) ≤ τ 14 (ix a0) := qm_le (by omega)
  rw [q1, if_neg n1, if_pos ge]
  by_cases w : 0 ≤ a1.toInt ∧ a1.toInt ≤ (τ 14 (ix a0)).toInt - 1
  · rw [if_pos ((lacks_iff (by rw [z1]; omega)).mpr (by rw [z1, q2]; omega)), if_neg (in_p w (by decide) (m1_toInt _)), if_pos (by decide)]
    refine ⟨rfl, ?_⟩
    have e1 := ix_toInt w.1
    have e0 := ix_toInt hk.1
    have ec : f_X1_cut (u2 σ 0 9 0) (ix a0) a2 = if τ 15 (ix a0) = 0 then a2.toInt8.toInt32 else if τ 15 (ix a0) = 1 then a2.toInt16.toInt32 else a2 := by
      unfold f_X1_cut
      rw [u2_nc (by omega), q4]
    rw [ec, ix_90 hk (by omega)]
    have r := R_put1 (R_fault h 0) (k := ix a0) (i := ix a1) (v := if τ 15 (ix a0) = 0 then a2.toInt8.toInt32 else if τ 15 (ix a0) = 1 then a2.toInt16.toInt32 else a2) (by omega) (by omega)
    refine R_up (R_fs r (fun k hk => rfl) (fun k k0 _ _ => ?_) ?_ (fun c _ _ _ _ => rfl) (fun c c0 _ _ _ _ _ => ?_))
    · show u2 _ 0 0 0 0 k = _
      rw [u2_nk k0, u2_o (by omega), u2_o (by omega), u2_nk k0]
    · unfold f_X4_refused
      dsimp only
      rw [u2_o (by omega), u2_self, u2_self]
    · show u2 _ 0 0 0 c = _
      rw [u2_nc c0]
      by_cases c16 : c = 16
      · subst c16
        unfold u2
        rw [u1_same, u1_same, u1_ne _ (by omega)]
      · rw [u2_nc c16, u2_nc c16, u2_nc c0]
  · have hl : ¬ f_X1_lacks σ (ix a0) a1 1 = 0 := fun q => w (by have := (lacks_iff (by rw [z1]; omega)).mp q; rw [z1, q2] at this; omega)
    rw [if_neg hl, if_pos (in_n w (by decide) (m1_toInt _)), if_neg (by decide)]
    exact Q_failed h 3
theorem q_cell (h : R j σ τ) (hj : j < 512) (a0 a1 a2 : Int32) : (f_X3_cell σ a0 a1 a2).1 = (f_X4_cell τ a0 a1 a2).1 ∧ R (j + 1) (f_X3_cell σ a0 a1 a2).2 (f_X4_cell τ a0 a1 a2).2 := by
  have z0 : (0 : Int32).toInt = 0 := by decide
  have z1 : (1 : Int64).toInt = 1 := by decide
  have T0 : ∀ c, c ≠ 0 → u2 τ 0 0 0 c = τ c := fun c hc => u2_nc hc
  unfold f_X3_cell f_X4_cell f_X4_noCell
  rw [T0 14 (by omega), T0 15 (by omega), T0 16 (by omega)]
  have F : ∀ v : Int32, R (j + 1) (u2 σ 0 9 v) (u2 (u2 τ 0 0 0) 0 0 v) := fun v => R_up (R_fs (R_fault h v) (fun k hk => rfl) (fun k k0 _ _ => by rw [u2_nk k0, u2_nk k0, u2_nk k0]) (by rw [u2_self, u2_self]) (fun c _ _ _ _ => rfl) (fun c c0 _ _ _ _ _ => by rw [u2_nc c0, u2_nc c0, u2_nc c0]))
  have G := R_up (R_fault h 0)
  have ff : ∀ v : Int32, ¬ (-10 - v) = 0 → ¬ ((f_X3_faulted σ v).1, (f_X3_faulted σ v).2).1 = 0 := fun v h => h
  unfold f_X3_spanRefusal
  by_cases g : f_X4_noSheet a0 = 0
  case neg =>
    rw [if_pos (s_sheet.mpr g), if_neg g]
    exact ⟨rfl, G⟩
  rw [if_neg (fun q => s_sheet.mp q g), if_pos g]
  have hk := noSheet_z.mp g
  by_cases g1 : f_X4_in a2.toInt64 0 2 = 0
  · rw [if_pos (s_lane.mpr g1), if_pos g1]
    exact ⟨rfl, G⟩
  rw [if_neg (fun q => g1 (s_lane.mp q)), if_neg g1]
  rcases R_Rsh h hk with ⟨q1, q2⟩ | ⟨q1, q2, q3, q4, q5, q6⟩
  · rw [q1, q2, if_pos rfl, if_pos rfl, if_neg (ff 1 (by decide)), if_pos (show (-1 : Int32) < 0 by decide), if_neg (show ¬ (0 : Int32) ≤ -1 by decide), if_neg (show ¬ (1 : Int32) ≤ 0 by decide)]
    exact ⟨rfl, F 1⟩
  have n1 : ¬ (1 : Int32) = 0 := by decide
  have ge : (0 : Int32) ≤ τ 14 (ix a0) := qm_le (by omega)
  rw [q1, if_neg n1, if_neg n1, if_neg (qm_nlt (x := τ 14 (ix a0)) (y := 0) q3.1), if_pos ge, q4, if_pos (show (0 : Int32) ≤ lg_cmp 1 0 by decide)]
  by_cases l : τ 15 (ix a0) = a2
  case neg => rw [if_neg l, if_neg l, if_neg (ff 2 (by decide))]; exact ⟨rfl, F 2⟩
  rw [if_pos l, if_pos l]
  by_cases w : 0 ≤ a1.toInt ∧ a1.toInt ≤ (τ 14 (ix a0)).toInt - 1
  · rw [if_pos ((lacks_iff (by rw [z1]; omega)).mpr (by rw [z1, q2]; omega)), if_neg (in_p w (by decide) (m1_toInt _)), if_pos (show ((0 : Int32), u2 σ 0 9 0).1 = 0 from rfl), if_pos (show (0 : Int32) ≤ 0 by decide)]
    refine ⟨?_, G⟩
    have e1 := ix_toInt w.1
    show (u2 σ 0 9 0 (13 + ix a0) (ix a1)).toInt64 = _
    rw [u2_nc (by omega), ix_90 hk (by omega), q6 (ix a1) (by omega)]
  · have hl : ¬ f_X1_lacks σ (ix a0) a1 1 = 0 := fun q => w (by have := (lacks_iff (by rw [z1]; omega)).mp q; rw [z1, q2] at this; omega)
    rw [if_neg hl, if_neg (ff 3 (by decide)), if_pos (in_n w (by decide) (m1_toInt _)), if_neg (show ¬ (3 : Int32) ≤ 0 by decide)]
    exact ⟨rfl, F 3⟩
theorem q_lose (h : R j σ τ) (hj : j < 512) (a0 : Int32) : (f_X3_lose σ a0).1 = (f_X4_lose τ a0).1 ∧ R (j + 1) (f_X3_lose σ a0).2 (f_X4_lose τ a0).2 := by
  unfold f_X3_lose f_X4_lose
  by_cases g : f_X4_noSheet a0 = 0
  case neg => rw [if_pos (s_sheet.mpr g), if_neg g]; exact ⟨rfl, R_up h⟩
  rw [if_neg (fun q => s_sheet.mp q g), if_pos g]
  have hk := noSheet_z.mp g
  have e0 := ix_toInt hk.1
  refine ⟨?_, ?_⟩
  · show (if σ (9 + ix a0) 0 = 0 then (0 : Int32) else 1) = if 0 ≤ τ 14 (ix a0) then 1 else 0
    rcases R_Rsh h hk with ⟨q1, q2⟩ | ⟨q1, q2, q3, q4, q5, q6⟩
    · rw [q1, q2, if_pos rfl, if_neg (by decide)]
    · have z0 : (0 : Int32).toInt = 0 := by decide
      rw [q1, if_neg (by decide), if_pos (qm_le (by omega))]
  · show R (j + 1) (u2 σ (9 + ix a0) 0 0) (u2 τ 14 (ix a0) (-1))
    have h' := h
    obtain ⟨a1, a2, a3, a4, a5, a6, a7, a8, a9, a10⟩ := h'
    refine R_up (R_mk h ?_ ?_ ?_ (u2_o (by omega) _) (by rw [u2_o (by omega)]; exact a5) (fun x hx => ⟨u2_nc (by omega), u2_nc (by omega)⟩) (u2_nc (by omega)) (u2_nc (by omega)) (u2_nc (by omega)) (fun m hm hn => ?_) (fun p hp => ?_) (fun k' hk' => ?_))
    · refine okC_cell a1 ⟨u2_o (by omega) _, u2_o (by omega) _, u2_o (by omega) _⟩ (u2_nc (by omega)) (fun q hq => ?_) (fun p hp => by rw [u2_nc (by omega)]; exact ⟨rfl, rfl⟩)
      by_cases e : 9 + q = 9 + ix a0
      · rw [e, u2_nk (by omega)]
      · rw [u2_nc e]
    · obtain ⟨b1, b2, b3, b4, b5, b6, b7, b8⟩ := a2
      refine ⟨by rw [u2_o (by omega)]; exact b1, by rw [u2_o (by omega)]; exact b2, fun m hm hn => by rw [u2_o (by omega)] at hn; rw [u2_nc (by omega)]; exact b3 m hm hn, fun q hq => ?_, by rw [u2_nc (by omega), u2_nc (by omega)]; exact b5, by rw [u2_o (by omega)]; exact b6, by rw [u2_nc (by omega)]; exact b7, by rw [u2_o (by omega), u2_o (by omega)]; exact b8⟩
      by_cases e : q = ix a0
      · rw [e, u2_self]; decide
      · rw [u2_nk e]; exact b4 q hq
    · rw [u2_o (by omega), u2_o (by omega), u2_o (by omega), u2_o (by omega), u2_o (by omega), u2_o (by omega), u2_o (by omega), u2_o (by omega), u2_o (by omega), u2_o (by omega), u2_o (by omega), u2_o (by omega)]
      exact a3
    · rw [u2_nc (by omega), u2_nc (by omega)]; exact a7 m hm hn
    · rw [u2_o (by omega)] at hp
      exact Rpap_congr (a8 p hp) (u2_nc (by omega)) (u2_o (by omega) _) (u2_o (by omega) _) ⟨by rw [u2_nc (by omega)], by rw [u2_nc (by omega)], by rw [u2_nc (by omega)], by rw [u2_nc (by omega)], by rw [u2_nc (by omega)], by rw [u2_nc (by omega)]⟩
    · by_cases e : k' = ix a0
      · exact Or.inl ⟨by rw [e, u2_self], by rw [e, u2_self]⟩
      · exact Rsh_congr (a9 k' hk') (u2_nc (by omega)) (u2_nc (by omega)) (u2_nk e) (by rw [u2_nc (by omega)]) (fun i' hi' => by rw [u2_nc (by omega)])
end REL4
