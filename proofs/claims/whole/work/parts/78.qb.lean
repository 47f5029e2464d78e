/-! odds -/
theorem R_span2 {σ τ : St} (hs : ∀ k : Int32, 0 ≤ k.toInt ∧ k.toInt < 4 → Rsh σ τ (ix k)) {k lane i : Int32} {n : Int64} (hn : -4294967296 ≤ n.toInt ∧ n.toInt < 4294967296) : Sp σ τ (f_X3_spanRefusal σ k lane i n) (f_X4_barred τ k lane i n) := by
  have rf : ∀ v : Int32, ¬ v = 0 → ¬ 0 ≤ v → Sp σ τ ((f_X3_refused σ v).1, (f_X3_refused σ v).2) ((f_X4_refused τ v).1, (f_X4_refused τ v).2) := fun v h1 h2 => Or.inr ⟨h1, h2, rfl, 0, rfl, rfl⟩
  have fl : ∀ v : Int32, ¬ (-10 - v) = 0 → ¬ 0 ≤ (-10 - v) → Sp σ τ ((f_X3_faulted σ v).1, (f_X3_faulted σ v).2) ((f_X4_failed τ v).1, (f_X4_failed τ v).2) := fun v h1 h2 => Or.inr ⟨h1, h2, rfl, v, rfl, rfl⟩
  unfold f_X3_spanRefusal f_X4_barred
  by_cases g : f_X4_noSheet k = 0
  case neg => rw [if_pos (s_sheet.mpr g), if_neg g]; exact rf _ (by decide) (by decide)
  rw [if_neg (fun q => s_sheet.mp q g), if_pos g]
  by_cases g1 : f_X4_in lane.toInt64 0 2 = 0
  · rw [if_pos (s_lane.mpr g1), if_pos g1]; exact rf _ (by decide) (by decide)
  rw [if_neg (fun q => g1 (s_lane.mp q)), if_neg g1]
  have z0 : (0 : Int32).toInt = 0 := by decide
  rcases hs k (noSheet_z.mp g) with ⟨q1, q2⟩ | ⟨q1, q2, q3, q4, q5, q6⟩
  · rw [q1, q2, if_pos rfl, if_pos rfl, if_pos (by decide), if_neg (by decide)]
    exact fl 1 (by decide) (by decide)
  have n1 : ¬ (1 : Int32) = 0 := by decide
  have ge : (0 : Int32) ≤ τ 14 (ix k) := qm_le (by omega)
  rw [q1, if_neg n1, if_neg n1, if_neg (qm_nlt (x := τ 14 (ix k)) (y := 0) q3.1), if_pos ge, q4]
  by_cases l : τ 15 (ix k) = lane
  case neg => rw [if_neg l, if_neg l]; exact fl 2 (by decide) (by decide)
  rw [if_pos l, if_pos l]
  by_cases c : 0 ≤ lg_cmp n 0
  case neg => rw [if_neg c, if_neg c]; exact fl 4 (by decide) (by decide)
  rw [if_pos c, if_pos c]
  have c' : (0 : Int64).toInt ≤ n.toInt := Int64.le_iff_toInt_le.mp ((lg_cmp_ge n 0).mp c)
  have z0l : (0 : Int64).toInt = 0 := by decide
  by_cases b : f_X4_isBeyond i n (τ 14 (ix k)) = 0
  · have b' := (beyond_iff hn.2).mp b
    rw [if_pos b, if_pos ((lacks_iff hn).mpr ⟨b'.1, by rw [q2]; exact b'.2.2⟩)]
    exact Or.inl ⟨rfl, rfl⟩
  · rw [if_neg b, if_neg (fun q => b ((beyond_iff hn.2).mpr (by have q' := (lacks_iff hn).mp q; rw [q2] at q'; exact ⟨q'.1, by omega, q'.2⟩)))]
    exact fl 3 (by decide) (by decide)
theorem q_odds {j : Nat} {σ τ : St} (h : R j σ τ) (hj : j < 512) (a0 a1 a2 a3 a4 a5 : Int32) : (f_X3_odds σ a0 a1 a2 a3 a4 a5).1 = (f_X4_odds τ a0 a1 a2 a3 a4 a5).1 ∧ R (j + 1) (f_X3_odds σ a0 a1 a2 a3 a4 a5).2 (f_X4_odds τ a0 a1 a2 a3 a4 a5).2 := by
  have h0 := R_fault h 0
  have si : f_X3_isSign (u2 σ 0 9 0) a0 = f_X3_isSign σ a0 := by unfold f_X3_isSign; rw [u2_nk (by omega)]
  unfold f_X3_odds f_X4_odds
  rw [si]
  by_cases g : f_X4_noSign τ a0 = 0
  case neg => rw [if_pos ((R_sign h).mpr g), if_neg g]; exact ⟨rfl, R_up h0⟩
  rw [if_neg (fun q => (R_sign h).mp q g), if_pos g]
  have hs : ∀ k : Int32, 0 ≤ k.toInt ∧ k.toInt < 4 → Rsh (u2 σ 0 9 0) τ (ix k) := fun k hk => Rsh_congr (R_Rsh h hk) (u2_nc (by omega)) (u2_nc (by omega)) rfl rfl (fun i _ => rfl)
  have z9 : (9 : Int64).toInt = 9 := by decide
  rcases R_span2 hs (k := a2) (lane := a3) (i := a4) (n := 9) (by decide) with ⟨ex, ey⟩ | ⟨n1, n2, n3, v, v1, v2⟩
  case inr =>
    rw [if_neg n1, if_neg n2]
    refine ⟨rfl, ?_⟩
    show R (j + 1) (f_X3_spanRefusal (u2 σ 0 9 0) a2 a3 a4 9).2 (f_X4_barred τ a2 a3 a4 9).2
    rw [v1, v2]
    exact R_up (R_fs (R_fault h v) (fun k hk => by rw [u2_nk hk, u2_nk hk, u2_nk hk]) (fun k _ _ _ => rfl) (by rw [u2_self, u2_self]) (fun c c0 _ _ _ => by rw [u2_nc c0, u2_nc c0, u2_nc c0]) (fun c _ _ _ _ _ _ => rfl))
  have z : (f_X3_spanRefusal (u2 σ 0 9 0) a2 a3 a4 9).1 = 0 := by rw [ex]
  obtain ⟨hk, hc⟩ := R_door h0 (w := a1) rfl z (sp_has z)
  rw [ex, ey]
  dsimp only
  rw [if_pos rfl, if_pos (show (0 : Int32) ≤ 0 by decide), door_eq (T := u2 τ 0 0 0) hc]
  have fin : ∀ (X : St), (∀ c, c ≠ 7 → X c = u2 (u2 σ 0 9 0) 0 9 0 c) → R (j + 1) X (f_X4_laysHours (u2 τ 0 0 0) a1 (90 * a2 + a4)).2 := fun X hX => R_up (R_fs h (fun k hk => by rw [hX 0 (by omega), u2_nk hk, u2_nk hk]) (fun k k0 _ _ => by rw [fr_X4_laysHours (by omega), u2_nk k0]) (by rw [hX 0 (by omega), u2_self, fr_X4_laysHours (by omega), u2_self]) (fun c c0 _ _ c7 => by rw [hX c c7, u2_nc c0, u2_nc c0]) (fun c c0 _ _ _ c13 _ => by rw [fr_X4_laysHours c13, u2_nc c0]))
  by_cases f : (f_X4_laysHours (u2 τ 0 0 0) a1 (90 * a2 + a4)).1 = 0
  · rw [if_pos f, if_pos f]
    exact ⟨rfl, fin _ (fun c _ => rfl)⟩
  rw [if_neg f, if_neg f]
  by_cases w : 0 ≤ a5.toInt ∧ a5.toInt ≤ 1
  case neg =>
    rw [rng_n w (by decide) (by decide), if_pos (in_n w (by decide) (by decide))]
    exact ⟨rfl, fin _ (fun c _ => rfl)⟩
  rw [rng_p w (by decide) (by decide), if_neg (in_p w (by decide) (by decide))]
  obtain ⟨l1, l2⟩ := R_lays h0 (p1 := a0) (p6 := a5) rfl hk hc f
  have hv := noSign_z.mp g
  have e0 := ix_toInt hv.1
  have oC : OkC (u2 (u2 σ 0 9 0) 0 9 0) := okC_obj (by omega) (okC_obj (by omega) h.1)
  have cb := ch_le (σ := u2 (u2 σ 0 9 0) 0 9 0) (a := a1) (q := ix a2) (b := a4) oC
  have oM := ok_X4_laysHours (w := a1) (f := 90 * a2 + a4) h0.2.1
  have eL : (f_X4_laysHours (u2 τ 0 0 0) a1 (90 * a2 + a4)).2 0 1 = τ 0 1 := by rw [fr_X4_laysHours (by omega), u2_nk (by omega)]
  have hb := lh_le oM f (ix a0) (by rw [eL]; omega)
  have l1' := l1 (ix a0) (by rw [u2_nk (by omega)]; omega)
  have fin' := fin (f_X3_countHours (u2 (u2 σ 0 9 0) 0 9 0) a1 (ix a2) a4).2 (fun c hc => fr_X3_countHours hc)
  rw [l2] at cb ⊢
  rw [l1']
  generalize lp_X4_odds_82 (f_X4_laysHours (u2 τ 0 0 0) a1 (90 * a2 + a4)).2 a0 a5 200 0 0 = t at cb ⊢
  generalize (f_X4_laysHours (u2 τ 0 0 0) a1 (90 * a2 + a4)).2 13 (ix a0) = u at hb ⊢
  by_cases t0 : t = 0
  · rw [if_pos t0, if_pos t0]
    exact ⟨rfl, fin'⟩
  rw [if_neg t0, if_neg t0]
  refine ⟨?_, fin'⟩
  have et := ix_toInt cb.1
  have eu := ix_toInt hb.1
  have z0 : (0 : Int32).toInt = 0 := by decide
  have z1 : (1 : Int32).toInt = 1 := by decide
  have tn := qt_ne t0
  obtain ⟨q1, q2⟩ := told_eq (ix u) (by omega) (ix t) (by omega) (by omega)
  rw [← nI_ix cb.1, ← nI_ix hb.1] at q1 q2
  by_cases p0 : a5 = 0
  · rw [p0]
    exact q1
  · have pn := qt_ne p0
    have p1 : a5 = 1 := qm_eq (by omega)
    rw [p1]
    exact q2
