/-! the check's walk over the text -/
def Fr (τ S : St) : Prop := (∀ c, c ≠ 0 → c ≠ 4 → c ≠ 5 → S c = τ c) ∧ ∀ i, i ≠ 7 → i ≠ 8 → S 0 i = τ 0 i
def Cont (G : Nat → Int32) (S : St) (c : Nat) : Prop := ∀ x, x < c → S 4 x = f_X3_kindOf (G (11 * x)) ∧ ∀ m, m < 9 → S 5 (9 * x + m) = G (11 * x + 1 + m) - 48
theorem Fr.up7 {τ S : St} (h : Fr τ S) (v : Int32) : Fr τ (u2 S 0 7 v) := ⟨fun c c0 c4 c5 => by rw [u2_nc c0]; exact h.1 c c0 c4 c5, fun i i7 i8 => by rw [u2_nk i7]; exact h.2 i i7 i8⟩
theorem Fr.up8 {τ S : St} (h : Fr τ S) (v : Int32) : Fr τ (u2 S 0 8 v) := ⟨fun c c0 c4 c5 => by rw [u2_nc c0]; exact h.1 c c0 c4 c5, fun i i7 i8 => by rw [u2_nk i8]; exact h.2 i i7 i8⟩
theorem Fr.up4 {τ S : St} (h : Fr τ S) (k : Nat) (v : Int32) : Fr τ (u2 S 4 k v) := ⟨fun c c0 c4 c5 => by rw [u2_nc c4]; exact h.1 c c0 c4 c5, fun i i7 i8 => by rw [u2_nc (by decide)]; exact h.2 i i7 i8⟩
theorem Fr.up5 {τ S : St} (h : Fr τ S) (k : Nat) (v : Int32) : Fr τ (u2 S 5 k v) := ⟨fun c c0 c4 c5 => by rw [u2_nc c5]; exact h.1 c c0 c4 c5, fun i i7 i8 => by rw [u2_nc (by decide)]; exact h.2 i i7 i8⟩
section WALKM
variable {τ : St} {f n : Int32} {G : Nat → Int32}
theorem code_in {S : St} (hc : ∀ p : Int32, 0 ≤ p.toInt → p.toInt < n.toInt → τ 16 (ix (f + p)) = G (ix p)) (h : Fr τ S) (hg : Good G n (S 0 7)) (l : (S 0 7).toInt < n.toInt) : f_X4_codeAt S f n = G (ix (S 0 7)) := by
  unfold f_X4_codeAt
  rw [if_neg (qm_nle l), h.1 16 (by decide) (by decide) (by decide), hc _ hg.1.1 l]
theorem code_out {S : St} (l : n.toInt ≤ (S 0 7).toInt) : f_X4_codeAt S f n = -9 := by
  unfold f_X4_codeAt
  rw [if_pos (qm_le l)]
theorem rd_79 (hc : ∀ p : Int32, 0 ≤ p.toInt → p.toInt < n.toInt → τ 16 (ix (f + p)) = G (ix p)) {L : Int32} {c : Nat} (c8 : c < 8) : ∀ (N : Nat) (k : Int32) (S : St), 0 ≤ k.toInt → k.toInt ≤ 9 → 9 - k.toInt < N → (S 0 8).toInt = c → (S 0 7).toInt = 11 * c + 1 + k.toInt → Good G n (S 0 7) → Fr τ S → (match lp_X4_readsSign_79 f n L N k S with | Sum.inl r => r.1 = 0 ∧ Fail G n (r.2 0 7) ∧ Fr τ r.2 | Sum.inr T => Good G n (T 0 7) ∧ (T 0 7).toInt = 11 * c + 10 ∧ T 0 8 = S 0 8 ∧ Fr τ T ∧ T 4 = S 4 ∧ (∀ y, y < 9 * c + ix k → T 5 y = S 5 y) ∧ ∀ m, ix k ≤ m → m < 9 → T 5 (9 * c + m) = G (11 * c + 1 + m) - 48) := by
  have z9 : (9 : Int32).toInt = 9 := by decide
  intro N
  induction N with
  | zero => intro k S h0 h1 h2; omega
  | succ N ih =>
    intro k S h0 h1 h2 h8 h7 hg hF
    have ek := ix_toInt h0
    rw [lp_X4_readsSign_79]
    by_cases d : 9 ≤ k
    · have d' := qt_le d
      rw [if_pos d]
      exact ⟨hg, by omega, rfl, hF, rfl, fun y _ => rfl, fun m m0 m1 => by omega⟩
    have d' := qt_nle d
    have k1 := inc_toInt (a := k) h0 (by omega)
    rw [if_neg d]
    by_cases l : n.toInt ≤ (S 0 7).toInt
    · rw [code_out l, if_pos (show f_X4_in ((-9 : Int32) - 48).toInt64 0 9 = 0 from in_n (L := 0) (H := 9) (by decide) (by decide) (by decide))]
      have g1 := hg.1
      refine ⟨rfl, ⟨hg, fun q => by dsimp only at q; omega, fun q w => ?_⟩, hF⟩
      dsimp only at q
      unfold Whole at w
      omega
    have l' : (S 0 7).toInt < n.toInt := by omega
    rw [code_in hc hF hg l']
    have e7 := ix_toInt (x := S 0 7) hg.1.1
    have eG : ix (S 0 7) = 11 * c + 1 + ix k := by omega
    have od := ok_d (x := G (ix (S 0 7))) (p := S 0 7) hg.1.1 (by omega) (by omega)
    by_cases w : 48 ≤ (G (ix (S 0 7))).toInt ∧ (G (ix (S 0 7))).toInt ≤ 57
    · have bn := lb n
      have i7 := inc_toInt (a := S 0 7) hg.1.1 (by omega)
      have i9 : ix (9 * S 0 8 + k) = 9 * c + ix k := by
        have e8 := ix_toInt (x := S 0 8) (by omega)
        rw [ix_9 (by omega) (by omega)]
        omega
      have ek1 := ix_toInt (x := k + 1) (by omega)
      rw [if_neg (in_p (L := 0) (H := 9) (dig_iff.mpr w) (by decide) (by decide)), i9, u2_nc (show (0 : Nat) ≠ 5 by decide)]
      have t := ih (k + 1) (u2 (u2 S 5 (9 * c + ix k) (G (ix (S 0 7)) - 48)) 0 7 (S 0 7 + 1)) (by omega) (by omega) (by omega) (by rw [u2_nk (by decide), u2_nc (by decide)]; exact h8) (by rw [u2_self]; omega) (by rw [u2_self]; exact hg.step l' (od.mpr w)) ((hF.up5 _ _).up7 _)
      generalize lp_X4_readsSign_79 f n L N (k + 1) (u2 (u2 S 5 (9 * c + ix k) (G (ix (S 0 7)) - 48)) 0 7 (S 0 7 + 1)) = W at t ⊢
      cases W with
      | inl r => exact t
      | inr T =>
        obtain ⟨t1, t2, t3, t4, t5, t6, t7⟩ := t
        refine ⟨t1, t2, ?_, t4, ?_, fun y hy => ?_, fun m m0 m1 => ?_⟩
        · rw [t3, u2_nk (by decide), u2_nc (by decide)]
        · rw [t5, u2_nc (by decide), u2_nc (by decide)]
        · rw [t6 y (by omega), u2_nc (by decide), u2_nk (by omega)]
        · by_cases em : m = ix k
          · rw [em, t6 (9 * c + ix k) (by omega), u2_nc (by decide), u2_self, eG]
          · exact t7 m (by omega) m1
    · rw [if_pos (in_n (L := 0) (H := 9) (fun q => w (dig_iff.mp q)) (by decide) (by decide))]
      refine ⟨rfl, ⟨hg, fun _ => ?_, fun q => by dsimp only at q; omega⟩, hF⟩
      unfold okp
      exact fun q => w (od.mp q)
theorem rd_letter (hc : ∀ p : Int32, 0 ≤ p.toInt → p.toInt < n.toInt → τ 16 (ix (f + p)) = G (ix p)) {c : Nat} (c8 : c < 8) {N : Nat} (hN : 9 < N) {S : St} (h8 : (S 0 8).toInt = c) (h7 : (S 0 7).toInt = 11 * c) (hg : Good G n (S 0 7)) (hF : Fr τ S) (hC : Cont G S c) : ((rsLetter N f n S).1 = 0 ∧ Fail G n ((rsLetter N f n S).2 0 7) ∧ Fr τ (rsLetter N f n S).2) ∨ ((rsLetter N f n S).1 = 1 ∧ Good G n ((rsLetter N f n S).2 0 7) ∧ ((rsLetter N f n S).2 0 7).toInt = 11 * c + 10 ∧ ((rsLetter N f n S).2 0 8).toInt = c + 1 ∧ Fr τ (rsLetter N f n S).2 ∧ Cont G (rsLetter N f n S).2 (c + 1)) := by
  unfold rsLetter
  have g1 := hg.1
  by_cases l : n.toInt ≤ (S 0 7).toInt
  · rw [code_out l, if_neg (by decide)]
    refine Or.inl ⟨rfl, ⟨hg, fun q => by dsimp only at q; omega, fun q w => ?_⟩, hF⟩
    dsimp only at q
    unfold Whole at w
    omega
  have l' : (S 0 7).toInt < n.toInt := by omega
  have e7 := ix_toInt (x := S 0 7) hg.1.1
  have eG : ix (S 0 7) = 11 * c := by omega
  have od := ok_0 (x := G (ix (S 0 7))) (p := S 0 7) hg.1.1 (by omega)
  rw [code_in hc hF hg l']
  by_cases w : G (ix (S 0 7)) = 112 ∨ G (ix (S 0 7)) = 102 ∨ G (ix (S 0 7)) = 115
  · rw [if_pos w]
    unfold rsTail
    have bn := lb n
    have i7 := inc_toInt (a := S 0 7) hg.1.1 (by omega)
    have z0 : (0 : Int32).toInt = 0 := by decide
    have o0 : ix (0 : Int32) = 0 := by decide
    have t := rd_79 hc (L := G (ix (S 0 7))) c8 N 0 (u2 S 0 7 (S 0 7 + 1)) (by decide) (by decide) (by omega) (by rw [u2_nk (by decide)]; exact h8) (by rw [u2_self]; omega) (by rw [u2_self]; exact hg.step l' (od.mpr w)) (hF.up7 _)
    rw [(kindOf_y w).1]
    generalize lp_X4_readsSign_79 f n (G (ix (S 0 7))) N 0 (u2 S 0 7 (S 0 7 + 1)) = W at t ⊢
    cases W with
    | inl r => exact Or.inl t
    | inr T =>
      obtain ⟨t1, t2, t3, t4, t5, t6, t7⟩ := t
      rw [u2_nk (show (8 : Nat) ≠ 7 by decide)] at t3
      have e8 := ix_toInt (x := S 0 8) (by omega)
      have eC : ix (S 0 8) = c := by omega
      have i8 := inc_toInt (a := S 0 8) (by omega) (by omega)
      dsimp only
      rw [u2_nc (show (0 : Nat) ≠ 4 by decide), t3, eC, eG]
      refine Or.inr ⟨rfl, ?_, ?_, ?_, (t4.up4 _ _).up8 _, fun x hx => ?_⟩
      · rw [u2_nk (by decide), u2_nc (by decide)]; exact t1
      · rw [u2_nk (by decide), u2_nc (by decide)]; exact t2
      · rw [u2_self]; omega
      · rw [u2_nc (show (4 : Nat) ≠ 0 by decide), u2_nc (show (5 : Nat) ≠ 0 by decide), u2_nc (show (5 : Nat) ≠ 4 by decide)]
        by_cases ex : x = c
        · rw [ex, u2_self]
          refine ⟨rfl, fun m hm => t7 m (by omega) hm⟩
        · rw [u2_nk ex, t5, u2_nc (by decide)]
          have hx' := hC x (by omega)
          refine ⟨hx'.1, fun m hm => ?_⟩
          rw [t6 (9 * x + m) (by omega), u2_nc (by decide)]
          exact hx'.2 m hm
  · rw [if_neg w]
    refine Or.inl ⟨rfl, ⟨hg, fun _ => ?_, fun q => by dsimp only at q; omega⟩, hF⟩
    unfold okp
    exact fun q => w (od.mp q)
def InvT (τ : St) (G : Nat → Int32) (n : Int32) (S : St) (c : Nat) : Prop := (S 0 8).toInt = c ∧ c ≤ 8 ∧ ((c = 0 ∧ (S 0 7).toInt = 0) ∨ (1 ≤ c ∧ (S 0 7).toInt = 11 * c - 1)) ∧ Good G n (S 0 7) ∧ Fr τ S ∧ Cont G S c
theorem rd_sign (hc : ∀ p : Int32, 0 ≤ p.toInt → p.toInt < n.toInt → τ 16 (ix (f + p)) = G (ix p)) {c : Nat} {S : St} (h : InvT τ G n S c) (hl : c < 2 ∨ (S 0 7).toInt < n.toInt) : ((f_X4_readsSign S f n).1 = 0 ∧ Fail G n ((f_X4_readsSign S f n).2 0 7) ∧ Fr τ (f_X4_readsSign S f n).2) ∨ ((f_X4_readsSign S f n).1 = 1 ∧ InvT τ G n (f_X4_readsSign S f n).2 (c + 1) ∧ c < 8) := by
  have z0 : (0 : Int32).toInt = 0 := by decide
  have z8 : (8 : Int32).toInt = 8 := by decide
  obtain ⟨h8, c8, h7, hg, hF, hC⟩ := h
  have g1 := hg.1
  rw [readsSign_eq]
  by_cases k : S 0 8 ≤ 0
  · have k' := qt_le k
    have c0 : c = 0 := by omega
    subst c0
    rw [if_pos k]
    rcases rd_letter hc (c := 0) (by decide) (N := 200) (by decide) h8 (by omega) hg hF hC with t | ⟨t1, t2, t3, t4, t5, t6⟩
    · exact Or.inl t
    · exact Or.inr ⟨t1, ⟨by omega, by omega, Or.inr ⟨by omega, by omega⟩, t2, t5, t6⟩, by omega⟩
  have k' := qt_nle k
  rw [if_neg k]
  have h7' : (S 0 7).toInt = 11 * c - 1 := by omega
  have e7 := ix_toInt (x := S 0 7) hg.1.1
  have od := ok_10 (x := G (ix (S 0 7))) (p := S 0 7) hg.1.1 (by omega)
  by_cases w : S 0 8 = 8
  · have w' := qt_eq w
    rw [if_pos w]
    refine Or.inl ⟨rfl, ⟨hg, fun _ => ?_, fun q => by dsimp only at q; omega⟩, hF⟩
    unfold okp
    exact fun q => by have := (od.mp q).2; omega
  have w' : (S 0 8).toInt ≠ 8 := fun q => w (qm_eq (by omega))
  rw [if_neg w]
  by_cases l : n.toInt ≤ (S 0 7).toInt
  · rw [code_out l, if_neg (by decide)]
    refine Or.inl ⟨rfl, ⟨hg, fun q => by dsimp only at q; omega, fun q w => ?_⟩, hF⟩
    dsimp only at q
    unfold Whole at w
    omega
  have l' : (S 0 7).toInt < n.toInt := by omega
  rw [code_in hc hF hg l']
  by_cases v : G (ix (S 0 7)) = 59
  · have bn := lb n
    have i7 := inc_toInt (a := S 0 7) hg.1.1 (by omega)
    rw [if_pos v]
    rcases rd_letter hc (c := c) (by omega) (N := 200) (by decide) (S := u2 S 0 7 (S 0 7 + 1)) (by rw [u2_nk (by decide)]; exact h8) (by rw [u2_self]; omega) (by rw [u2_self]; exact hg.step l' (od.mpr ⟨v, by omega⟩)) (hF.up7 _) (fun x hx => by rw [u2_nc (by decide), u2_nc (by decide)]; exact hC x hx) with t | ⟨t1, t2, t3, t4, t5, t6⟩
    · exact Or.inl t
    · exact Or.inr ⟨t1, ⟨by omega, by omega, Or.inr ⟨by omega, by omega⟩, t2, t5, t6⟩, by omega⟩
  · rw [if_neg v]
    refine Or.inl ⟨rfl, ⟨hg, fun _ => ?_, fun q => by dsimp only at q; omega⟩, hF⟩
    unfold okp
    exact fun q => v (od.mp q).1
theorem lp12_z {f n : Int32} {S : St} (N : Nat) : lp_X4_readsRegister_12 f n N 0 S = (0, S) := by
  cases N with
  | zero => rfl
  | succ N => rw [lp_X4_readsRegister_12, if_pos rfl]
theorem rd_12 (hc : ∀ p : Int32, 0 ≤ p.toInt → p.toInt < n.toInt → τ 16 (ix (f + p)) = G (ix p)) : ∀ (N c : Nat) (S : St), 9 < N + c → InvT τ G n S c → ((lp_X4_readsRegister_12 f n N 1 S).1 = 0 ∧ Fail G n ((lp_X4_readsRegister_12 f n N 1 S).2 0 7) ∧ Fr τ (lp_X4_readsRegister_12 f n N 1 S).2) ∨ ((lp_X4_readsRegister_12 f n N 1 S).1 = 1 ∧ ∃ c, 2 ≤ c ∧ InvT τ G n (lp_X4_readsRegister_12 f n N 1 S).2 c ∧ ((lp_X4_readsRegister_12 f n N 1 S).2 0 7).toInt = n.toInt) := by
  have z2 : (2 : Int32).toInt = 2 := by decide
  intro N
  induction N with
  | zero => intro c S hN h; have := h.2.1; omega
  | succ N ih =>
    intro c S hN h
    have h8 := h.1
    have step : (c < 2 ∨ (S 0 7).toInt < n.toInt) → ((lp_X4_readsRegister_12 f n N (f_X4_readsSign S f n).1 (f_X4_readsSign S f n).2).1 = 0 ∧ Fail G n ((lp_X4_readsRegister_12 f n N (f_X4_readsSign S f n).1 (f_X4_readsSign S f n).2).2 0 7) ∧ Fr τ (lp_X4_readsRegister_12 f n N (f_X4_readsSign S f n).1 (f_X4_readsSign S f n).2).2) ∨ ((lp_X4_readsRegister_12 f n N (f_X4_readsSign S f n).1 (f_X4_readsSign S f n).2).1 = 1 ∧ ∃ c, 2 ≤ c ∧ InvT τ G n (lp_X4_readsRegister_12 f n N (f_X4_readsSign S f n).1 (f_X4_readsSign S f n).2).2 c ∧ ((lp_X4_readsRegister_12 f n N (f_X4_readsSign S f n).1 (f_X4_readsSign S f n).2).2 0 7).toInt = n.toInt) := by
      intro hl
      rcases rd_sign hc h hl with ⟨t1, t2, t3⟩ | ⟨t1, t2, t3⟩
      · rw [t1, lp12_z]
        exact Or.inl ⟨rfl, t2, t3⟩
      · rw [t1]
        exact ih (c + 1) _ (by omega) t2
    rw [lp_X4_readsRegister_12, if_neg (by decide)]
    by_cases k : S 0 8 < 2
    · have k' := qt_lt k
      rw [if_pos k]
      exact step (Or.inl (by omega))
    have k' := qt_nlt k
    rw [if_neg k]
    by_cases l : n ≤ S 0 7
    · have l' := qt_le l
      have g1 := h.2.2.2.1.1
      rw [if_pos l]
      exact Or.inr ⟨rfl, c, by omega, h, by dsimp only; omega⟩
    · have l' := qt_nle l
      rw [if_neg l]
      exact step (Or.inr l')
theorem R_reads (hn : 0 ≤ n.toInt) (hc : ∀ p : Int32, 0 ≤ p.toInt → p.toInt < n.toInt → τ 16 (ix (f + p)) = G (ix p)) : ((f_X4_readsRegister τ f n).1 = 0 ∧ Fail G n ((f_X4_readsRegister τ f n).2 0 7) ∧ Fr τ (f_X4_readsRegister τ f n).2) ∨ ((f_X4_readsRegister τ f n).1 = 1 ∧ ∃ c, 2 ≤ c ∧ InvT τ G n (f_X4_readsRegister τ f n).2 c ∧ ((f_X4_readsRegister τ f n).2 0 7).toInt = n.toInt) := by
  rw [readsRegister_eq]
  have z0 : (0 : Int32).toInt = 0 := by decide
  have e7 : u2 (u2 τ 0 7 0) 0 8 0 0 7 = 0 := by rw [u2_nk (by decide), u2_self]
  refine rd_12 hc 200 0 _ (by decide) ⟨by rw [u2_self]; decide, by decide, Or.inl ⟨rfl, by rw [e7]; exact z0⟩, ?_, ?_, fun x hx => by omega⟩
  · rw [e7]
    exact ⟨⟨by decide, by omega⟩, fun p p0 p1 => by omega⟩
  · exact ⟨fun c c0 _ _ => by rw [u2_nc c0, u2_nc c0], fun i i7 i8 => by rw [u2_nk i8, u2_nk i7]⟩
end WALKM
