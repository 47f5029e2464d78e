/-! the class's contents and the law's rows -/
def sm (g : Nat → Int32) : Nat → Int32
  | 0 => 0
  | n + 1 => sm g n + g n
theorem sm_congr {g h : Nat → Int32} : ∀ n : Nat, (∀ k, k < n → g k = h k) → sm g n = sm h n := by
  intro n
  induction n with
  | zero => intro _; rfl
  | succ n ih =>
    intro q
    show sm g n + g n = sm h n + h n
    rw [ih (fun k hk => q k (by omega)), q n (by omega)]
theorem sm_mul {g : Nat → Int32} (a : Int32) : ∀ n : Nat, sm (fun k => a * g k) n = a * sm g n := by
  intro n
  induction n with
  | zero => show (0 : Int32) = a * 0; rw [Int32.mul_zero]
  | succ n ih =>
    show sm (fun k => a * g k) n + a * g n = a * (sm g n + g n)
    rw [ih, Int32.mul_add]
theorem sm_bd {g : Nat → Int32} : ∀ n : Nat, n ≤ 100 → (∀ k, k < n → 0 ≤ (g k).toInt ∧ (g k).toInt ≤ 1000) → 0 ≤ (sm g n).toInt ∧ (sm g n).toInt ≤ 1000 * n := by
  intro n
  induction n with
  | zero =>
    intro _ _
    show 0 ≤ (0 : Int32).toInt ∧ (0 : Int32).toInt ≤ 1000 * ((0 : Nat) : Int)
    exact ⟨by decide, by decide⟩
  | succ n ih =>
    intro hn q
    have h1 := ih (by omega) (fun k hk => q k (by omega))
    have h2 := q n (by omega)
    show 0 ≤ (sm g n + g n).toInt ∧ (sm g n + g n).toInt ≤ 1000 * ((n + 1 : Nat) : Int)
    rw [a_toInt (by omega) (by omega)]
    omega
theorem n1 {k : Nat} : nI k + 1 = nI (k + 1) := by
  show Int32.ofNat k + Int32.ofNat 1 = Int32.ofNat (k + 1)
  rw [Int32.ofNat_add]
theorem ix_nI {n : Nat} (h : n < 2 ^ 31) : ix (nI n) = n := nI_clamp h
theorem nI_gE {k n : Nat} (hk : k < 2 ^ 31) (hn : n < 2 ^ 31) : nI n ≤ nI k ↔ n ≤ k := by
  have h1 := nI_toInt hk
  have h2 := nI_toInt hn
  constructor
  · intro h
    have := qt_le h
    omega
  · intro h
    exact qm_le (by omega)
def Rl (σ τ : St) : Prop :=
  OkC σ ∧ 2 ≤ (σ 0 4).toInt ∧ τ 0 0 = σ 0 4 ∧ τ 0 2 = σ 0 7 ∧ (0 ≤ (σ 0 7).toInt ∧ (σ 0 7).toInt ≤ 999) ∧ (∀ j, j < 9 → τ 0 (3 + j) = σ 4 j) ∧
  (∀ x : Int32, 0 ≤ x.toInt → x.toInt < (σ 0 4).toInt → f_L_get τ x 0 = σ (17 + ix x) 0 ∧ (0 ≤ (σ (17 + ix x) 0).toInt ∧ (σ (17 + ix x) 0).toInt ≤ 2) ∧ ∀ k : Int32, 0 ≤ k.toInt → k.toInt < 9 → f_L_get τ x (1 + k) = σ (25 + ix x) (ix k) ∧ 0 ≤ (σ (25 + ix x) (ix k)).toInt ∧ (σ (25 + ix x) (ix k)).toInt ≤ 9) ∧
  (∀ x : Nat, (x : Int) < (σ 0 4).toInt → σ (17 + x) 1 = sm (σ (25 + x)) 9) ∧
  (σ 10 0 = 1 ∧ σ 10 1 = 1 ∧ σ 10 2 = 24)
section RL1
variable {σ τ : St}
theorem Rl.ok (h : Rl σ τ) : OkC σ := h.1
theorem Rl.n (h : Rl σ τ) : 2 ≤ (σ 0 4).toInt ∧ (σ 0 4).toInt ≤ 8 := ⟨h.2.1, h.1.1.2⟩
theorem Rl.tn (h : Rl σ τ) : τ 0 (ix 0) = σ 0 4 := h.2.2.1
theorem Rl.tb (h : Rl σ τ) : τ 0 (ix 2) = σ 0 7 := h.2.2.2.1
theorem Rl.b (h : Rl σ τ) : 0 ≤ (σ 0 7).toInt ∧ (σ 0 7).toInt ≤ 999 := h.2.2.2.2.1
theorem Rl.th (h : Rl σ τ) {k : Int32} (h0 : 0 ≤ k.toInt) (h1 : k.toInt < 9) : τ 0 (ix (3 + k)) = σ 4 (ix k) := by
  have e := ix_toInt h0
  have z3 : (3 : Int32).toInt = 3 := by decide
  have e1 := a_toInt (a := 3) (b := k) (by omega) (by omega)
  have e2 := ix_toInt (x := 3 + k) (by omega)
  rw [show ix (3 + k) = 3 + ix k by omega]
  exact h.2.2.2.2.2.1 (ix k) (by omega)
theorem Rl.hf (h : Rl σ τ) {k : Int32} (h0 : 0 ≤ k.toInt) (h1 : k.toInt < 9) : 1 ≤ (σ 4 (ix k)).toInt ∧ (σ 4 (ix k)).toInt ≤ 9 := by
  have e := ix_toInt h0
  have hn := h.n
  exact h.1.2.2.1 (ix k) (by omega) (by omega)
theorem Rl.kd (h : Rl σ τ) {x : Int32} (h0 : 0 ≤ x.toInt) (h1 : x.toInt < (σ 0 4).toInt) : f_L_get τ x 0 = σ (17 + ix x) 0 ∧ 0 ≤ (σ (17 + ix x) 0).toInt ∧ (σ (17 + ix x) 0).toInt ≤ 2 :=
  ⟨(h.2.2.2.2.2.2.1 x h0 h1).1, (h.2.2.2.2.2.2.1 x h0 h1).2.1⟩
theorem Rl.st (h : Rl σ τ) {x k : Int32} (h0 : 0 ≤ x.toInt) (h1 : x.toInt < (σ 0 4).toInt) (k0 : 0 ≤ k.toInt) (k1 : k.toInt < 9) : f_L_get τ x (1 + k) = σ (25 + ix x) (ix k) ∧ 0 ≤ (σ (25 + ix x) (ix k)).toInt ∧ (σ (25 + ix x) (ix k)).toInt ≤ 9 :=
  (h.2.2.2.2.2.2.1 x h0 h1).2.2 k k0 k1
theorem Rl.tot (h : Rl σ τ) {x : Nat} (h1 : (x : Int) < (σ 0 4).toInt) : σ (17 + x) 1 = sm (σ (25 + x)) 9 := h.2.2.2.2.2.2.2.1 x h1
theorem Rl.sh (h : Rl σ τ) : σ 10 0 = 1 ∧ σ 10 1 = 1 ∧ σ 10 2 = 24 := h.2.2.2.2.2.2.2.2
/-- of the law's rows the first three alone count -/
theorem Rl.tau {τ' : St} (h : Rl σ τ) (h0 : τ' 0 = τ 0) (h1 : τ' 1 = τ 1) (h2 : τ' 2 = τ 2) : Rl σ τ' := by
  have eg : ∀ x k : Int32, f_L_get τ' x k = f_L_get τ x k := fun x k => by unfold f_L_get; rw [h1, h2]
  refine ⟨h.1, h.2.1, by rw [h0]; exact h.2.2.1, by rw [h0]; exact h.2.2.2.1, h.b, fun j hj => by rw [h0]; exact h.2.2.2.2.2.1 j hj, fun x x0 x1 => ?_, h.2.2.2.2.2.2.2.1, h.sh⟩
  rw [eg]
  refine ⟨(h.kd x0 x1).1, (h.kd x0 x1).2, fun k k0 k1 => ?_⟩
  rw [eg]
  exact h.st x0 x1 k0 k1
/-- what a call may change -/
def Fx (bad : Nat → Prop) (σ σ' : St) : Prop := (∀ k, k ≠ 9 → σ' 0 k = σ 0 k) ∧ ∀ c, c ≠ 0 → ¬ bad c → σ' c = σ c
theorem Fx.id_ {bad : Nat → Prop} {σ : St} : Fx bad σ σ := ⟨fun _ _ => Eq.refl _, fun _ _ _ => Eq.refl _⟩
theorem Fx.tr {b : Nat → Prop} {σ σ' σ'' : St} (h : Fx b σ σ') (h2 : Fx b σ' σ'') : Fx b σ σ'' := ⟨fun k hk => (h2.1 k hk).trans (h.1 k hk), fun c c0 cb => (h2.2 c c0 cb).trans (h.2 c c0 cb)⟩
theorem Fx.mo {b b' : Nat → Prop} {σ σ' : St} (h : Fx b σ σ') (hb : ∀ c, b c → b' c) : Fx b' σ σ' := ⟨h.1, fun c c0 cb => h.2 c c0 (fun q => cb (hb c q))⟩
theorem Fx.flt {b : Nat → Prop} {σ : St} (v : Int32) : Fx b σ (u2 σ 0 9 v) := ⟨fun k hk => u2_nk hk, fun c c0 _ => u2_nc c0⟩
theorem Fx.put {b : Nat → Prop} {σ : St} {c k : Nat} {v : Int32} (hb : b c) (hc : c ≠ 0) : Fx b σ (u2 σ c k v) := ⟨fun k _ => by rw [u2_nc (fun q => hc q.symm)], fun c' _ cb => u2_nc (fun q => cb (by rw [q]; exact hb))⟩
def bd (c : Nat) : Prop := c = 6 ∨ c = 7 ∨ c = 8 ∨ c = 14
theorem Fx.okc {σ' : St} (h : Fx bd σ σ') (ok : OkC σ) : OkC σ' := by
  have nb : ∀ c, ¬ (c = 6 ∨ c = 7 ∨ c = 8 ∨ c = 14) → ¬ bd c := fun c q => q
  refine okC_cell ok ⟨h.1 4 (by omega), h.1 5 (by omega), h.1 6 (by omega)⟩ (h.2 4 (by omega) (nb _ (by omega))) (fun q hq => ?_) (fun p hp => ?_)
  · rw [h.2 (9 + q) (by omega) (nb _ (by omega))]
  · rw [h.2 (33 + p) (by omega) (nb _ (by omega))]
    exact ⟨rfl, rfl⟩
theorem Fx.rl {σ' : St} (h : Fx bd σ σ') (hR : Rl σ τ) : Rl σ' τ := by
  have nb : ∀ c, ¬ (c = 6 ∨ c = 7 ∨ c = 8 ∨ c = 14) → ¬ bd c := fun c q => q
  have e4 : σ' 0 4 = σ 0 4 := h.1 4 (by omega)
  have e7 : σ' 0 7 = σ 0 7 := h.1 7 (by omega)
  have hn := hR.n
  have eh : σ' 4 = σ 4 := h.2 4 (by omega) (nb _ (by omega))
  have es : σ' 10 = σ 10 := h.2 10 (by omega) (nb _ (by omega))
  refine ⟨h.okc hR.1, by rw [e4]; exact hR.2.1, by rw [e4]; exact hR.2.2.1, by rw [e7]; exact hR.2.2.2.1, by rw [e7]; exact hR.b, fun j hj => by rw [eh]; exact hR.2.2.2.2.2.1 j hj, fun x x0 x1 => ?_, fun x hx => ?_, by rw [es]; exact hR.sh⟩
  · rw [e4] at x1
    have ex := ix_toInt x0
    have e5 : σ' (17 + ix x) = σ (17 + ix x) := h.2 _ (by omega) (nb _ (by omega))
    have e6 : σ' (25 + ix x) = σ (25 + ix x) := h.2 _ (by omega) (nb _ (by omega))
    rw [e5, e6]
    exact hR.2.2.2.2.2.2.1 x x0 x1
  · rw [e4] at hx
    have e5 : σ' (17 + x) = σ (17 + x) := h.2 _ (by omega) (nb _ (by omega))
    have e6 : σ' (25 + x) = σ (25 + x) := h.2 _ (by omega) (nb _ (by omega))
    rw [e5, e6]
    exact hR.tot hx
/-! half, bound -/
theorem isSmell_p {k : Int32} (h0 : 0 ≤ k.toInt) (h1 : k.toInt < 9) : ¬ f_X3_isSmell k = 0 := by
  have z0 : (0 : Int32).toInt = 0 := by decide
  have z9 : (9 : Int32).toInt = 9 := by decide
  unfold f_X3_isSmell
  rw [if_neg (qm_nlt (by omega)), if_neg (qm_nle (by omega))]
  decide
theorem isSign_p {x : Int32} (h0 : 0 ≤ x.toInt) (h1 : x.toInt < (σ 0 4).toInt) : ¬ f_X3_isSign σ x = 0 := by
  have z0 : (0 : Int32).toInt = 0 := by decide
  unfold f_X3_isSign
  rw [if_neg (qm_nlt (by omega)), if_neg (qm_nle (by omega))]
  decide
theorem isSign_n {x : Int32} (h1 : ¬ (0 ≤ x.toInt ∧ x.toInt < (σ 0 4).toInt)) : f_X3_isSign σ x = 0 := by
  have z0 : (0 : Int32).toInt = 0 := by decide
  unfold f_X3_isSign
  by_cases h : x < 0
  · rw [if_pos h]
  · have h2 := qt_nlt h
    rw [if_neg h, if_pos (qm_le (by omega))]
theorem Rl.nz (h : Rl σ τ) : ¬ σ 0 4 = 0 := fun q => by
  have h2 := h.2.1
  rw [q] at h2
  exact absurd h2 (by decide)
theorem q_half (h : Rl σ τ) {k v : Int32} (h0 : 0 ≤ k.toInt) (h1 : k.toInt < 9) (v0 : 1 ≤ v.toInt) (v1 : v.toInt ≤ 9) : f_X3_half σ k v = (σ 4 (ix k), u2 σ 4 (ix k) v) := by
  have z1 : (1 : Int32).toInt = 1 := by decide
  have z9 : (9 : Int32).toInt = 9 := by decide
  unfold f_X3_half
  rw [if_neg (isSmell_p h0 h1), if_neg (qm_nlt (by omega)), if_pos (qm_le (by omega)), if_neg h.nz]
theorem Rl_half (h : Rl σ τ) {k v : Int32} (h0 : 0 ≤ k.toInt) (h1 : k.toInt < 9) (v0 : 1 ≤ v.toInt) (v1 : v.toInt ≤ 9) : Rl (u2 σ 4 (ix k) v) (u2 τ 0 (ix (3 + k)) v) := by
  have e := ix_toInt h0
  have hn := h.n
  have z3 : (3 : Int32).toInt = 3 := by decide
  have e1 := a_toInt (a := 3) (b := k) (by omega) (by omega)
  have e2 := ix_toInt (x := 3 + k) (by omega)
  have e3 : ix (3 + k) = 3 + ix k := by omega
  rw [e3]
  have c0 : ∀ j, u2 σ 4 (ix k) v 0 j = σ 0 j := fun j => u2_o (by omega) j
  have cc : ∀ c, c ≠ 4 → u2 σ 4 (ix k) v c = σ c := fun c hc => u2_nc hc
  have ok : OkC (u2 σ 4 (ix k) v) := by
    obtain ⟨a, b, c, d, e', f⟩ := h.1
    refine ⟨by rw [c0]; exact a, by rw [c0]; exact b, fun j hj hz => ?_, fun q hq => by rw [cc _ (by omega)]; exact d q hq, fun p hp => by rw [cc _ (by omega)]; exact e' p hp, by rw [c0]; exact f⟩
    by_cases hk : j = ix k
    · rw [hk, u2_self]; exact ⟨v0, v1⟩
    · rw [u2_nk hk]; exact c j hj (by rw [c0] at hz; exact hz)
  have eg : ∀ x q : Int32, f_L_get (u2 τ 0 (3 + ix k) v) x q = f_L_get τ x q := fun x q => by unfold f_L_get; rw [u2_nc (by omega), u2_nc (by omega)]
  refine ⟨ok, by rw [c0]; exact h.2.1, by rw [c0, u2_nk (by omega)]; exact h.2.2.1, by rw [c0, u2_nk (by omega)]; exact h.2.2.2.1, by rw [c0]; exact h.b, fun j hj => ?_, fun x x0 x1 => ?_, fun x hx => ?_, by rw [cc _ (by omega)]; exact h.sh⟩
  · by_cases hk : j = ix k
    · rw [hk, u2_self, u2_self]
    · rw [u2_nk (by omega), u2_nk hk]; exact h.2.2.2.2.2.1 j hj
  · rw [c0] at x1
    rw [eg, cc _ (by omega), cc _ (by omega)]
    refine ⟨(h.kd x0 x1).1, (h.kd x0 x1).2, fun q q0 q1 => ?_⟩
    rw [eg]
    exact h.st x0 x1 q0 q1
  · rw [c0] at hx
    rw [cc _ (by omega), cc _ (by omega)]
    exact h.tot hx
theorem q_bound (h : Rl σ τ) {b : Int32} (b0 : 0 ≤ b.toInt) (b1 : b.toInt ≤ 999) : f_X3_bound σ b = (σ 0 7, u2 σ 0 7 b) := by
  have z0 : (0 : Int32).toInt = 0 := by decide
  have z9 : (999 : Int32).toInt = 999 := by decide
  unfold f_X3_bound
  rw [if_neg (qm_nlt (by omega)), if_pos (qm_le (by omega)), if_neg h.nz]
theorem Rl_bound (h : Rl σ τ) {b : Int32} (b0 : 0 ≤ b.toInt) (b1 : b.toInt ≤ 999) : Rl (u2 σ 0 7 b) (u2 τ 0 (ix 2) b) := by
  have i2 : ix 2 = 2 := rfl
  rw [i2]
  have hn := h.n
  have c0 : ∀ j, j ≠ 7 → u2 σ 0 7 b 0 j = σ 0 j := fun j hj => u2_nk hj
  have cc : ∀ c, c ≠ 0 → u2 σ 0 7 b c = σ c := fun c hc => u2_nc hc
  have eg : ∀ x q : Int32, f_L_get (u2 τ 0 2 b) x q = f_L_get τ x q := fun x q => by unfold f_L_get; rw [u2_nc (by omega), u2_nc (by omega)]
  refine ⟨okC_obj (by omega) h.1, by rw [c0 _ (by omega)]; exact h.2.1, by rw [c0 _ (by omega), u2_nk (by omega)]; exact h.2.2.1, by rw [u2_self, u2_self], by rw [u2_self]; exact ⟨b0, b1⟩, fun j hj => by rw [u2_nk (by omega), cc _ (by omega)]; exact h.2.2.2.2.2.1 j hj, fun x x0 x1 => ?_, fun x hx => ?_, by rw [cc _ (by omega)]; exact h.sh⟩
  · rw [c0 _ (by omega)] at x1
    rw [eg, cc _ (by omega), cc _ (by omega)]
    refine ⟨(h.kd x0 x1).1, (h.kd x0 x1).2, fun q q0 q1 => ?_⟩
    rw [eg]
    exact h.st x0 x1 q0 q1
  · rw [c0 _ (by omega)] at hx
    rw [cc _ (by omega), cc _ (by omega)]
    exact h.tot hx
end RL1
/-! low: what is left of a number -/
theorem low_bd {v n : Int32} (hn : 0 < n.toInt) : 0 ≤ (f_L_low v n).toInt ∧ (f_L_low v n).toInt < n.toInt := by
  unfold f_L_low
  have h0 : 0 ≤ (v &&& 2147483647).toInt := and_max v
  generalize v &&& 2147483647 = a at h0
  exact rem_bd h0 hn
