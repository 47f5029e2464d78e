/-! what each method answers, and what it leaves: printed out of the bytecode by program (wip/whole/gen.py) -/
set_option maxRecDepth 20000 in
def f_J6_bitCount_0f7a4 (p1 : Int32) : Int32 :=
  ((((((((p1 - (((p1.toUInt32 >>> ((1 : Int32).toUInt32 &&& Int32.toUInt32 31)).toInt32) &&& 1431655765)) &&& 858993459) + ((((p1 - (((p1.toUInt32 >>> ((1 : Int32).toUInt32 &&& Int32.toUInt32 31)).toInt32) &&& 1431655765)).toUInt32 >>> ((2 : Int32).toUInt32 &&& Int32.toUInt32 31)).toInt32) &&& 858993459)) + (((((p1 - (((p1.toUInt32 >>> ((1 : Int32).toUInt32 &&& Int32.toUInt32 31)).toInt32) &&& 1431655765)) &&& 858993459) + ((((p1 - (((p1.toUInt32 >>> ((1 : Int32).toUInt32 &&& Int32.toUInt32 31)).toInt32) &&& 1431655765)).toUInt32 >>> ((2 : Int32).toUInt32 &&& Int32.toUInt32 31)).toInt32) &&& 858993459)).toUInt32 >>> ((4 : Int32).toUInt32 &&& Int32.toUInt32 31)).toInt32)) &&& 252645135) + (((((((p1 - (((p1.toUInt32 >>> ((1 : Int32).toUInt32 &&& Int32.toUInt32 31)).toInt32) &&& 1431655765)) &&& 858993459) + ((((p1 - (((p1.toUInt32 >>> ((1 : Int32).toUInt32 &&& Int32.toUInt32 31)).toInt32) &&& 1431655765)).toUInt32 >>> ((2 : Int32).toUInt32 &&& Int32.toUInt32 31)).toInt32) &&& 858993459)) + (((((p1 - (((p1.toUInt32 >>> ((1 : Int32).toUInt32 &&& Int32.toUInt32 31)).toInt32) &&& 1431655765)) &&& 858993459) + ((((p1 - (((p1.toUInt32 >>> ((1 : Int32).toUInt32 &&& Int32.toUInt32 31)).toInt32) &&& 1431655765)).toUInt32 >>> ((2 : Int32).toUInt32 &&& Int32.toUInt32 31)).toInt32) &&& 858993459)).toUInt32 >>> ((4 : Int32).toUInt32 &&& Int32.toUInt32 31)).toInt32)) &&& 252645135).toUInt32 >>> ((8 : Int32).toUInt32 &&& Int32.toUInt32 31)).toInt32)) + ((((((((p1 - (((p1.toUInt32 >>> ((1 : Int32).toUInt32 &&& Int32.toUInt32 31)).toInt32) &&& 1431655765)) &&& 858993459) + ((((p1 - (((p1.toUInt32 >>> ((1 : Int32).toUInt32 &&& Int32.toUInt32 31)).toInt32) &&& 1431655765)).toUInt32 >>> ((2 : Int32).toUInt32 &&& Int32.toUInt32 31)).toInt32) &&& 858993459)) + (((((p1 - (((p1.toUInt32 >>> ((1 : Int32).toUInt32 &&& Int32.toUInt32 31)).toInt32) &&& 1431655765)) &&& 858993459) + ((((p1 - (((p1.toUInt32 >>> ((1 : Int32).toUInt32 &&& Int32.toUInt32 31)).toInt32) &&& 1431655765)).toUInt32 >>> ((2 : Int32).toUInt32 &&& Int32.toUInt32 31)).toInt32) &&& 858993459)).toUInt32 >>> ((4 : Int32).toUInt32 &&& Int32.toUInt32 31)).toInt32)) &&& 252645135) + (((((((p1 - (((p1.toUInt32 >>> ((1 : Int32).toUInt32 &&& Int32.toUInt32 31)).toInt32) &&& 1431655765)) &&& 858993459) + ((((p1 - (((p1.toUInt32 >>> ((1 : Int32).toUInt32 &&& Int32.toUInt32 31)).toInt32) &&& 1431655765)).toUInt32 >>> ((2 : Int32).toUInt32 &&& Int32.toUInt32 31)).toInt32) &&& 858993459)) + (((((p1 - (((p1.toUInt32 >>> ((1 : Int32).toUInt32 &&& Int32.toUInt32 31)).toInt32) &&& 1431655765)) &&& 858993459) + ((((p1 - (((p1.toUInt32 >>> ((1 : Int32).toUInt32 &&& Int32.toUInt32 31)).toInt32) &&& 1431655765)).toUInt32 >>> ((2 : Int32).toUInt32 &&& Int32.toUInt32 31)).toInt32) &&& 858993459)).toUInt32 >>> ((4 : Int32).toUInt32 &&& Int32.toUInt32 31)).toInt32)) &&& 252645135).toUInt32 >>> ((8 : Int32).toUInt32 &&& Int32.toUInt32 31)).toInt32)).toUInt32 >>> ((16 : Int32).toUInt32 &&& Int32.toUInt32 31)).toInt32)) &&& 63)
set_option maxRecDepth 20000 in
def f_X1_renew (σ : St) (r0 : Nat) (p1 : Int32) (p2 : Int32) : St :=
  (u1 (u2 (u2 (u2 σ (9 + r0) 0 1) (9 + r0) 1 p1) (9 + r0) 2 p2) (13 + r0) (fillF 90 0 ((u2 (u2 (u2 σ (9 + r0) 0 1) (9 + r0) 1 p1) (9 + r0) 2 p2) (13 + r0))))
set_option maxRecDepth 20000 in
def f_X1_cut (σ : St) (r0 : Nat) (p1 : Int32) : Int32 :=
  (if (σ (9 + r0) 1) = 0 then p1.toInt8.toInt32 else (if (σ (9 + r0) 1) = 1 then p1.toInt16.toInt32 else p1))
set_option maxRecDepth 20000 in
def f_X1_lacks (σ : St) (r0 : Nat) (p1 : Int32) (p2 : Int64) : Int32 :=
  (if p1 < 0 then 1 else (if (lg_cmp (p1.toInt64 + p2) ((σ (9 + r0) 2).toInt64)) ≤ 0 then 0 else 1))
set_option maxRecDepth 20000 in
def f_X3_isSheet (p1 : Int32) : Int32 :=
  (if p1 < 0 then 0 else (if 4 ≤ p1 then 0 else 1))
set_option maxRecDepth 20000 in
def f_X3_refused (σ : St) (p1 : Int32) : Int32 × St :=
  (p1, (u2 σ 0 9 0))
set_option maxRecDepth 20000 in
def f_X3_isLane (p1 : Int32) : Int32 :=
  (if p1 < 0 then 0 else (if 3 ≤ p1 then 0 else 1))
set_option maxRecDepth 20000 in
def f_X3_faulted (σ : St) (p1 : Int32) : Int32 × St :=
  (((-10) - p1), (u2 σ 0 9 p1))
set_option maxRecDepth 20000 in
def f_X3_spanRefusal (σ : St) (p1 : Int32) (p2 : Int32) (p3 : Int32) (p4 : Int64) : Int32 × St :=
  (if (f_X3_isSheet p1) = 0 then ((f_X3_refused σ (-1)).1, (f_X3_refused σ (-1)).2) else (if (f_X3_isLane p2) = 0 then ((f_X3_refused σ (-2)).1, (f_X3_refused σ (-2)).2) else (if (σ (9 + (ix p1)) 0) = 0 then (if (σ (9 + (ix p1)) 0) = 0 then ((f_X3_faulted σ 1).1, (f_X3_faulted σ 1).2) else (if 0 ≤ (lg_cmp p4 0) then (if (f_X1_lacks σ (ix p1) p3 p4) = 0 then (0, (u2 σ 0 9 0)) else ((f_X3_faulted σ 3).1, (f_X3_faulted σ 3).2)) else ((f_X3_faulted σ 4).1, (f_X3_faulted σ 4).2))) else (if (σ (9 + (ix p1)) 1) = p2 then (if (σ (9 + (ix p1)) 0) = 0 then ((f_X3_faulted σ 1).1, (f_X3_faulted σ 1).2) else (if 0 ≤ (lg_cmp p4 0) then (if (f_X1_lacks σ (ix p1) p3 p4) = 0 then (0, (u2 σ 0 9 0)) else ((f_X3_faulted σ 3).1, (f_X3_faulted σ 3).2)) else ((f_X3_faulted σ 4).1, (f_X3_faulted σ 4).2))) else ((f_X3_faulted σ 2).1, (f_X3_faulted σ 2).2)))))
set_option maxRecDepth 20000 in
def f_X3_kindOf (p1 : Int32) : Int32 :=
  (if p1 = 102 then 1 else (if p1 = 112 then 0 else (if p1 = 115 then 2 else (-1))))
set_option maxRecDepth 20000 in
def f_X3_goesOn (p1 : Int32) (p2 : Int32) : Int32 :=
  (if (p2 - (p2 / 11) * 11) = 0 then (if (f_X3_kindOf p1) < 0 then 0 else 1) else (if (p2 - (p2 / 11) * 11) = 10 then (if p1 = 59 then (if 8 ≤ ((p2 / 11) + 1) then 0 else 1) else 0) else (if p1 < 48 then 0 else (if 57 < p1 then 0 else 1))))
set_option maxRecDepth 20000 in
def lp_X3_textFault_2 (σ : St) (a0 : Nat) (a1 : Int32) (a2 : Int32) : Nat → Int32 → ((Int32) ⊕ (Unit))
  | 0, a3 => Sum.inr ()
  | n + 1, a3 => (if a2 ≤ a3 then (Sum.inr ()) else (if (f_X3_goesOn (σ (13 + a0) (ix (a1 + a3))) a3) = 0 then (Sum.inl a3) else (lp_X3_textFault_2 σ a0 a1 a2 n (a3 + 1))))
set_option maxRecDepth 20000 in
def f_X3_textFault (σ : St) (p1 : Nat) (p2 : Int32) (p3 : Int32) : Int32 :=
  (match (lp_X3_textFault_2 σ p1 p2 p3 200 0) with | Sum.inl r => r | Sum.inr _ => (if (if (p3 - (p3 / 11) * 11) = 10 then (if ((p3 / 11) + 1) < 2 then 0 else 1) else 0) = 0 then p3 else (-1)))
set_option maxRecDepth 20000 in
def lp_X3_takeText_65 (a1 : Nat) (a2 : Int32) (a4 : Int32) (a5 : Int32) : Nat → Int32 → St → St
  | 0, a6, σ => σ
  | n + 1, a6, σ => (if 9 ≤ a6 then σ else (lp_X3_takeText_65 a1 a2 a4 a5 n (a6 + 1) (u2 (u2 σ (25 + (ix a4)) (ix a6) ((σ (13 + a1) (ix ((a5 + 1) + a6))) - 48)) (17 + (ix a4)) 1 (((u2 σ (25 + (ix a4)) (ix a6) ((σ (13 + a1) (ix ((a5 + 1) + a6))) - 48)) (17 + (ix a4)) 1) + ((σ (13 + a1) (ix ((a5 + 1) + a6))) - 48)))))
set_option maxRecDepth 20000 in
def lp_X3_takeText_13 (a1 : Nat) (a2 : Int32) : Nat → Int32 → St → St
  | 0, a4, σ => σ
  | n + 1, a4, σ => (if (σ 0 4) ≤ a4 then σ else (lp_X3_takeText_13 a1 a2 n (a4 + 1) (lp_X3_takeText_65 a1 a2 a4 (a2 + (a4 * 11)) 200 0 (u2 (u2 σ (17 + (ix a4)) 0 (f_X3_kindOf (σ (13 + a1) (ix (a2 + (a4 * 11)))))) (17 + (ix a4)) 1 0))))
set_option maxRecDepth 20000 in
def f_X3_takeText (σ : St) (p1 : Nat) (p2 : Int32) (p3 : Int32) : St :=
  (lp_X3_takeText_13 p1 p2 200 0 (u2 σ 0 4 ((p3 / 11) + 1)))
set_option maxRecDepth 20000 in
def f_X3_startAnew (σ : St) : St :=
  (u2 (u1 (u2 (u2 (u2 σ 0 5 0) 0 6 0) 0 7 40) 4 (fillF 9 5 ((u2 (u2 (u2 σ 0 5 0) 0 6 0) 0 7 40) 4))) 8 (ix 0) (-1))
set_option maxRecDepth 20000 in
def f_X3_register (σ : St) (p1 : Int32) (p2 : Int32) (p3 : Int32) (p4 : Int32) : Int32 × St :=
  (if ((f_X3_spanRefusal σ p1 p2 p3 p4.toInt64).1) = 0 then (if (f_X3_textFault ((f_X3_spanRefusal σ p1 p2 p3 p4.toInt64).2) (ix p1) p3 p4) < 0 then (((f_X3_startAnew (f_X3_takeText ((f_X3_spanRefusal σ p1 p2 p3 p4.toInt64).2) (ix p1) p3 p4)) 0 4), (f_X3_startAnew (f_X3_takeText ((f_X3_spanRefusal σ p1 p2 p3 p4.toInt64).2) (ix p1) p3 p4))) else (((-100) - (f_X3_textFault ((f_X3_spanRefusal σ p1 p2 p3 p4.toInt64).2) (ix p1) p3 p4)), (f_X3_spanRefusal σ p1 p2 p3 p4.toInt64).2)) else ((f_X3_spanRefusal σ p1 p2 p3 p4.toInt64).1, (f_X3_spanRefusal σ p1 p2 p3 p4.toInt64).2))
set_option maxRecDepth 20000 in
def f_X3_isSmell (p1 : Int32) : Int32 :=
  (if p1 < 0 then 0 else (if 9 ≤ p1 then 0 else 1))
set_option maxRecDepth 20000 in
def f_X3_half (σ : St) (p1 : Int32) (p2 : Int32) : Int32 × St :=
  (if (f_X3_isSmell p1) = 0 then ((-1), σ) else (if p2 < 1 then ((-2), σ) else (if p2 ≤ 9 then (if (σ 0 4) = 0 then ((-3), σ) else ((σ 4 (ix p1)), (u2 σ 4 (ix p1) p2))) else ((-2), σ))))
set_option maxRecDepth 20000 in
def f_X3_bound (σ : St) (p1 : Int32) : Int32 × St :=
  (if p1 < 0 then ((-2), σ) else (if p1 ≤ 999 then (if (σ 0 4) = 0 then ((-3), σ) else ((σ 0 7), (u2 σ 0 7 p1))) else ((-2), σ)))
set_option maxRecDepth 20000 in
def f_X3_fade (σ : St) (p1 : Nat) (p2 : Int32) (p3 : Int32) (p4 : Int32) : Int32 :=
  (if (σ (17 + p1) 0) = 2 then p3 else (if 1 ≤ (σ 4 (ix p2)) then (p3 >>> ((jmin (if (σ (17 + p1) 0) = 1 then ((p4 / (σ 4 (ix p2))) / 2) else (p4 / (σ 4 (ix p2)))) 31) &&& 31)) else p3))
set_option maxRecDepth 20000 in
def f_X3_isSign (σ : St) (p1 : Int32) : Int32 :=
  (if p1 < 0 then 0 else (if (σ 0 4) ≤ p1 then 0 else 1))
set_option maxRecDepth 20000 in
def f_X3_areTwoSigns (σ : St) (p1 : Int32) (p2 : Int32) : Int32 :=
  (if (f_X3_isSign σ p1) = 0 then 0 else (if (f_X3_isSign σ p2) = 0 then 0 else (if p1 = p2 then 0 else 1)))
set_option maxRecDepth 20000 in
def f_X3_pairNumber (p1 : Int32) (p2 : Int32) : Int32 :=
  ((10 * p1) + p2)
set_option maxRecDepth 20000 in
def lp_X3_apartOf_4 (σ : St) (a0 : Nat) (a1 : Nat) : Nat → Int32 → Int32 → Int32
  | 0, a2, a3 => a2
  | n + 1, a2, a3 => (if 9 ≤ a3 then a2 else (lp_X3_apartOf_4 σ a0 a1 n (a2 + (jabs ((σ a0 (ix a3)) - (σ a1 (ix a3))))) (a3 + 1)))
set_option maxRecDepth 20000 in
def f_X3_apartOf (σ : St) (p1 : Nat) (p2 : Nat) : Int32 :=
  (lp_X3_apartOf_4 σ p1 p2 200 0 0)
set_option maxRecDepth 20000 in
def f_X3_apart (σ : St) (p1 : Int32) (p2 : Int32) : Int32 :=
  (if (f_X3_isSign σ p1) = 0 then (-1) else (if (f_X3_isSign σ p2) = 0 then (-1) else (f_X3_apartOf σ (25 + (ix p1)) (25 + (ix p2)))))
set_option maxRecDepth 20000 in
def f_X3_areAlike (σ : St) (p1 : Nat) (p2 : Nat) : Int32 :=
  (if (σ 0 7) < (8 * (f_X3_apartOf σ p1 p2)) then 0 else 1)
set_option maxRecDepth 20000 in
def lp_X3_twins_24 (σ : St) (a1 : Int32) (a3 : Int32) : Nat → Int32 → Int32 → ((Int32) ⊕ (Int32))
  | 0, a2, a4 => Sum.inr a2
  | n + 1, a2, a4 => (if (σ 0 4) ≤ a4 then (Sum.inr a2) else (if (f_X3_areAlike σ (25 + (ix a3)) (25 + (ix a4))) = 0 then (lp_X3_twins_24 σ a1 a3 n a2 (a4 + 1)) else (if a2 = a1 then (Sum.inl (f_X3_pairNumber a3 a4)) else (lp_X3_twins_24 σ a1 a3 n (a2 + 1) (a4 + 1)))))
set_option maxRecDepth 20000 in
def lp_X3_twins_11 (σ : St) (a1 : Int32) : Nat → Int32 → Int32 → ((Int32) ⊕ (Int32))
  | 0, a2, a3 => Sum.inr a2
  | n + 1, a2, a3 => (if (σ 0 4) ≤ a3 then (Sum.inr a2) else (match (lp_X3_twins_24 σ a1 a3 200 a2 (a3 + 1)) with | Sum.inl r => (Sum.inl r) | Sum.inr v2_24e => (lp_X3_twins_11 σ a1 n v2_24e (a3 + 1))))
set_option maxRecDepth 20000 in
def f_X3_twins (σ : St) (p1 : Int32) : Int32 :=
  (if (-1) ≤ p1 then (match (lp_X3_twins_11 σ p1 200 0 0) with | Sum.inl r => r | Sum.inr v2_11e => (if p1 = (-1) then v2_11e else (-9))) else (-1))
set_option maxRecDepth 20000 in
def lp_X3_areStoppers_2 (σ : St) (a0 : Nat) (a1 : Int32) (a2 : Int32) : Nat → Int32 → ((Int32) ⊕ (Unit))
  | 0, a3 => Sum.inr ()
  | n + 1, a3 => (if a2 ≤ a3 then (Sum.inr ()) else (if (f_X3_isSmell (σ (13 + a0) (ix (a1 + (2 * a3))))) = 0 then (Sum.inl 0) else (if (σ (13 + a0) (ix ((a1 + (2 * a3)) + 1))) < 1 then (Sum.inl 0) else (if (σ (13 + a0) (ix ((a1 + (2 * a3)) + 1))) ≤ 9 then (lp_X3_areStoppers_2 σ a0 a1 a2 n (a3 + 1)) else (Sum.inl 0)))))
set_option maxRecDepth 20000 in
def f_X3_areStoppers (σ : St) (p1 : Nat) (p2 : Int32) (p3 : Int32) : Int32 :=
  (match (lp_X3_areStoppers_2 σ p1 p2 p3 200 0) with | Sum.inl r => r | Sum.inr _ => 1)
set_option maxRecDepth 20000 in
def lp_X3_isTakenFor_3 (a1 : Int32) (a2 : Int32) (a3 : Nat) (a4 : Int32) (a5 : Int32) : Nat → Int32 → St → St
  | 0, a6, σ => σ
  | n + 1, a6, σ => (if 9 ≤ a6 then σ else (lp_X3_isTakenFor_3 a1 a2 a3 a4 a5 n (a6 + 1) (u2 σ 6 (ix a6) (σ (25 + (ix a1)) (ix a6)))))
set_option maxRecDepth 20000 in
def lp_X3_isTakenFor_38 (a2 : Int32) (a3 : Nat) (a4 : Int32) (a5 : Int32) : Nat → Int32 → St → St
  | 0, a6, σ => σ
  | n + 1, a6, σ => (if 10 ≤ a6 then σ else (if ((a5 >>> (a6 &&& 31)) &&& 1) = 0 then (lp_X3_isTakenFor_38 a2 a3 a4 a5 n (a6 + 1) σ) else (lp_X3_isTakenFor_38 a2 a3 a4 a5 n (a6 + 1) (u2 σ 6 (ix (σ (13 + a3) (ix (a4 + (2 * a6))))) ((σ 6 (ix (σ (13 + a3) (ix (a4 + (2 * a6)))))) + (σ (13 + a3) (ix ((a4 + (2 * a6)) + 1))))))))
set_option maxRecDepth 20000 in
def f_X3_isTakenFor (σ : St) (p1 : Int32) (p2 : Int32) (p3 : Nat) (p4 : Int32) (p5 : Int32) : Int32 × St :=
  ((f_X3_areAlike (lp_X3_isTakenFor_38 p2 p3 p4 p5 200 0 (lp_X3_isTakenFor_3 p1 p2 p3 p4 p5 200 0 σ)) 6 (25 + (ix p2))), (lp_X3_isTakenFor_38 p2 p3 p4 p5 200 0 (lp_X3_isTakenFor_3 p1 p2 p3 p4 p5 200 0 σ)))
set_option maxRecDepth 20000 in
def lp_X3_forged_80 (a1 : Int32) (a2 : Int32) (a3 : Int32) (a5 : Int32) (a6 : Int32) : Nat → Int32 → Int32 → Int32 → St → (Int32 × St)
  | 0, a8, a9, a10, σ => (a8, σ)
  | n + 1, a8, a9, a10, σ => (if ((1 : Int32) <<< (a6 &&& 31)) ≤ a10 then (a8, σ) else (if a9 ≤ (f_J6_bitCount_0f7a4 a10) then (lp_X3_forged_80 a1 a2 a3 a5 a6 n a8 a9 (a10 + 1) σ) else (if ((f_X3_isTakenFor σ a1 a2 (ix a3) a5 a10).1) = 0 then (lp_X3_forged_80 a1 a2 a3 a5 a6 n a8 a9 (a10 + 1) ((f_X3_isTakenFor σ a1 a2 (ix a3) a5 a10).2)) else (lp_X3_forged_80 a1 a2 a3 a5 a6 n a10 (f_J6_bitCount_0f7a4 a10) (a10 + 1) ((f_X3_isTakenFor σ a1 a2 (ix a3) a5 a10).2)))))
set_option maxRecDepth 20000 in
def f_X3_forged (σ : St) (p1 : Int32) (p2 : Int32) (p3 : Int32) (p4 : Int32) (p5 : Int32) (p6 : Int32) : Int32 × St :=
  (if (f_X3_areTwoSigns σ p1 p2) = 0 then ((f_X3_refused σ (-1)).1, (f_X3_refused σ (-1)).2) else (if ((f_X3_spanRefusal σ p3 p4 p5 (2 * p6.toInt64)).1) = 0 then (if 10 < p6 then ((-2), (f_X3_spanRefusal σ p3 p4 p5 (2 * p6.toInt64)).2) else (if (f_X3_areStoppers ((f_X3_spanRefusal σ p3 p4 p5 (2 * p6.toInt64)).2) (ix p3) p5 p6) = 0 then ((-2), (f_X3_spanRefusal σ p3 p4 p5 (2 * p6.toInt64)).2) else (match (lp_X3_forged_80 p1 p2 p3 p5 p6 1100 (-9) (p6 + 1) 0 ((f_X3_spanRefusal σ p3 p4 p5 (2 * p6.toInt64)).2)) with | (v8_80e, S_80e) => (v8_80e, S_80e)))) else ((f_X3_spanRefusal σ p3 p4 p5 (2 * p6.toInt64)).1, (f_X3_spanRefusal σ p3 p4 p5 (2 * p6.toInt64)).2)))
set_option maxRecDepth 20000 in
def f_X3_strengthNear (σ : St) (p1 : Nat) (p2 : Nat) (p3 : Int32) (p4 : Int32) : Int32 :=
  ((σ (25 + p1) (ix p4)) + ((((σ (25 + p2) (ix p4)) - (σ (25 + p1) (ix p4))) * p3) / 10))
set_option maxRecDepth 20000 in
def f_X3_near (σ : St) (p1 : Int32) (p2 : Int32) (p3 : Int32) (p4 : Int32) : Int32 :=
  (if (f_X3_isSign σ p1) = 0 then (-1) else (if (f_X3_isSign σ p2) = 0 then (-1) else (if (f_X3_isSmell p4) = 0 then (-1) else (if p3 < 0 then (-2) else (if p3 ≤ 10 then (f_X3_strengthNear σ (ix p1) (ix p2) p3 p4) else (-2))))))
set_option maxRecDepth 20000 in
def lp_X3_steals_22 (a1 : Int32) (a2 : Int32) (a3 : Int32) : Nat → Int32 → St → St
  | 0, a4, σ => σ
  | n + 1, a4, σ => (if 9 ≤ a4 then σ else (lp_X3_steals_22 a1 a2 a3 n (a4 + 1) (u2 σ 6 (ix a4) (f_X3_strengthNear σ (ix a1) (ix a2) a3 a4))))
set_option maxRecDepth 20000 in
def lp_X3_steals_13 (a1 : Int32) (a2 : Int32) : Nat → Int32 → St → ((Int32 × St) ⊕ (St))
  | 0, a3, σ => Sum.inr σ
  | n + 1, a3, σ => (if 10 < a3 then (Sum.inr σ) else (if (f_X3_areAlike (lp_X3_steals_22 a1 a2 a3 200 0 σ) 6 (25 + (ix a2))) = 0 then (lp_X3_steals_13 a1 a2 n (a3 + 1) (lp_X3_steals_22 a1 a2 a3 200 0 σ)) else (Sum.inl (a3, (lp_X3_steals_22 a1 a2 a3 200 0 σ)))))
set_option maxRecDepth 20000 in
def f_X3_steals (σ : St) (p1 : Int32) (p2 : Int32) : Int32 × St :=
  (if (f_X3_areTwoSigns σ p1 p2) = 0 then ((-1), σ) else (match (lp_X3_steals_13 p1 p2 200 0 σ) with | Sum.inl r => r | Sum.inr S_13e => ((-9), S_13e)))
set_option maxRecDepth 20000 in
def lp_X3_leastApart_7 (σ : St) (a1 : Int32) (a2 : Int32) (a3 : Int32) (a4 : Int32) : Nat → Int32 → Int32 → Int32
  | 0, a5, a6 => a5
  | n + 1, a5, a6 => (if (σ 0 4) ≤ a6 then a5 else (lp_X3_leastApart_7 σ a1 a2 a3 a4 n (jmin a5 (((((σ (17 + (ix a6)) 1) - (σ (25 + (ix a6)) (ix a1))) - (σ (25 + (ix a6)) (ix a2))) + (jabs (a3 - (σ (25 + (ix a6)) (ix a1))))) + (jabs (a4 - (σ (25 + (ix a6)) (ix a2)))))) (a6 + 1)))
set_option maxRecDepth 20000 in
def f_X3_leastApart (σ : St) (p1 : Int32) (p2 : Int32) (p3 : Int32) (p4 : Int32) : Int32 :=
  (lp_X3_leastApart_7 σ p1 p2 p3 p4 200 2147483647 0)
set_option maxRecDepth 20000 in
def lp_X3_tryStrengths_11 (a1 : Int32) (a2 : Int32) (a3 : Int32) : Nat → Int32 → St → St
  | 0, a4, σ => σ
  | n + 1, a4, σ => (if 9 < a4 then σ else (if (f_X3_leastApart σ a1 a2 a3 a4) ≤ (σ 8 (ix 0)) then (lp_X3_tryStrengths_11 a1 a2 a3 n (a4 + 1) σ) else (lp_X3_tryStrengths_11 a1 a2 a3 n (a4 + 1) (u2 (u2 (u2 (u2 (u2 σ 8 (ix 0) (f_X3_leastApart σ a1 a2 a3 a4)) 8 (ix 1) a1) 8 (ix 2) a2) 8 (ix 3) a3) 8 (ix 4) a4))))
set_option maxRecDepth 20000 in
def lp_X3_tryStrengths_2 (a1 : Int32) (a2 : Int32) : Nat → Int32 → St → St
  | 0, a3, σ => σ
  | n + 1, a3, σ => (if 9 < a3 then σ else (lp_X3_tryStrengths_2 a1 a2 n (a3 + 1) (lp_X3_tryStrengths_11 a1 a2 a3 200 0 σ)))
set_option maxRecDepth 20000 in
def f_X3_tryStrengths (σ : St) (p1 : Int32) (p2 : Int32) : St :=
  (lp_X3_tryStrengths_2 p1 p2 200 0 σ)
set_option maxRecDepth 20000 in
def lp_X3_seekNewSmell_12 (a1 : Int32) : Nat → Int32 → St → St
  | 0, a2, σ => σ
  | n + 1, a2, σ => (if 9 ≤ a2 then σ else (lp_X3_seekNewSmell_12 a1 n (a2 + 1) (f_X3_tryStrengths σ a1 a2)))
set_option maxRecDepth 20000 in
def lp_X3_seekNewSmell_2  : Nat → Int32 → St → St
  | 0, a1, σ => σ
  | n + 1, a1, σ => (if 9 ≤ a1 then σ else (lp_X3_seekNewSmell_2 n (a1 + 1) (lp_X3_seekNewSmell_12 a1 200 (a1 + 1) σ)))
set_option maxRecDepth 20000 in
def f_X3_seekNewSmell (σ : St) : St :=
  (lp_X3_seekNewSmell_2 200 0 σ)
set_option maxRecDepth 20000 in
def f_X3_fresh (σ : St) (p1 : Int32) : Int32 × St :=
  (if p1 < 0 then ((-2), σ) else (if p1 < 5 then (if (σ 0 4) = 0 then ((-3), σ) else (if (σ 8 (ix 0)) = (-1) then (((f_X3_seekNewSmell σ) 8 (ix p1)), (f_X3_seekNewSmell σ)) else ((σ 8 (ix p1)), σ))) else ((-2), σ)))
set_option maxRecDepth 20000 in
def lp_X3_isDoor_2 (σ : St) (a0 : Nat) (a1 : Int32) (a2 : Int32) : Nat → Int32 → ((Int32) ⊕ (Unit))
  | 0, a3 => Sum.inr ()
  | n + 1, a3 => (if 9 ≤ a3 then (Sum.inr ()) else (if (σ (13 + a0) (ix (a1 + a3))) < 0 then (Sum.inl 0) else (if (σ (13 + a0) (ix (a1 + a3))) ≤ 99 then (lp_X3_isDoor_2 σ a0 a1 a2 n (a3 + 1)) else (Sum.inl 0))))
set_option maxRecDepth 20000 in
def f_X3_isDoor (σ : St) (p1 : Nat) (p2 : Int32) (p3 : Int32) : Int32 :=
  (match (lp_X3_isDoor_2 σ p1 p2 p3 200 0) with | Sum.inl r => r | Sum.inr _ => (if p3 < 0 then 0 else (if 3 < p3 then 0 else 1)))
set_option maxRecDepth 20000 in
def lp_X3_leftFrom_6 (σ : St) (a1 : Nat) (a2 : Int32) (a3 : Nat) (a4 : Int32) : Nat → Int32 → Int32 → Int32
  | 0, a5, a6 => a5
  | n + 1, a5, a6 => (if 9 ≤ a6 then a5 else (lp_X3_leftFrom_6 σ a1 a2 a3 a4 n (a5 + (jabs ((f_X3_fade σ a1 a6 (8 * (σ (25 + a1) (ix a6))) a2) - (σ (13 + a3) (ix (a4 + a6)))))) (a6 + 1)))
set_option maxRecDepth 20000 in
def f_X3_leftFrom (σ : St) (p1 : Nat) (p2 : Int32) (p3 : Nat) (p4 : Int32) : Int32 :=
  (lp_X3_leftFrom_6 σ p1 p2 p3 p4 200 0 0)
set_option maxRecDepth 20000 in
def lp_X3_countHours_26 (a1 : Int32) (a2 : Nat) (a3 : Int32) (a4 : Int32) (a5 : Int32) : Nat → Int32 → St → St
  | 0, a6, σ => σ
  | n + 1, a6, σ => (if 10 ≤ a6 then σ else (if (σ 0 7) < (f_X3_leftFrom σ (ix a5) (a6 + (a6 * a1)) a2 a3) then (lp_X3_countHours_26 a1 a2 a3 a4 a5 n (a6 + 1) σ) else (lp_X3_countHours_26 a1 a2 a3 a4 a5 n (a6 + 1) (u2 σ 7 (ix a5) ((σ 7 (ix a5)) + 1)))))
set_option maxRecDepth 20000 in
def lp_X3_countHours_6 (a1 : Int32) (a2 : Nat) (a3 : Int32) : Nat → Int32 → Int32 → St → (Int32 × St)
  | 0, a4, a5, σ => (a4, σ)
  | n + 1, a4, a5, σ => (if (σ 0 4) ≤ a5 then (a4, σ) else (lp_X3_countHours_6 a1 a2 a3 n (a4 + ((lp_X3_countHours_26 a1 a2 a3 a4 a5 200 0 (u2 σ 7 (ix a5) 0)) 7 (ix a5))) (a5 + 1) (lp_X3_countHours_26 a1 a2 a3 a4 a5 200 0 (u2 σ 7 (ix a5) 0))))
set_option maxRecDepth 20000 in
def f_X3_countHours (σ : St) (p1 : Int32) (p2 : Nat) (p3 : Int32) : Int32 × St :=
  (match (lp_X3_countHours_6 p1 p2 p3 200 0 0 σ) with | (v4_6e, S_6e) => (v4_6e, S_6e))
set_option maxRecDepth 20000 in
def lp_X3_ofShare_13 (a0 : Int32) (a1 : Int32) (a3 : Int32) : Nat → Int32 → ((Int32) ⊕ (Unit))
  | 0, a4 => Sum.inr ()
  | n + 1, a4 => (if a4 ≤ 1 then (Sum.inr ()) else (if (a0 - (a0 / a4) * a4) = 0 then (if (a1 - (a1 / a4) * a4) = 0 then (Sum.inl (a3 / a4)) else (lp_X3_ofShare_13 a0 a1 a3 n (a4 + (-1)))) else (lp_X3_ofShare_13 a0 a1 a3 n (a4 + (-1)))))
set_option maxRecDepth 20000 in
def f_X3_ofShare (p1 : Int32) (p2 : Int32) (p3 : Int32) : Int32 :=
  (match (lp_X3_ofShare_13 p1 p2 (if p3 = 0 then p1 else p2) 200 p2) with | Sum.inl r => r | Sum.inr _ => (if p3 = 0 then p1 else p2))
set_option maxRecDepth 20000 in
def f_X3_odds (σ : St) (p1 : Int32) (p2 : Int32) (p3 : Int32) (p4 : Int32) (p5 : Int32) (p6 : Int32) : Int64 × St :=
  (if (f_X3_isSign (u2 σ 0 9 0) p1) = 0 then ((-9223372036854775808), (u2 σ 0 9 0)) else (if ((f_X3_spanRefusal (u2 σ 0 9 0) p3 p4 p5 9).1) = 0 then (if (f_X3_isDoor ((f_X3_spanRefusal (u2 σ 0 9 0) p3 p4 p5 9).2) (ix p3) p5 p2) = 0 then ((-9223372036854775808), (f_X3_spanRefusal (u2 σ 0 9 0) p3 p4 p5 9).2) else (if p6 < 0 then ((-9223372036854775808), (f_X3_spanRefusal (u2 σ 0 9 0) p3 p4 p5 9).2) else (if p6 ≤ 1 then (if ((f_X3_countHours ((f_X3_spanRefusal (u2 σ 0 9 0) p3 p4 p5 9).2) p2 (ix p3) p5).1) = 0 then ((-9223372036854775808), (f_X3_countHours ((f_X3_spanRefusal (u2 σ 0 9 0) p3 p4 p5 9).2) p2 (ix p3) p5).2) else ((f_X3_ofShare (((f_X3_countHours ((f_X3_spanRefusal (u2 σ 0 9 0) p3 p4 p5 9).2) p2 (ix p3) p5).2) 7 (ix p1)) ((f_X3_countHours ((f_X3_spanRefusal (u2 σ 0 9 0) p3 p4 p5 9).2) p2 (ix p3) p5).1) p6).toInt64, (f_X3_countHours ((f_X3_spanRefusal (u2 σ 0 9 0) p3 p4 p5 9).2) p2 (ix p3) p5).2)) else ((-9223372036854775808), (f_X3_spanRefusal (u2 σ 0 9 0) p3 p4 p5 9).2)))) else ((-9223372036854775808), (f_X3_spanRefusal (u2 σ 0 9 0) p3 p4 p5 9).2)))
set_option maxRecDepth 20000 in
def lp_X3_who_63 (σ : St) : Nat → Int32 → Int32 → Int32 → Int32
  | 0, a6, a7, a8 => a6
  | n + 1, a6, a7, a8 => (if (σ 0 4) ≤ a8 then a6 else (if (σ 7 (ix a8)) ≤ a7 then (lp_X3_who_63 σ n a6 a7 (a8 + 1)) else (lp_X3_who_63 σ n a8 (σ 7 (ix a8)) (a8 + 1))))
set_option maxRecDepth 20000 in
def f_X3_who (σ : St) (p1 : Int32) (p2 : Int32) (p3 : Int32) (p4 : Int32) : Int32 × St :=
  (if ((f_X3_spanRefusal σ p2 p3 p4 9).1) = 0 then (if (f_X3_isDoor ((f_X3_spanRefusal σ p2 p3 p4 9).2) (ix p2) p4 p1) = 0 then ((-2), (f_X3_spanRefusal σ p2 p3 p4 9).2) else ((lp_X3_who_63 ((f_X3_countHours ((f_X3_spanRefusal σ p2 p3 p4 9).2) p1 (ix p2) p4).2) 200 (-9) 0 0), (f_X3_countHours ((f_X3_spanRefusal σ p2 p3 p4 9).2) p1 (ix p2) p4).2)) else ((f_X3_spanRefusal σ p2 p3 p4 9).1, (f_X3_spanRefusal σ p2 p3 p4 9).2))
set_option maxRecDepth 20000 in
def f_X3_sheet (σ : St) (p1 : Int32) (p2 : Int32) (p3 : Int32) : Int32 × St :=
  (if (f_X3_isSheet p1) = 0 then ((f_X3_refused σ (-1)).1, (f_X3_refused σ (-1)).2) else (if (f_X3_isLane p2) = 0 then ((f_X3_refused σ (-2)).1, (f_X3_refused σ (-2)).2) else (if p3 ≤ 90 then (if 0 ≤ p3 then (1, (f_X1_renew (u2 σ 0 9 0) (ix p1) p2 p3)) else ((f_X3_faulted σ 4).1, (f_X3_faulted σ 4).2)) else ((f_X3_refused σ (-2)).1, (f_X3_refused σ (-2)).2))))
set_option maxRecDepth 20000 in
def f_X3_put (σ : St) (p1 : Int32) (p2 : Int32) (p3 : Int32) : Int32 × St :=
  (if (f_X3_isSheet p1) = 0 then ((f_X3_refused σ (-1)).1, (f_X3_refused σ (-1)).2) else (if (σ (9 + (ix p1)) 0) = 0 then ((f_X3_faulted σ 1).1, (f_X3_faulted σ 1).2) else (if (f_X1_lacks σ (ix p1) p2 1) = 0 then (1, (u2 (u2 σ 0 9 0) (13 + (ix p1)) (ix p2) (f_X1_cut (u2 σ 0 9 0) (ix p1) p3))) else ((f_X3_faulted σ 3).1, (f_X3_faulted σ 3).2))))
set_option maxRecDepth 20000 in
def f_X3_cell (σ : St) (p1 : Int32) (p2 : Int32) (p3 : Int32) : Int64 × St :=
  (if ((f_X3_spanRefusal σ p1 p3 p2 1).1) = 0 then ((((f_X3_spanRefusal σ p1 p3 p2 1).2) (13 + (ix p1)) (ix p2)).toInt64, (f_X3_spanRefusal σ p1 p3 p2 1).2) else ((-9223372036854775808), (f_X3_spanRefusal σ p1 p3 p2 1).2))
set_option maxRecDepth 20000 in
def f_X3_fault (σ : St) : Int32 :=
  (σ 0 9)
set_option maxRecDepth 20000 in
def f_L_low (p1 : Int32) (p2 : Int32) : Int32 :=
  ((p1 &&& 2147483647) - ((p1 &&& 2147483647) / p2) * p2)
set_option maxRecDepth 20000 in
def f_L_set (σ : St) (p3 : Int32) (p4 : Int32) (p5 : Int32) : St :=
  (if 6 ≤ p3 then (u2 σ 2 (ix ((10 * (p3 - 6)) + p4)) p5) else (u2 σ 1 (ix ((10 * p3) + p4)) p5))
set_option maxRecDepth 20000 in
def f_L_get (σ : St) (p3 : Int32) (p4 : Int32) : Int32 :=
  (if 6 ≤ p3 then (σ 2 (ix ((10 * (p3 - 6)) + p4))) else (σ 1 (ix ((10 * p3) + p4))))
set_option maxRecDepth 20000 in
def f_L_off (p1 : Int32) (p2 : Int32) : Int32 :=
  (if p2 ≤ p1 then (p1 - p2) else (p2 - p1))
set_option maxRecDepth 20000 in
def lp_L_fades_29 (σ : St) (a6 : Int32) : Nat → Int32 → Int32 → Int32
  | 0, a5, a7 => a5
  | n + 1, a5, a7 => (if a7 < a6 then a5 else (lp_L_fades_29 σ a6 n ((a5 - (a5 - (a5 / 2) * 2)) / 2) (a7 - a6)))
set_option maxRecDepth 20000 in
def f_L_fades (σ : St) (p2 : Int32) (p3 : Int32) (p4 : Int32) (p5 : Int32) : Int32 :=
  (lp_L_fades_29 σ (if p2 = 2 then 1000 else ((σ 0 (ix (3 + p3))) * (1 + p2))) 200 p4 p5)
set_option maxRecDepth 20000 in
def lp_L_apart_6 (σ : St) (a2 : Int32) (a3 : Int32) : Nat → Int32 → Int32 → Int32
  | 0, a4, a5 => a4
  | n + 1, a4, a5 => (if 10 ≤ a5 then a4 else (lp_L_apart_6 σ a2 a3 n (a4 + (f_L_off (f_L_get σ a2 a5) (f_L_get σ a3 a5))) (a5 + 1)))
set_option maxRecDepth 20000 in
def f_L_apart (σ : St) (p3 : Int32) (p4 : Int32) : Int32 :=
  (lp_L_apart_6 σ p3 p4 200 0 1)
set_option maxRecDepth 20000 in
def lp_L_bits_4  : Nat → Int32 → Int32 → Int32
  | 0, a1, a2 => a1
  | n + 1, a1, a2 => (if a2 = 0 then a1 else (lp_L_bits_4 n (a1 + 1) (a2 &&& (a2 - 1))))
set_option maxRecDepth 20000 in
def f_L_bits (p1 : Int32) : Int32 :=
  (lp_L_bits_4 1100 0 p1)
theorem hd_J6_bitCount_0f7a4 : yJ6_bitCount_0f7a4.cls ≠ "java/lang/invoke/MethodHandle" ∧ yJ6_bitCount_0f7a4.cls ≠ "java/lang/invoke/VarHandle" ∧ (parseMethodDescriptor yJ6_bitCount_0f7a4.desc).map (fun d => d.parameters.length) = some 1 := by decide +kernel
theorem hd_X1_renew : yX1_renew.cls ≠ "java/lang/invoke/MethodHandle" ∧ yX1_renew.cls ≠ "java/lang/invoke/VarHandle" ∧ (parseMethodDescriptor yX1_renew.desc).map (fun d => d.parameters.length) = some 2 := by decide +kernel
theorem hd_X1_cut : yX1_cut.cls ≠ "java/lang/invoke/MethodHandle" ∧ yX1_cut.cls ≠ "java/lang/invoke/VarHandle" ∧ (parseMethodDescriptor yX1_cut.desc).map (fun d => d.parameters.length) = some 1 := by decide +kernel
theorem hd_X1_lacks : yX1_lacks.cls ≠ "java/lang/invoke/MethodHandle" ∧ yX1_lacks.cls ≠ "java/lang/invoke/VarHandle" ∧ (parseMethodDescriptor yX1_lacks.desc).map (fun d => d.parameters.length) = some 2 := by decide +kernel
theorem hd_X3_isSheet : yX3_isSheet.cls ≠ "java/lang/invoke/MethodHandle" ∧ yX3_isSheet.cls ≠ "java/lang/invoke/VarHandle" ∧ (parseMethodDescriptor yX3_isSheet.desc).map (fun d => d.parameters.length) = some 1 := by decide +kernel
theorem hd_X3_refused : yX3_refused.cls ≠ "java/lang/invoke/MethodHandle" ∧ yX3_refused.cls ≠ "java/lang/invoke/VarHandle" ∧ (parseMethodDescriptor yX3_refused.desc).map (fun d => d.parameters.length) = some 1 := by decide +kernel
theorem hd_X3_isLane : yX3_isLane.cls ≠ "java/lang/invoke/MethodHandle" ∧ yX3_isLane.cls ≠ "java/lang/invoke/VarHandle" ∧ (parseMethodDescriptor yX3_isLane.desc).map (fun d => d.parameters.length) = some 1 := by decide +kernel
theorem hd_X3_faulted : yX3_faulted.cls ≠ "java/lang/invoke/MethodHandle" ∧ yX3_faulted.cls ≠ "java/lang/invoke/VarHandle" ∧ (parseMethodDescriptor yX3_faulted.desc).map (fun d => d.parameters.length) = some 1 := by decide +kernel
theorem hd_X3_spanRefusal : yX3_spanRefusal.cls ≠ "java/lang/invoke/MethodHandle" ∧ yX3_spanRefusal.cls ≠ "java/lang/invoke/VarHandle" ∧ (parseMethodDescriptor yX3_spanRefusal.desc).map (fun d => d.parameters.length) = some 4 := by decide +kernel
theorem hd_X3_kindOf : yX3_kindOf.cls ≠ "java/lang/invoke/MethodHandle" ∧ yX3_kindOf.cls ≠ "java/lang/invoke/VarHandle" ∧ (parseMethodDescriptor yX3_kindOf.desc).map (fun d => d.parameters.length) = some 1 := by decide +kernel
theorem hd_X3_goesOn : yX3_goesOn.cls ≠ "java/lang/invoke/MethodHandle" ∧ yX3_goesOn.cls ≠ "java/lang/invoke/VarHandle" ∧ (parseMethodDescriptor yX3_goesOn.desc).map (fun d => d.parameters.length) = some 2 := by decide +kernel
theorem hd_X3_textFault : yX3_textFault.cls ≠ "java/lang/invoke/MethodHandle" ∧ yX3_textFault.cls ≠ "java/lang/invoke/VarHandle" ∧ (parseMethodDescriptor yX3_textFault.desc).map (fun d => d.parameters.length) = some 3 := by decide +kernel
theorem hd_X3_takeText : yX3_takeText.cls ≠ "java/lang/invoke/MethodHandle" ∧ yX3_takeText.cls ≠ "java/lang/invoke/VarHandle" ∧ (parseMethodDescriptor yX3_takeText.desc).map (fun d => d.parameters.length) = some 3 := by decide +kernel
theorem hd_X3_startAnew : yX3_startAnew.cls ≠ "java/lang/invoke/MethodHandle" ∧ yX3_startAnew.cls ≠ "java/lang/invoke/VarHandle" ∧ (parseMethodDescriptor yX3_startAnew.desc).map (fun d => d.parameters.length) = some 0 := by decide +kernel
theorem hd_X3_register : yX3_register.cls ≠ "java/lang/invoke/MethodHandle" ∧ yX3_register.cls ≠ "java/lang/invoke/VarHandle" ∧ (parseMethodDescriptor yX3_register.desc).map (fun d => d.parameters.length) = some 4 := by decide +kernel
theorem hd_X3_isSmell : yX3_isSmell.cls ≠ "java/lang/invoke/MethodHandle" ∧ yX3_isSmell.cls ≠ "java/lang/invoke/VarHandle" ∧ (parseMethodDescriptor yX3_isSmell.desc).map (fun d => d.parameters.length) = some 1 := by decide +kernel
theorem hd_X3_half : yX3_half.cls ≠ "java/lang/invoke/MethodHandle" ∧ yX3_half.cls ≠ "java/lang/invoke/VarHandle" ∧ (parseMethodDescriptor yX3_half.desc).map (fun d => d.parameters.length) = some 2 := by decide +kernel
theorem hd_X3_bound : yX3_bound.cls ≠ "java/lang/invoke/MethodHandle" ∧ yX3_bound.cls ≠ "java/lang/invoke/VarHandle" ∧ (parseMethodDescriptor yX3_bound.desc).map (fun d => d.parameters.length) = some 1 := by decide +kernel
theorem hd_X3_fade : yX3_fade.cls ≠ "java/lang/invoke/MethodHandle" ∧ yX3_fade.cls ≠ "java/lang/invoke/VarHandle" ∧ (parseMethodDescriptor yX3_fade.desc).map (fun d => d.parameters.length) = some 4 := by decide +kernel
theorem hd_X3_isSign : yX3_isSign.cls ≠ "java/lang/invoke/MethodHandle" ∧ yX3_isSign.cls ≠ "java/lang/invoke/VarHandle" ∧ (parseMethodDescriptor yX3_isSign.desc).map (fun d => d.parameters.length) = some 1 := by decide +kernel
theorem hd_X3_areTwoSigns : yX3_areTwoSigns.cls ≠ "java/lang/invoke/MethodHandle" ∧ yX3_areTwoSigns.cls ≠ "java/lang/invoke/VarHandle" ∧ (parseMethodDescriptor yX3_areTwoSigns.desc).map (fun d => d.parameters.length) = some 2 := by decide +kernel
theorem hd_X3_pairNumber : yX3_pairNumber.cls ≠ "java/lang/invoke/MethodHandle" ∧ yX3_pairNumber.cls ≠ "java/lang/invoke/VarHandle" ∧ (parseMethodDescriptor yX3_pairNumber.desc).map (fun d => d.parameters.length) = some 2 := by decide +kernel
theorem hd_X3_apartOf : yX3_apartOf.cls ≠ "java/lang/invoke/MethodHandle" ∧ yX3_apartOf.cls ≠ "java/lang/invoke/VarHandle" ∧ (parseMethodDescriptor yX3_apartOf.desc).map (fun d => d.parameters.length) = some 2 := by decide +kernel
theorem hd_X3_apart : yX3_apart.cls ≠ "java/lang/invoke/MethodHandle" ∧ yX3_apart.cls ≠ "java/lang/invoke/VarHandle" ∧ (parseMethodDescriptor yX3_apart.desc).map (fun d => d.parameters.length) = some 2 := by decide +kernel
theorem hd_X3_areAlike : yX3_areAlike.cls ≠ "java/lang/invoke/MethodHandle" ∧ yX3_areAlike.cls ≠ "java/lang/invoke/VarHandle" ∧ (parseMethodDescriptor yX3_areAlike.desc).map (fun d => d.parameters.length) = some 2 := by decide +kernel
theorem hd_X3_twins : yX3_twins.cls ≠ "java/lang/invoke/MethodHandle" ∧ yX3_twins.cls ≠ "java/lang/invoke/VarHandle" ∧ (parseMethodDescriptor yX3_twins.desc).map (fun d => d.parameters.length) = some 1 := by decide +kernel
theorem hd_X3_areStoppers : yX3_areStoppers.cls ≠ "java/lang/invoke/MethodHandle" ∧ yX3_areStoppers.cls ≠ "java/lang/invoke/VarHandle" ∧ (parseMethodDescriptor yX3_areStoppers.desc).map (fun d => d.parameters.length) = some 3 := by decide +kernel
theorem hd_X3_isTakenFor : yX3_isTakenFor.cls ≠ "java/lang/invoke/MethodHandle" ∧ yX3_isTakenFor.cls ≠ "java/lang/invoke/VarHandle" ∧ (parseMethodDescriptor yX3_isTakenFor.desc).map (fun d => d.parameters.length) = some 5 := by decide +kernel
theorem hd_X3_forged : yX3_forged.cls ≠ "java/lang/invoke/MethodHandle" ∧ yX3_forged.cls ≠ "java/lang/invoke/VarHandle" ∧ (parseMethodDescriptor yX3_forged.desc).map (fun d => d.parameters.length) = some 6 := by decide +kernel
theorem hd_X3_strengthNear : yX3_strengthNear.cls ≠ "java/lang/invoke/MethodHandle" ∧ yX3_strengthNear.cls ≠ "java/lang/invoke/VarHandle" ∧ (parseMethodDescriptor yX3_strengthNear.desc).map (fun d => d.parameters.length) = some 4 := by decide +kernel
theorem hd_X3_near : yX3_near.cls ≠ "java/lang/invoke/MethodHandle" ∧ yX3_near.cls ≠ "java/lang/invoke/VarHandle" ∧ (parseMethodDescriptor yX3_near.desc).map (fun d => d.parameters.length) = some 4 := by decide +kernel
theorem hd_X3_steals : yX3_steals.cls ≠ "java/lang/invoke/MethodHandle" ∧ yX3_steals.cls ≠ "java/lang/invoke/VarHandle" ∧ (parseMethodDescriptor yX3_steals.desc).map (fun d => d.parameters.length) = some 2 := by decide +kernel
theorem hd_X3_leastApart : yX3_leastApart.cls ≠ "java/lang/invoke/MethodHandle" ∧ yX3_leastApart.cls ≠ "java/lang/invoke/VarHandle" ∧ (parseMethodDescriptor yX3_leastApart.desc).map (fun d => d.parameters.length) = some 4 := by decide +kernel
theorem hd_X3_tryStrengths : yX3_tryStrengths.cls ≠ "java/lang/invoke/MethodHandle" ∧ yX3_tryStrengths.cls ≠ "java/lang/invoke/VarHandle" ∧ (parseMethodDescriptor yX3_tryStrengths.desc).map (fun d => d.parameters.length) = some 2 := by decide +kernel
theorem hd_X3_seekNewSmell : yX3_seekNewSmell.cls ≠ "java/lang/invoke/MethodHandle" ∧ yX3_seekNewSmell.cls ≠ "java/lang/invoke/VarHandle" ∧ (parseMethodDescriptor yX3_seekNewSmell.desc).map (fun d => d.parameters.length) = some 0 := by decide +kernel
theorem hd_X3_fresh : yX3_fresh.cls ≠ "java/lang/invoke/MethodHandle" ∧ yX3_fresh.cls ≠ "java/lang/invoke/VarHandle" ∧ (parseMethodDescriptor yX3_fresh.desc).map (fun d => d.parameters.length) = some 1 := by decide +kernel
theorem hd_X3_isDoor : yX3_isDoor.cls ≠ "java/lang/invoke/MethodHandle" ∧ yX3_isDoor.cls ≠ "java/lang/invoke/VarHandle" ∧ (parseMethodDescriptor yX3_isDoor.desc).map (fun d => d.parameters.length) = some 3 := by decide +kernel
theorem hd_X3_leftFrom : yX3_leftFrom.cls ≠ "java/lang/invoke/MethodHandle" ∧ yX3_leftFrom.cls ≠ "java/lang/invoke/VarHandle" ∧ (parseMethodDescriptor yX3_leftFrom.desc).map (fun d => d.parameters.length) = some 4 := by decide +kernel
theorem hd_X3_countHours : yX3_countHours.cls ≠ "java/lang/invoke/MethodHandle" ∧ yX3_countHours.cls ≠ "java/lang/invoke/VarHandle" ∧ (parseMethodDescriptor yX3_countHours.desc).map (fun d => d.parameters.length) = some 3 := by decide +kernel
theorem hd_X3_ofShare : yX3_ofShare.cls ≠ "java/lang/invoke/MethodHandle" ∧ yX3_ofShare.cls ≠ "java/lang/invoke/VarHandle" ∧ (parseMethodDescriptor yX3_ofShare.desc).map (fun d => d.parameters.length) = some 3 := by decide +kernel
theorem hd_X3_odds : yX3_odds.cls ≠ "java/lang/invoke/MethodHandle" ∧ yX3_odds.cls ≠ "java/lang/invoke/VarHandle" ∧ (parseMethodDescriptor yX3_odds.desc).map (fun d => d.parameters.length) = some 6 := by decide +kernel
theorem hd_X3_who : yX3_who.cls ≠ "java/lang/invoke/MethodHandle" ∧ yX3_who.cls ≠ "java/lang/invoke/VarHandle" ∧ (parseMethodDescriptor yX3_who.desc).map (fun d => d.parameters.length) = some 4 := by decide +kernel
theorem hd_X3_sheet : yX3_sheet.cls ≠ "java/lang/invoke/MethodHandle" ∧ yX3_sheet.cls ≠ "java/lang/invoke/VarHandle" ∧ (parseMethodDescriptor yX3_sheet.desc).map (fun d => d.parameters.length) = some 3 := by decide +kernel
theorem hd_X3_put : yX3_put.cls ≠ "java/lang/invoke/MethodHandle" ∧ yX3_put.cls ≠ "java/lang/invoke/VarHandle" ∧ (parseMethodDescriptor yX3_put.desc).map (fun d => d.parameters.length) = some 3 := by decide +kernel
theorem hd_X3_cell : yX3_cell.cls ≠ "java/lang/invoke/MethodHandle" ∧ yX3_cell.cls ≠ "java/lang/invoke/VarHandle" ∧ (parseMethodDescriptor yX3_cell.desc).map (fun d => d.parameters.length) = some 3 := by decide +kernel
theorem hd_X3_fault : yX3_fault.cls ≠ "java/lang/invoke/MethodHandle" ∧ yX3_fault.cls ≠ "java/lang/invoke/VarHandle" ∧ (parseMethodDescriptor yX3_fault.desc).map (fun d => d.parameters.length) = some 0 := by decide +kernel
theorem hd_L_low : yL_low.cls ≠ "java/lang/invoke/MethodHandle" ∧ yL_low.cls ≠ "java/lang/invoke/VarHandle" ∧ (parseMethodDescriptor yL_low.desc).map (fun d => d.parameters.length) = some 2 := by decide +kernel
theorem hd_L_set : yL_set.cls ≠ "java/lang/invoke/MethodHandle" ∧ yL_set.cls ≠ "java/lang/invoke/VarHandle" ∧ (parseMethodDescriptor yL_set.desc).map (fun d => d.parameters.length) = some 5 := by decide +kernel
theorem hd_L_get : yL_get.cls ≠ "java/lang/invoke/MethodHandle" ∧ yL_get.cls ≠ "java/lang/invoke/VarHandle" ∧ (parseMethodDescriptor yL_get.desc).map (fun d => d.parameters.length) = some 4 := by decide +kernel
theorem hd_L_off : yL_off.cls ≠ "java/lang/invoke/MethodHandle" ∧ yL_off.cls ≠ "java/lang/invoke/VarHandle" ∧ (parseMethodDescriptor yL_off.desc).map (fun d => d.parameters.length) = some 2 := by decide +kernel
theorem hd_L_fades : yL_fades.cls ≠ "java/lang/invoke/MethodHandle" ∧ yL_fades.cls ≠ "java/lang/invoke/VarHandle" ∧ (parseMethodDescriptor yL_fades.desc).map (fun d => d.parameters.length) = some 5 := by decide +kernel
theorem hd_L_apart : yL_apart.cls ≠ "java/lang/invoke/MethodHandle" ∧ yL_apart.cls ≠ "java/lang/invoke/VarHandle" ∧ (parseMethodDescriptor yL_apart.desc).map (fun d => d.parameters.length) = some 4 := by decide +kernel
theorem hd_L_bits : yL_bits.cls ≠ "java/lang/invoke/MethodHandle" ∧ yL_bits.cls ≠ "java/lang/invoke/VarHandle" ∧ (parseMethodDescriptor yL_bits.desc).map (fun d => d.parameters.length) = some 1 := by decide +kernel
