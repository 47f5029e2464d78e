/-! what each method answers, and what it leaves: printed out of the bytecode by program (wip/whole/gen.py) -/
set_option maxRecDepth 20000 in
def f_J6_bitCount_0f7a4 (p1 : Int32) : Int32 :=
  ((((((((p1 - (((p1.toUInt32 >>> ((1 : Int32).toUInt32 &&& Int32.toUInt32 31)).toInt32) &&& 1431655765)) &&& 858993459) + ((((p1 - (((p1.toUInt32 >>> ((1 : Int32).toUInt32 &&& Int32.toUInt32 31)).toInt32) &&& 1431655765)).toUInt32 >>> ((2 : Int32).toUInt32 &&& Int32.toUInt32 31)).toInt32) &&& 858993459)) + (((((p1 - (((p1.toUInt32 >>> ((1 : Int32).toUInt32 &&& Int32.toUInt32 31)).toInt32) &&& 1431655765)) &&& 858993459) + ((((p1 - (((p1.toUInt32 >>> ((1 : Int32).toUInt32 &&& Int32.toUInt32 31)).toInt32) &&& 1431655765)).toUInt32 >>> ((2 : Int32).toUInt32 &&& Int32.toUInt32 31)).toInt32) &&& 858993459)).toUInt32 >>> ((4 : Int32).toUInt32 &&& Int32.toUInt32 31)).toInt32)) &&& 252645135) + (((((((p1 - (((p1.toUInt32 >>> ((1 : Int32).toUInt32 &&& Int32.toUInt32 31)).toInt32) &&& 1431655765)) &&& 858993459) + ((((p1 - (((p1.toUInt32 >>> ((1 : Int32).toUInt32 &&& Int32.toUInt32 31)).toInt32) &&& 1431655765)).toUInt32 >>> ((2 : Int32).toUInt32 &&& Int32.toUInt32 31)).toInt32) &&& 858993459)) + (((((p1 - (((p1.toUInt32 >>> ((1 : Int32).toUInt32 &&& Int32.toUInt32 31)).toInt32) &&& 1431655765)) &&& 858993459) + ((((p1 - (((p1.toUInt32 >>> ((1 : Int32).toUInt32 &&& Int32.toUInt32 31)).toInt32) &&& 1431655765)).toUInt32 >>> ((2 : Int32).toUInt32 &&& Int32.toUInt32 31)).toInt32) &&& 858993459)).toUInt32 >>> ((4 : Int32).toUInt32 &&& Int32.toUInt32 31)).toInt32)) &&& 252645135).toUInt32 >>> ((8 : Int32).toUInt32 &&& Int32.toUInt32 31)).toInt32)) + ((((((((p1 - (((p1.toUInt32 >>> ((1 : Int32).toUInt32 &&& Int32.toUInt32 31)).toInt32) &&& 1431655765)) &&& 858993459) + ((((p1 - (((p1.toUInt32 >>> ((1 : Int32).toUInt32 &&& Int32.toUInt32 31)).toInt32) &&& 1431655765)).toUInt32 >>> ((2 : Int32).toUInt32 &&& Int32.toUInt32 31)).toInt32) &&& 858993459)) + (((((p1 - (((p1.toUInt32 >>> ((1 : Int32).toUInt32 &&& Int32.toUInt32 31)).toInt32) &&& 1431655765)) &&& 858993459) + ((((p1 - (((p1.toUInt32 >>> ((1 : Int32).toUInt32 &&& Int32.toUInt32 31)).toInt32) &&& 1431655765)).toUInt32 >>> ((2 : Int32).toUInt32 &&& Int32.toUInt32 31)).toInt32) &&& 858993459)).toUInt32 >>> ((4 : Int32).toUInt32 &&& Int32.toUInt32 31)).toInt32)) &&& 252645135) + (((((((p1 - (((p1.toUInt32 >>> ((1 : Int32).toUInt32 &&& Int32.toUInt32 31)).toInt32) &&& 1431655765)) &&& 858993459) + ((((p1 - (((p1.toUInt32 >>> ((1 : Int32).toUInt32 &&& Int32.toUInt32 31)).toInt32) &&& 1431655765)).toUInt32 >>> ((2 : Int32).toUInt32 &&& Int32.toUInt32 31)).toInt32) &&& 858993459)) + (((((p1 - (((p1.toUInt32 >>> ((1 : Int32).toUInt32 &&& Int32.toUInt32 31)).toInt32) &&& 1431655765)) &&& 858993459) + ((((p1 - (((p1.toUInt32 >>> ((1 : Int32).toUInt32 &&& Int32.toUInt32 31)).toInt32) &&& 1431655765)).toUInt32 >>> ((2 : Int32).toUInt32 &&& Int32.toUInt32 31)).toInt32) &&& 858993459)).toUInt32 >>> ((4 : Int32).toUInt32 &&& Int32.toUInt32 31)).toInt32)) &&& 252645135).toUInt32 >>> ((8 : Int32).toUInt32 &&& Int32.toUInt32 31)).toInt32)).toUInt32 >>> ((16 : Int32).toUInt32 &&& Int32.toUInt32 31)).toInt32)) &&& 63)
set_option maxRecDepth 20000 in
def f_X1_renew (σ : St) (r0 : Nat) (p1 : Int32) (p2 : Int32) : St :=
  (u1 (u2 (u2 (u2 σ (9 + r0) 0 1) (9 + r0) 1 p1) (9 + r0) 2 p2) (13 + r0) (fillF 90 0 ((u2 (u2 (u2 σ (9 + r0) 0 1) (9 + r0) 1 p1) (9 + r0) 2 p2) (13 + r0))))
set_option maxRecDepth 20000 in
def f_X1_cut (σ : St) (r0 : Nat) (p1 : Int32) : Int32 :=
  (if (σ (9 + r0) 1) = 0 then p1.toInt8.toInt32 else (if (σ (9 + r0) 1) = 1 then p1.toInt16.toInt32 else p1))
set_option maxRecDepth 20000 in
def f_X1_lacks (σ : St) (r0 : Nat) (p1 : Int32) (p2 : Int64) : Int32 :=
  (if p1 < 0 then 1 else (if (lg_cmp (p1.toInt64 + p2) ((σ (9 + r0) 2).toInt64)) ≤ 0 then 0 else 1))
set_option maxRecDepth 20000 in
def f_X3_isSheet (p1 : Int32) : Int32 :=
  (if p1 < 0 then 0 else (if 4 ≤ p1 then 0 else 1))
set_option maxRecDepth 20000 in
def f_X3_refused (σ : St) (p1 : Int32) : Int32 × St :=
  (p1, (u2 σ 0 9 0))
set_option maxRecDepth 20000 in
def f_X3_isLane (p1 : Int32) : Int32 :=
  (if p1 < 0 then 0 else (if 3 ≤ p1 then 0 else 1))
set_option maxRecDepth 20000 in
def f_X3_faulted (σ : St) (p1 : Int32) : Int32 × St :=
  (((-10) - p1), (u2 σ 0 9 p1))
set_option maxRecDepth 20000 in
def f_X3_spanRefusal (σ : St) (p1 : Int32) (p2 : Int32) (p3 : Int32) (p4 : Int64) : Int32 × St :=
  (if (f_X3_isSheet p1) = 0 then ((f_X3_refused σ (-1)).1, (f_X3_refused σ (-1)).2) else (if (f_X3_isLane p2) = 0 then ((f_X3_refused σ (-2)).1, (f_X3_refused σ (-2)).2) else (if (σ (9 + (ix p1)) 0) = 0 then (if (σ (9 + (ix p1)) 0) = 0 then ((f_X3_faulted σ 1).1, (f_X3_faulted σ 1).2) else (if 0 ≤ (lg_cmp p4 0) then (if (f_X1_lacks σ (ix p1) p3 p4) = 0 then (0, (u2 σ 0 9 0)) else ((f_X3_faulted σ 3).1, (f_X3_faulted σ 3).2)) else ((f_X3_faulted σ 4).1, (f_X3_faulted σ 4).2))) else (if (σ (9 + (ix p1)) 1) = p2 then (if (σ (9 + (ix p1)) 0) = 0 then ((f_X3_faulted σ 1).1, (f_X3_faulted σ 1).2) else (if 0 ≤ (lg_cmp p4 0) then (if (f_X1_lacks σ (ix p1) p3 p4) = 0 then (0, (u2 σ 0 9 0)) else ((f_X3_faulted σ 3).1, (f_X3_faulted σ 3).2)) else ((f_X3_faulted σ 4).1, (f_X3_faulted σ 4).2))) else ((f_X3_faulted σ 2).1, (f_X3_faulted σ 2).2)))))
set_option maxRecDepth 20000 in
def f_X3_kindOf (p1 : Int32) : Int32 :=
  (if p1 = 102 then 1 else (if p1 = 112 then 0 else (if p1 = 115 then 2 else (-1))))
set_option maxRecDepth 20000 in
def f_X3_goesOn (p1 : Int32) (p2 : Int32) : Int32 :=
  (if (p2 - (p2 / 11) * 11) = 0 then (if (f_X3_kindOf p1) < 0 then 0 else 1) else (if (p2 - (p2 / 11) * 11) = 10 then (if p1 = 59 then (if 8 ≤ ((p2 / 11) + 1) then 0 else 1) else 0) else (if p1 < 48 then 0 else (if 57 < p1 then 0 else 1))))
set_option maxRecDepth 20000 in
def lp_X3_textFault_2 (σ : St) (a0 : Nat) (a1 : Int32) (a2 : Int32) : Nat → Int32 → ((Int32) ⊕ (Unit))
  | 0, a3 => Sum.inr ()
  | n + 1, a3 => (if a2 ≤ a3 then (Sum.inr ()) else (if (f_X3_goesOn (σ (13 + a0) (ix (a1 + a3))) a3) = 0 then (Sum.inl a3) else (lp_X3_textFault_2 σ a0 a1 a2 n (a3 + 1))))
set_option maxRecDepth 20000 in
def f_X3_textFault (σ : St) (p1 : Nat) (p2 : Int32) (p3 : Int32) : Int32 :=
  (match (lp_X3_textFault_2 σ p1 p2 p3 200 0) with | Sum.inl r => r | Sum.inr _ => (if (if (p3 - (p3 / 11) * 11) = 10 then (if ((p3 / 11) + 1) < 2 then 0 else 1) else 0) = 0 then p3 else (-1)))
set_option maxRecDepth 20000 in
def lp_X3_takeText_65 (a1 : Nat) (a2 : Int32) (a4 : Int32) (a5 : Int32) : Nat → Int32 → St → St
  | 0, a6, σ => σ
  | n + 1, a6, σ => (if 9 ≤ a6 then σ else (lp_X3_takeText_65 a1 a2 a4 a5 n (a6 + 1) (u2 (u2 σ (25 + (ix a4)) (ix a6) ((σ (13 + a1) (ix ((a5 + 1) + a6))) - 48)) (17 + (ix a4)) 1 (((u2 σ (25 + (ix a4)) (ix a6) ((σ (13 + a1) (ix ((a5 + 1) + a6))) - 48)) (17 + (ix a4)) 1) + ((σ (13 + a1) (ix ((a5 + 1) + a6))) - 48)))))
set_option maxRecDepth 20000 in
def lp_X3_takeText_13 (a1 : Nat) (a2 : Int32) : Nat → Int32 → St → St
  | 0, a4, σ => σ
  | n + 1, a4, σ => (if (σ 0 4) ≤ a4 then σ else (lp_X3_takeText_13 a1 a2 n (a4 + 1) (lp_X3_takeText_65 a1 a2 a4 (a2 + (a4 * 11)) 200 0 (u2 (u2 σ (17 + (ix a4)) 0 (f_X3_kindOf (σ (13 + a1) (ix (a2 + (a4 * 11)))))) (17 + (ix a4)) 1 0))))
set_option maxRecDepth 20000 in
def f_X3_takeText (σ : St) (p1 : Nat) (p2 : Int32) (p3 : Int32) : St :=
  (lp_X3_takeText_13 p1 p2 200 0 (u2 σ 0 4 ((p3 / 11) + 1)))
set_option maxRecDepth 20000 in
def f_X3_startAnew (σ : St) : St :=
  (u2 (u1 (u2 (u2 (u2 σ 0 5 0) 0 6 0) 0 7 40) 4 (fillF 9 5 ((u2 (u2 (u2 σ 0 5 0) 0 6 0) 0 7 40) 4))) 8 (ix 0) (-1))
set_option maxRecDepth 20000 in
def f_X3_register (σ : St) (p1 : Int32) (p2 : Int32) (p3 : Int32) (p4 : Int32) : Int32 × St :=
  (if ((f_X3_spanRefusal σ p1 p2 p3 p4.toInt64).1) = 0 then (if (f_X3_textFault ((f_X3_spanRefusal σ p1 p2 p3 p4.toInt64).2) (ix p1) p3 p4) < 0 then (((f_X3_startAnew (f_X3_takeText ((f_X3_spanRefusal σ p1 p2 p3 p4.toInt64).2) (ix p1) p3 p4)) 0 4), (f_X3_startAnew (f_X3_takeText ((f_X3_spanRefusal σ p1 p2 p3 p4.toInt64).2) (ix p1) p3 p4))) else (((-100) - (f_X3_textFault ((f_X3_spanRefusal σ p1 p2 p3 p4.toInt64).2) (ix p1) p3 p4)), (f_X3_spanRefusal σ p1 p2 p3 p4.toInt64).2)) else ((f_X3_spanRefusal σ p1 p2 p3 p4.toInt64).1, (f_X3_spanRefusal σ p1 p2 p3 p4.toInt64).2))
set_option maxRecDepth 20000 in
def f_X3_isSign (σ : St) (p1 : Int32) : Int32 :=
  (if p1 < 0 then 0 else (if (σ 0 4) ≤ p1 then 0 else 1))
set_option maxRecDepth 20000 in
def f_X3_ofSign (σ : St) (p1 : Int32) (p2 : Int32) : Int32 :=
  (if (f_X3_isSign σ p1) = 0 then (-1) else (if p2 < (-1) then (-2) else (if p2 < 9 then (if 0 ≤ p2 then (σ (25 + (ix p1)) (ix p2)) else (σ (17 + (ix p1)) 0)) else (-2))))
set_option maxRecDepth 20000 in
def f_X3_isSmell (p1 : Int32) : Int32 :=
  (if p1 < 0 then 0 else (if 9 ≤ p1 then 0 else 1))
set_option maxRecDepth 20000 in
def f_X3_half (σ : St) (p1 : Int32) (p2 : Int32) : Int32 × St :=
  (if (f_X3_isSmell p1) = 0 then ((-1), σ) else (if p2 < 1 then ((-2), σ) else (if p2 ≤ 9 then (if (σ 0 4) = 0 then ((-3), σ) else ((σ 4 (ix p1)), (u2 σ 4 (ix p1) p2))) else ((-2), σ))))
set_option maxRecDepth 20000 in
def f_X3_bound (σ : St) (p1 : Int32) : Int32 × St :=
  (if p1 < 0 then ((-2), σ) else (if p1 ≤ 999 then (if (σ 0 4) = 0 then ((-3), σ) else ((σ 0 7), (u2 σ 0 7 p1))) else ((-2), σ)))
set_option maxRecDepth 20000 in
def f_X3_year (σ : St) (p1 : Int32) : Int32 × St :=
  (if p1 < (σ 0 6) then ((-2), σ) else (if p1 ≤ 99 then (if (σ 0 4) = 0 then ((-3), σ) else ((σ 0 6), (u2 σ 0 6 p1))) else ((-2), σ)))
set_option maxRecDepth 20000 in
def f_X3_fade (σ : St) (p1 : Nat) (p2 : Int32) (p3 : Int32) (p4 : Int32) : Int32 :=
  (if (σ (17 + p1) 0) = 2 then p3 else (if 1 ≤ (σ 4 (ix p2)) then (p3 >>> ((jmin (if (σ (17 + p1) 0) = 1 then ((p4 / (σ 4 (ix p2))) / 2) else (p4 / (σ 4 (ix p2)))) 31) &&& 31)) else p3))
set_option maxRecDepth 20000 in
def f_X3_faded (σ : St) (p1 : Int32) (p2 : Int32) (p3 : Int32) (p4 : Int32) : Int32 :=
  (if (f_X3_isSign σ p1) = 0 then (-1) else (if (f_X3_isSmell p2) = 0 then (-1) else (if p3 < 0 then (-2) else (if 999 < p3 then (-2) else (if p4 < 0 then (-2) else (if p4 ≤ 99 then (f_X3_fade σ (ix p1) p2 p3 p4) else (-2)))))))
set_option maxRecDepth 20000 in
def f_X3_areTwoSigns (σ : St) (p1 : Int32) (p2 : Int32) : Int32 :=
  (if (f_X3_isSign σ p1) = 0 then 0 else (if (f_X3_isSign σ p2) = 0 then 0 else (if p1 = p2 then 0 else 1)))
set_option maxRecDepth 20000 in
def f_X3_paper (σ : St) (p1 : Int32) (p2 : Int32) (p3 : Int32) : Int32 × St :=
  (if (f_X3_areTwoSigns σ p1 p2) = 0 then ((-1), σ) else (if p3 < 0 then ((-2), σ) else (if p3 ≤ 9 then (if (σ 0 5) < 8 then ((((u2 (u2 (u2 (u2 (u2 (u2 (u2 σ (33 + (ix (σ 0 5))) 0 p1) (33 + (ix (σ 0 5))) 1 p2) (33 + (ix (σ 0 5))) 2 ((u2 (u2 σ (33 + (ix (σ 0 5))) 0 p1) (33 + (ix (σ 0 5))) 1 p2) 0 6)) (33 + (ix (σ 0 5))) 3 p3) (33 + (ix (σ 0 5))) 4 0) (33 + (ix (σ 0 5))) 5 0) 0 5 (((u2 (u2 (u2 (u2 (u2 (u2 σ (33 + (ix (σ 0 5))) 0 p1) (33 + (ix (σ 0 5))) 1 p2) (33 + (ix (σ 0 5))) 2 ((u2 (u2 σ (33 + (ix (σ 0 5))) 0 p1) (33 + (ix (σ 0 5))) 1 p2) 0 6)) (33 + (ix (σ 0 5))) 3 p3) (33 + (ix (σ 0 5))) 4 0) (33 + (ix (σ 0 5))) 5 0) 0 5) + 1)) 0 5) - 1), (u2 (u2 (u2 (u2 (u2 (u2 (u2 σ (33 + (ix (σ 0 5))) 0 p1) (33 + (ix (σ 0 5))) 1 p2) (33 + (ix (σ 0 5))) 2 ((u2 (u2 σ (33 + (ix (σ 0 5))) 0 p1) (33 + (ix (σ 0 5))) 1 p2) 0 6)) (33 + (ix (σ 0 5))) 3 p3) (33 + (ix (σ 0 5))) 4 0) (33 + (ix (σ 0 5))) 5 0) 0 5 (((u2 (u2 (u2 (u2 (u2 (u2 σ (33 + (ix (σ 0 5))) 0 p1) (33 + (ix (σ 0 5))) 1 p2) (33 + (ix (σ 0 5))) 2 ((u2 (u2 σ (33 + (ix (σ 0 5))) 0 p1) (33 + (ix (σ 0 5))) 1 p2) 0 6)) (33 + (ix (σ 0 5))) 3 p3) (33 + (ix (σ 0 5))) 4 0) (33 + (ix (σ 0 5))) 5 0) 0 5) + 1))) else ((-4), σ)) else ((-2), σ))))
set_option maxRecDepth 20000 in
def f_X3_isPaper (σ : St) (p1 : Int32) : Int32 :=
  (if p1 < 0 then 0 else (if (σ 0 5) ≤ p1 then 0 else 1))
set_option maxRecDepth 20000 in
def f_X3_ofPaper (σ : St) (p1 : Int32) (p2 : Int32) : Int32 :=
  (if (f_X3_isPaper σ p1) = 0 then (-1) else (if p2 = 0 then (σ (33 + (ix p1)) 0) else (if p2 = 1 then (σ (33 + (ix p1)) 1) else (if p2 = 2 then (σ (33 + (ix p1)) 2) else (if p2 = 3 then (σ (33 + (ix p1)) 3) else (if p2 = 4 then (σ (33 + (ix p1)) 4) else (if p2 = 5 then (σ (33 + (ix p1)) 5) else (-2))))))))
set_option maxRecDepth 20000 in
def f_X3_isWashed (σ : St) (p1 : Nat) (p2 : Int32) : Int32 :=
  (if (((σ (33 + p1) 4) >>> (p2 &&& 31)) &&& 1) = 0 then 0 else 1)
set_option maxRecDepth 20000 in
def f_X3_fadedInk (σ : St) (p1 : Nat) (p2 : Int32) (p3 : Int32) : Int32 :=
  (f_X3_fade σ p1 p2 (4 * (σ (25 + p1) (ix p2))) p3)
set_option maxRecDepth 20000 in
def f_X3_smellOf (σ : St) (p1 : Nat) (p2 : Int32) (p3 : Int32) : Int32 :=
  (if (f_X3_isWashed σ p1 p2) = 0 then ((jmax 0 (((f_X3_fadedInk σ (ix (σ (33 + p1) 0)) p2 (p3 - (σ (33 + p1) 2))) + (f_X3_fadedInk σ (ix (σ (33 + p1) 1)) p2 (p3 - (σ (33 + p1) 2)))) - (σ (33 + p1) 3))) + (σ (33 + p1) 5)) else (σ (33 + p1) 5))
set_option maxRecDepth 20000 in
def f_X3_smells (σ : St) (p1 : Int32) (p2 : Int32) (p3 : Int32) : Int32 :=
  (if (f_X3_isPaper σ p1) = 0 then (-1) else (if (f_X3_isSmell p2) = 0 then (-1) else (if p3 < (σ (33 + (ix p1)) 2) then (-2) else (if p3 ≤ 99 then (f_X3_smellOf σ (ix p1) p2 p3) else (-2)))))
set_option maxRecDepth 20000 in
def f_X3_wash (σ : St) (p1 : Int32) (p2 : Int32) : Int32 × St :=
  (if (f_X3_isPaper σ p1) = 0 then ((-1), σ) else (if (f_X3_isSmell p2) = 0 then ((-1), σ) else (if (f_X3_isWashed σ (ix p1) p2) = 0 then (1, (u2 σ (33 + (ix p1)) 4 ((σ (33 + (ix p1)) 4) ||| ((1 : Int32) <<< (p2 &&& 31))))) else (0, σ))))
set_option maxRecDepth 20000 in
def lp_X3_flood_16 (a1 : Int32) : Nat → Int32 → St → St
  | 0, a2, σ => σ
  | n + 1, a2, σ => (if (σ 0 5) ≤ a2 then σ else (lp_X3_flood_16 a1 n (a2 + 1) (u2 σ (33 + (ix a2)) 5 ((σ (33 + (ix a2)) 5) + a1))))
set_option maxRecDepth 20000 in
def f_X3_flood (σ : St) (p1 : Int32) : Int32 × St :=
  (if p1 < 1 then ((-2), σ) else (if p1 ≤ 9 then (((lp_X3_flood_16 p1 200 0 σ) 0 5), (lp_X3_flood_16 p1 200 0 σ)) else ((-2), σ)))
set_option maxRecDepth 20000 in
def lp_X3_smellPaper_2 (a1 : Nat) (a2 : Int32) : Nat → Int32 → St → St
  | 0, a3, σ => σ
  | n + 1, a3, σ => (if 9 ≤ a3 then σ else (lp_X3_smellPaper_2 a1 a2 n (a3 + 1) (u2 σ 5 (ix a3) (f_X3_smellOf σ a1 a3 a2))))
set_option maxRecDepth 20000 in
def f_X3_smellPaper (σ : St) (p1 : Nat) (p2 : Int32) : St :=
  (lp_X3_smellPaper_2 p1 p2 200 0 σ)
set_option maxRecDepth 20000 in
def lp_X3_smeltFrom_5 (σ : St) (a1 : Int32) (a2 : Int32) : Nat → Int32 → Int32 → Int32
  | 0, a3, a4 => a3
  | n + 1, a3, a4 => (if 9 ≤ a4 then a3 else (lp_X3_smeltFrom_5 σ a1 a2 n (a3 + (jabs ((σ 5 (ix a4)) - (4 * ((σ (25 + (ix a1)) (ix a4)) + (σ (25 + (ix a2)) (ix a4))))))) (a4 + 1)))
set_option maxRecDepth 20000 in
def f_X3_smeltFrom (σ : St) (p1 : Int32) (p2 : Int32) : Int32 :=
  (lp_X3_smeltFrom_5 σ p1 p2 200 0 0)
set_option maxRecDepth 20000 in
def f_X3_far (σ : St) (p1 : Int32) (p2 : Int32) (p3 : Int32) : Int32 × St :=
  (if (f_X3_isPaper σ p1) = 0 then ((-1), σ) else (if (f_X3_areTwoSigns σ p2 p3) = 0 then ((-1), σ) else ((f_X3_smeltFrom (f_X3_smellPaper σ (ix p1) (σ 0 6)) p2 p3), (f_X3_smellPaper σ (ix p1) (σ 0 6)))))
set_option maxRecDepth 20000 in
def f_X3_pairNumber (p1 : Int32) (p2 : Int32) : Int32 :=
  ((10 * p1) + p2)
set_option maxRecDepth 20000 in
def lp_X3_fits_63 (σ : St) (a2 : Int32) (a6 : Int32) : Nat → Int32 → Int32 → Int32 → Int32 → (Int32 × Int32 × Int32)
  | 0, a3, a4, a5, a7 => (a3, a4, a5)
  | n + 1, a3, a4, a5, a7 => (if (σ 0 4) ≤ a7 then (a3, a4, a5) else (if a5 ≤ (f_X3_smeltFrom σ a6 a7) then (lp_X3_fits_63 σ a2 a6 n (a3 + (if (σ 0 7) < (f_X3_smeltFrom σ a6 a7) then 0 else 1)) a4 a5 (a7 + 1)) else (lp_X3_fits_63 σ a2 a6 n (a3 + (if (σ 0 7) < (f_X3_smeltFrom σ a6 a7) then 0 else 1)) (f_X3_pairNumber a6 a7) (f_X3_smeltFrom σ a6 a7) (a7 + 1))))
set_option maxRecDepth 20000 in
def lp_X3_fits_48 (σ : St) (a2 : Int32) : Nat → Int32 → Int32 → Int32 → Int32 → (Int32 × Int32 × Int32)
  | 0, a3, a4, a5, a6 => (a3, a4, a5)
  | n + 1, a3, a4, a5, a6 => (if (σ 0 4) ≤ a6 then (a3, a4, a5) else (match (lp_X3_fits_63 σ a2 a6 200 a3 a4 a5 (a6 + 1)) with | (v3_63e, v4_63e, v5_63e) => (lp_X3_fits_48 σ a2 n v3_63e v4_63e v5_63e (a6 + 1))))
set_option maxRecDepth 20000 in
def f_X3_fits (σ : St) (p1 : Int32) (p2 : Int32) : Int32 × St :=
  (if (f_X3_isPaper σ p1) = 0 then ((-1), σ) else (if p2 < 0 then ((-2), σ) else (if p2 ≤ 2 then (match (lp_X3_fits_48 (f_X3_smellPaper σ (ix p1) (σ 0 6)) p2 200 0 0 2147483647 0) with | (v3_48e, v4_48e, v5_48e) => (if p2 = 0 then (v3_48e, (f_X3_smellPaper σ (ix p1) (σ 0 6))) else (if p2 = 1 then (v4_48e, (f_X3_smellPaper σ (ix p1) (σ 0 6))) else (v5_48e, (f_X3_smellPaper σ (ix p1) (σ 0 6)))))) else ((-2), σ))))
set_option maxRecDepth 20000 in
def lp_X3_isProved_73 (σ : St) (a3 : Int32) (a4 : Int32) (a5 : Int32) (a6 : Int32) : Nat → Int32 → ((Int32 × St) ⊕ (Unit))
  | 0, a7 => Sum.inr ()
  | n + 1, a7 => (if (σ 0 4) ≤ a7 then (Sum.inr ()) else (if (if a6 = a4 then (if a7 = a5 then 1 else 0) else 0) = 0 then (if a3 < (f_X3_smeltFrom σ a6 a7) then (lp_X3_isProved_73 σ a3 a4 a5 a6 n (a7 + 1)) else (Sum.inl (0, σ))) else (lp_X3_isProved_73 σ a3 a4 a5 a6 n (a7 + 1))))
set_option maxRecDepth 20000 in
def lp_X3_isProved_58 (σ : St) (a3 : Int32) (a4 : Int32) (a5 : Int32) : Nat → Int32 → ((Int32 × St) ⊕ (Unit))
  | 0, a6 => Sum.inr ()
  | n + 1, a6 => (if (σ 0 4) ≤ a6 then (Sum.inr ()) else (match (lp_X3_isProved_73 σ a3 a4 a5 a6 200 (a6 + 1)) with | Sum.inl r => (Sum.inl r) | Sum.inr _ => (lp_X3_isProved_58 σ a3 a4 a5 n (a6 + 1))))
set_option maxRecDepth 20000 in
def f_X3_isProved (σ : St) (p1 : Nat) (p2 : Int32) : Int32 × St :=
  (if (f_X3_smeltFrom (f_X3_smellPaper σ p1 p2) ((f_X3_smellPaper σ p1 p2) (33 + p1) 0) ((f_X3_smellPaper σ p1 p2) (33 + p1) 1)) ≤ ((f_X3_smellPaper σ p1 p2) 0 7) then (match (lp_X3_isProved_58 (f_X3_smellPaper σ p1 p2) (f_X3_smeltFrom (f_X3_smellPaper σ p1 p2) ((f_X3_smellPaper σ p1 p2) (33 + p1) 0) ((f_X3_smellPaper σ p1 p2) (33 + p1) 1)) (jmin ((f_X3_smellPaper σ p1 p2) (33 + p1) 0) ((f_X3_smellPaper σ p1 p2) (33 + p1) 1)) (jmax ((f_X3_smellPaper σ p1 p2) (33 + p1) 0) ((f_X3_smellPaper σ p1 p2) (33 + p1) 1)) 200 0) with | Sum.inl r => r | Sum.inr _ => (1, (f_X3_smellPaper σ p1 p2))) else (0, (f_X3_smellPaper σ p1 p2)))
set_option maxRecDepth 20000 in
def lp_X3_proved_4  : Nat → Int32 → Int32 → St → (Int32 × St)
  | 0, a1, a2, σ => (a1, σ)
  | n + 1, a1, a2, σ => (if (σ 0 5) ≤ a2 then (a1, σ) else (if ((f_X3_isProved σ (ix a2) (σ 0 6)).1) = 0 then (lp_X3_proved_4 n a1 (a2 + 1) ((f_X3_isProved σ (ix a2) (σ 0 6)).2)) else (lp_X3_proved_4 n (a1 ||| ((1 : Int32) <<< (a2 &&& 31))) (a2 + 1) ((f_X3_isProved σ (ix a2) (σ 0 6)).2))))
set_option maxRecDepth 20000 in
def f_X3_proved (σ : St) : Int32 × St :=
  (match (lp_X3_proved_4 200 0 0 σ) with | (v1_4e, S_4e) => (v1_4e, S_4e))
set_option maxRecDepth 20000 in
def lp_X3_again_15 (a1 : Int32) : Nat → Int32 → St → ((Int32 × St) ⊕ (St))
  | 0, a2, σ => Sum.inr σ
  | n + 1, a2, σ => (if 99 < a2 then (Sum.inr σ) else (if ((f_X3_isProved σ (ix a1) a2).1) = 0 then (Sum.inl (a2, (f_X3_isProved σ (ix a1) a2).2)) else (lp_X3_again_15 a1 n (a2 + 1) ((f_X3_isProved σ (ix a1) a2).2))))
set_option maxRecDepth 20000 in
def f_X3_again (σ : St) (p1 : Int32) : Int32 × St :=
  (if (f_X3_isPaper σ p1) = 0 then ((-1), σ) else (match (lp_X3_again_15 p1 200 (σ 0 6) σ) with | Sum.inl r => r | Sum.inr S_15e => ((-9), S_15e)))
set_option maxRecDepth 20000 in
def lp_X3_apartOf_4 (σ : St) (a0 : Nat) (a1 : Nat) : Nat → Int32 → Int32 → Int32
  | 0, a2, a3 => a2
  | n + 1, a2, a3 => (if 9 ≤ a3 then a2 else (lp_X3_apartOf_4 σ a0 a1 n (a2 + (jabs ((σ a0 (ix a3)) - (σ a1 (ix a3))))) (a3 + 1)))
set_option maxRecDepth 20000 in
def f_X3_apartOf (σ : St) (p1 : Nat) (p2 : Nat) : Int32 :=
  (lp_X3_apartOf_4 σ p1 p2 200 0 0)
set_option maxRecDepth 20000 in
def f_X3_apart (σ : St) (p1 : Int32) (p2 : Int32) : Int32 :=
  (if (f_X3_isSign σ p1) = 0 then (-1) else (if (f_X3_isSign σ p2) = 0 then (-1) else (f_X3_apartOf σ (25 + (ix p1)) (25 + (ix p2)))))
set_option maxRecDepth 20000 in
def f_X3_areAlike (σ : St) (p1 : Nat) (p2 : Nat) : Int32 :=
  (if (σ 0 7) < (8 * (f_X3_apartOf σ p1 p2)) then 0 else 1)
set_option maxRecDepth 20000 in
def lp_X3_twins_24 (σ : St) (a1 : Int32) (a3 : Int32) : Nat → Int32 → Int32 → ((Int32) ⊕ (Int32))
  | 0, a2, a4 => Sum.inr a2
  | n + 1, a2, a4 => (if (σ 0 4) ≤ a4 then (Sum.inr a2) else (if (f_X3_areAlike σ (25 + (ix a3)) (25 + (ix a4))) = 0 then (lp_X3_twins_24 σ a1 a3 n a2 (a4 + 1)) else (if a2 = a1 then (Sum.inl (f_X3_pairNumber a3 a4)) else (lp_X3_twins_24 σ a1 a3 n (a2 + 1) (a4 + 1)))))
set_option maxRecDepth 20000 in
def lp_X3_twins_11 (σ : St) (a1 : Int32) : Nat → Int32 → Int32 → ((Int32) ⊕ (Int32))
  | 0, a2, a3 => Sum.inr a2
  | n + 1, a2, a3 => (if (σ 0 4) ≤ a3 then (Sum.inr a2) else (match (lp_X3_twins_24 σ a1 a3 200 a2 (a3 + 1)) with | Sum.inl r => (Sum.inl r) | Sum.inr v2_24e => (lp_X3_twins_11 σ a1 n v2_24e (a3 + 1))))
set_option maxRecDepth 20000 in
def f_X3_twins (σ : St) (p1 : Int32) : Int32 :=
  (if (-1) ≤ p1 then (match (lp_X3_twins_11 σ p1 200 0 0) with | Sum.inl r => r | Sum.inr v2_11e => (if p1 = (-1) then v2_11e else (-9))) else (-1))
set_option maxRecDepth 20000 in
def lp_X3_areStoppers_2 (σ : St) (a0 : Nat) (a1 : Int32) (a2 : Int32) : Nat → Int32 → ((Int32) ⊕ (Unit))
  | 0, a3 => Sum.inr ()
  | n + 1, a3 => (if a2 ≤ a3 then (Sum.inr ()) else (if (f_X3_isSmell (σ (13 + a0) (ix (a1 + (2 * a3))))) = 0 then (Sum.inl 0) else (if (σ (13 + a0) (ix ((a1 + (2 * a3)) + 1))) < 1 then (Sum.inl 0) else (if (σ (13 + a0) (ix ((a1 + (2 * a3)) + 1))) ≤ 9 then (lp_X3_areStoppers_2 σ a0 a1 a2 n (a3 + 1)) else (Sum.inl 0)))))
set_option maxRecDepth 20000 in
def f_X3_areStoppers (σ : St) (p1 : Nat) (p2 : Int32) (p3 : Int32) : Int32 :=
  (match (lp_X3_areStoppers_2 σ p1 p2 p3 200 0) with | Sum.inl r => r | Sum.inr _ => 1)
set_option maxRecDepth 20000 in
def lp_X3_isTakenFor_3 (a1 : Int32) (a2 : Int32) (a3 : Nat) (a4 : Int32) (a5 : Int32) : Nat → Int32 → St → St
  | 0, a6, σ => σ
  | n + 1, a6, σ => (if 9 ≤ a6 then σ else (lp_X3_isTakenFor_3 a1 a2 a3 a4 a5 n (a6 + 1) (u2 σ 6 (ix a6) (σ (25 + (ix a1)) (ix a6)))))
set_option maxRecDepth 20000 in
def lp_X3_isTakenFor_38 (a2 : Int32) (a3 : Nat) (a4 : Int32) (a5 : Int32) : Nat → Int32 → St → St
  | 0, a6, σ => σ
  | n + 1, a6, σ => (if 10 ≤ a6 then σ else (if ((a5 >>> (a6 &&& 31)) &&& 1) = 0 then (lp_X3_isTakenFor_38 a2 a3 a4 a5 n (a6 + 1) σ) else (lp_X3_isTakenFor_38 a2 a3 a4 a5 n (a6 + 1) (u2 σ 6 (ix (σ (13 + a3) (ix (a4 + (2 * a6))))) ((σ 6 (ix (σ (13 + a3) (ix (a4 + (2 * a6)))))) + (σ (13 + a3) (ix ((a4 + (2 * a6)) + 1))))))))
set_option maxRecDepth 20000 in
def f_X3_isTakenFor (σ : St) (p1 : Int32) (p2 : Int32) (p3 : Nat) (p4 : Int32) (p5 : Int32) : Int32 × St :=
  ((f_X3_areAlike (lp_X3_isTakenFor_38 p2 p3 p4 p5 200 0 (lp_X3_isTakenFor_3 p1 p2 p3 p4 p5 200 0 σ)) 6 (25 + (ix p2))), (lp_X3_isTakenFor_38 p2 p3 p4 p5 200 0 (lp_X3_isTakenFor_3 p1 p2 p3 p4 p5 200 0 σ)))
set_option maxRecDepth 20000 in
def lp_X3_forged_80 (a1 : Int32) (a2 : Int32) (a3 : Int32) (a5 : Int32) (a6 : Int32) : Nat → Int32 → Int32 → Int32 → St → (Int32 × St)
  | 0, a8, a9, a10, σ => (a8, σ)
  | n + 1, a8, a9, a10, σ => (if ((1 : Int32) <<< (a6 &&& 31)) ≤ a10 then (a8, σ) else (if a9 ≤ (f_J6_bitCount_0f7a4 a10) then (lp_X3_forged_80 a1 a2 a3 a5 a6 n a8 a9 (a10 + 1) σ) else (if ((f_X3_isTakenFor σ a1 a2 (ix a3) a5 a10).1) = 0 then (lp_X3_forged_80 a1 a2 a3 a5 a6 n a8 a9 (a10 + 1) ((f_X3_isTakenFor σ a1 a2 (ix a3) a5 a10).2)) else (lp_X3_forged_80 a1 a2 a3 a5 a6 n a10 (f_J6_bitCount_0f7a4 a10) (a10 + 1) ((f_X3_isTakenFor σ a1 a2 (ix a3) a5 a10).2)))))
set_option maxRecDepth 20000 in
def f_X3_forged (σ : St) (p1 : Int32) (p2 : Int32) (p3 : Int32) (p4 : Int32) (p5 : Int32) (p6 : Int32) : Int32 × St :=
  (if (f_X3_areTwoSigns σ p1 p2) = 0 then ((f_X3_refused σ (-1)).1, (f_X3_refused σ (-1)).2) else (if ((f_X3_spanRefusal σ p3 p4 p5 (2 * p6.toInt64)).1) = 0 then (if 10 < p6 then ((-2), (f_X3_spanRefusal σ p3 p4 p5 (2 * p6.toInt64)).2) else (if (f_X3_areStoppers ((f_X3_spanRefusal σ p3 p4 p5 (2 * p6.toInt64)).2) (ix p3) p5 p6) = 0 then ((-2), (f_X3_spanRefusal σ p3 p4 p5 (2 * p6.toInt64)).2) else (match (lp_X3_forged_80 p1 p2 p3 p5 p6 1100 (-9) (p6 + 1) 0 ((f_X3_spanRefusal σ p3 p4 p5 (2 * p6.toInt64)).2)) with | (v8_80e, S_80e) => (v8_80e, S_80e)))) else ((f_X3_spanRefusal σ p3 p4 p5 (2 * p6.toInt64)).1, (f_X3_spanRefusal σ p3 p4 p5 (2 * p6.toInt64)).2)))
set_option maxRecDepth 20000 in
def f_X3_strengthNear (σ : St) (p1 : Nat) (p2 : Nat) (p3 : Int32) (p4 : Int32) : Int32 :=
  ((σ (25 + p1) (ix p4)) + ((((σ (25 + p2) (ix p4)) - (σ (25 + p1) (ix p4))) * p3) / 10))
set_option maxRecDepth 20000 in
def f_X3_near (σ : St) (p1 : Int32) (p2 : Int32) (p3 : Int32) (p4 : Int32) : Int32 :=
  (if (f_X3_isSign σ p1) = 0 then (-1) else (if (f_X3_isSign σ p2) = 0 then (-1) else (if (f_X3_isSmell p4) = 0 then (-1) else (if p3 < 0 then (-2) else (if p3 ≤ 10 then (f_X3_strengthNear σ (ix p1) (ix p2) p3 p4) else (-2))))))
set_option maxRecDepth 20000 in
def lp_X3_steals_22 (a1 : Int32) (a2 : Int32) (a3 : Int32) : Nat → Int32 → St → St
  | 0, a4, σ => σ
  | n + 1, a4, σ => (if 9 ≤ a4 then σ else (lp_X3_steals_22 a1 a2 a3 n (a4 + 1) (u2 σ 6 (ix a4) (f_X3_strengthNear σ (ix a1) (ix a2) a3 a4))))
set_option maxRecDepth 20000 in
def lp_X3_steals_13 (a1 : Int32) (a2 : Int32) : Nat → Int32 → St → ((Int32 × St) ⊕ (St))
  | 0, a3, σ => Sum.inr σ
  | n + 1, a3, σ => (if 10 < a3 then (Sum.inr σ) else (if (f_X3_areAlike (lp_X3_steals_22 a1 a2 a3 200 0 σ) 6 (25 + (ix a2))) = 0 then (lp_X3_steals_13 a1 a2 n (a3 + 1) (lp_X3_steals_22 a1 a2 a3 200 0 σ)) else (Sum.inl (a3, (lp_X3_steals_22 a1 a2 a3 200 0 σ)))))
set_option maxRecDepth 20000 in
def f_X3_steals (σ : St) (p1 : Int32) (p2 : Int32) : Int32 × St :=
  (if (f_X3_areTwoSigns σ p1 p2) = 0 then ((-1), σ) else (match (lp_X3_steals_13 p1 p2 200 0 σ) with | Sum.inl r => r | Sum.inr S_13e => ((-9), S_13e)))
set_option maxRecDepth 20000 in
def lp_X3_leastApart_7 (σ : St) (a1 : Int32) (a2 : Int32) (a3 : Int32) (a4 : Int32) : Nat → Int32 → Int32 → Int32
  | 0, a5, a6 => a5
  | n + 1, a5, a6 => (if (σ 0 4) ≤ a6 then a5 else (lp_X3_leastApart_7 σ a1 a2 a3 a4 n (jmin a5 (((((σ (17 + (ix a6)) 1) - (σ (25 + (ix a6)) (ix a1))) - (σ (25 + (ix a6)) (ix a2))) + (jabs (a3 - (σ (25 + (ix a6)) (ix a1))))) + (jabs (a4 - (σ (25 + (ix a6)) (ix a2)))))) (a6 + 1)))
set_option maxRecDepth 20000 in
def f_X3_leastApart (σ : St) (p1 : Int32) (p2 : Int32) (p3 : Int32) (p4 : Int32) : Int32 :=
  (lp_X3_leastApart_7 σ p1 p2 p3 p4 200 2147483647 0)
set_option maxRecDepth 20000 in
def lp_X3_tryStrengths_11 (a1 : Int32) (a2 : Int32) (a3 : Int32) : Nat → Int32 → St → St
  | 0, a4, σ => σ
  | n + 1, a4, σ => (if 9 < a4 then σ else (if (f_X3_leastApart σ a1 a2 a3 a4) ≤ (σ 8 (ix 0)) then (lp_X3_tryStrengths_11 a1 a2 a3 n (a4 + 1) σ) else (lp_X3_tryStrengths_11 a1 a2 a3 n (a4 + 1) (u2 (u2 (u2 (u2 (u2 σ 8 (ix 0) (f_X3_leastApart σ a1 a2 a3 a4)) 8 (ix 1) a1) 8 (ix 2) a2) 8 (ix 3) a3) 8 (ix 4) a4))))
set_option maxRecDepth 20000 in
def lp_X3_tryStrengths_2 (a1 : Int32) (a2 : Int32) : Nat → Int32 → St → St
  | 0, a3, σ => σ
  | n + 1, a3, σ => (if 9 < a3 then σ else (lp_X3_tryStrengths_2 a1 a2 n (a3 + 1) (lp_X3_tryStrengths_11 a1 a2 a3 200 0 σ)))
set_option maxRecDepth 20000 in
def f_X3_tryStrengths (σ : St) (p1 : Int32) (p2 : Int32) : St :=
  (lp_X3_tryStrengths_2 p1 p2 200 0 σ)
set_option maxRecDepth 20000 in
def lp_X3_seekNewSmell_12 (a1 : Int32) : Nat → Int32 → St → St
  | 0, a2, σ => σ
  | n + 1, a2, σ => (if 9 ≤ a2 then σ else (lp_X3_seekNewSmell_12 a1 n (a2 + 1) (f_X3_tryStrengths σ a1 a2)))
set_option maxRecDepth 20000 in
def lp_X3_seekNewSmell_2  : Nat → Int32 → St → St
  | 0, a1, σ => σ
  | n + 1, a1, σ => (if 9 ≤ a1 then σ else (lp_X3_seekNewSmell_2 n (a1 + 1) (lp_X3_seekNewSmell_12 a1 200 (a1 + 1) σ)))
set_option maxRecDepth 20000 in
def f_X3_seekNewSmell (σ : St) : St :=
  (lp_X3_seekNewSmell_2 200 0 σ)
set_option maxRecDepth 20000 in
def f_X3_fresh (σ : St) (p1 : Int32) : Int32 × St :=
  (if p1 < 0 then ((-2), σ) else (if p1 < 5 then (if (σ 0 4) = 0 then ((-3), σ) else (if (σ 8 (ix 0)) = (-1) then (((f_X3_seekNewSmell σ) 8 (ix p1)), (f_X3_seekNewSmell σ)) else ((σ 8 (ix p1)), σ))) else ((-2), σ)))
set_option maxRecDepth 20000 in
def lp_X3_isDoor_2 (σ : St) (a0 : Nat) (a1 : Int32) (a2 : Int32) : Nat → Int32 → ((Int32) ⊕ (Unit))
  | 0, a3 => Sum.inr ()
  | n + 1, a3 => (if 9 ≤ a3 then (Sum.inr ()) else (if (σ (13 + a0) (ix (a1 + a3))) < 0 then (Sum.inl 0) else (if (σ (13 + a0) (ix (a1 + a3))) ≤ 99 then (lp_X3_isDoor_2 σ a0 a1 a2 n (a3 + 1)) else (Sum.inl 0))))
set_option maxRecDepth 20000 in
def f_X3_isDoor (σ : St) (p1 : Nat) (p2 : Int32) (p3 : Int32) : Int32 :=
  (match (lp_X3_isDoor_2 σ p1 p2 p3 200 0) with | Sum.inl r => r | Sum.inr _ => (if p3 < 0 then 0 else (if 3 < p3 then 0 else 1)))
set_option maxRecDepth 20000 in
def lp_X3_leftFrom_6 (σ : St) (a1 : Nat) (a2 : Int32) (a3 : Nat) (a4 : Int32) : Nat → Int32 → Int32 → Int32
  | 0, a5, a6 => a5
  | n + 1, a5, a6 => (if 9 ≤ a6 then a5 else (lp_X3_leftFrom_6 σ a1 a2 a3 a4 n (a5 + (jabs ((f_X3_fade σ a1 a6 (8 * (σ (25 + a1) (ix a6))) a2) - (σ (13 + a3) (ix (a4 + a6)))))) (a6 + 1)))
set_option maxRecDepth 20000 in
def f_X3_leftFrom (σ : St) (p1 : Nat) (p2 : Int32) (p3 : Nat) (p4 : Int32) : Int32 :=
  (lp_X3_leftFrom_6 σ p1 p2 p3 p4 200 0 0)
set_option maxRecDepth 20000 in
def lp_X3_countHours_26 (a1 : Int32) (a2 : Nat) (a3 : Int32) (a4 : Int32) (a5 : Int32) : Nat → Int32 → St → St
  | 0, a6, σ => σ
  | n + 1, a6, σ => (if 10 ≤ a6 then σ else (if (σ 0 7) < (f_X3_leftFrom σ (ix a5) (a6 + (a6 * a1)) a2 a3) then (lp_X3_countHours_26 a1 a2 a3 a4 a5 n (a6 + 1) σ) else (lp_X3_countHours_26 a1 a2 a3 a4 a5 n (a6 + 1) (u2 σ 7 (ix a5) ((σ 7 (ix a5)) + 1)))))
set_option maxRecDepth 20000 in
def lp_X3_countHours_6 (a1 : Int32) (a2 : Nat) (a3 : Int32) : Nat → Int32 → Int32 → St → (Int32 × St)
  | 0, a4, a5, σ => (a4, σ)
  | n + 1, a4, a5, σ => (if (σ 0 4) ≤ a5 then (a4, σ) else (lp_X3_countHours_6 a1 a2 a3 n (a4 + ((lp_X3_countHours_26 a1 a2 a3 a4 a5 200 0 (u2 σ 7 (ix a5) 0)) 7 (ix a5))) (a5 + 1) (lp_X3_countHours_26 a1 a2 a3 a4 a5 200 0 (u2 σ 7 (ix a5) 0))))
set_option maxRecDepth 20000 in
def f_X3_countHours (σ : St) (p1 : Int32) (p2 : Nat) (p3 : Int32) : Int32 × St :=
  (match (lp_X3_countHours_6 p1 p2 p3 200 0 0 σ) with | (v4_6e, S_6e) => (v4_6e, S_6e))
set_option maxRecDepth 20000 in
def lp_X3_ofShare_13 (a0 : Int32) (a1 : Int32) (a3 : Int32) : Nat → Int32 → ((Int32) ⊕ (Unit))
  | 0, a4 => Sum.inr ()
  | n + 1, a4 => (if a4 ≤ 1 then (Sum.inr ()) else (if (a0 - (a0 / a4) * a4) = 0 then (if (a1 - (a1 / a4) * a4) = 0 then (Sum.inl (a3 / a4)) else (lp_X3_ofShare_13 a0 a1 a3 n (a4 + (-1)))) else (lp_X3_ofShare_13 a0 a1 a3 n (a4 + (-1)))))
set_option maxRecDepth 20000 in
def f_X3_ofShare (p1 : Int32) (p2 : Int32) (p3 : Int32) : Int32 :=
  (match (lp_X3_ofShare_13 p1 p2 (if p3 = 0 then p1 else p2) 200 p2) with | Sum.inl r => r | Sum.inr _ => (if p3 = 0 then p1 else p2))
set_option maxRecDepth 20000 in
def f_X3_odds (σ : St) (p1 : Int32) (p2 : Int32) (p3 : Int32) (p4 : Int32) (p5 : Int32) (p6 : Int32) : Int64 × St :=
  (if (f_X3_isSign (u2 σ 0 9 0) p1) = 0 then ((-9223372036854775808), (u2 σ 0 9 0)) else (if ((f_X3_spanRefusal (u2 σ 0 9 0) p3 p4 p5 9).1) = 0 then (if (f_X3_isDoor ((f_X3_spanRefusal (u2 σ 0 9 0) p3 p4 p5 9).2) (ix p3) p5 p2) = 0 then ((-9223372036854775808), (f_X3_spanRefusal (u2 σ 0 9 0) p3 p4 p5 9).2) else (if p6 < 0 then ((-9223372036854775808), (f_X3_spanRefusal (u2 σ 0 9 0) p3 p4 p5 9).2) else (if p6 ≤ 1 then (if ((f_X3_countHours ((f_X3_spanRefusal (u2 σ 0 9 0) p3 p4 p5 9).2) p2 (ix p3) p5).1) = 0 then ((-9223372036854775808), (f_X3_countHours ((f_X3_spanRefusal (u2 σ 0 9 0) p3 p4 p5 9).2) p2 (ix p3) p5).2) else ((f_X3_ofShare (((f_X3_countHours ((f_X3_spanRefusal (u2 σ 0 9 0) p3 p4 p5 9).2) p2 (ix p3) p5).2) 7 (ix p1)) ((f_X3_countHours ((f_X3_spanRefusal (u2 σ 0 9 0) p3 p4 p5 9).2) p2 (ix p3) p5).1) p6).toInt64, (f_X3_countHours ((f_X3_spanRefusal (u2 σ 0 9 0) p3 p4 p5 9).2) p2 (ix p3) p5).2)) else ((-9223372036854775808), (f_X3_spanRefusal (u2 σ 0 9 0) p3 p4 p5 9).2)))) else ((-9223372036854775808), (f_X3_spanRefusal (u2 σ 0 9 0) p3 p4 p5 9).2)))
set_option maxRecDepth 20000 in
def lp_X3_who_63 (σ : St) : Nat → Int32 → Int32 → Int32 → Int32
  | 0, a6, a7, a8 => a6
  | n + 1, a6, a7, a8 => (if (σ 0 4) ≤ a8 then a6 else (if (σ 7 (ix a8)) ≤ a7 then (lp_X3_who_63 σ n a6 a7 (a8 + 1)) else (lp_X3_who_63 σ n a8 (σ 7 (ix a8)) (a8 + 1))))
set_option maxRecDepth 20000 in
def f_X3_who (σ : St) (p1 : Int32) (p2 : Int32) (p3 : Int32) (p4 : Int32) : Int32 × St :=
  (if ((f_X3_spanRefusal σ p2 p3 p4 9).1) = 0 then (if (f_X3_isDoor ((f_X3_spanRefusal σ p2 p3 p4 9).2) (ix p2) p4 p1) = 0 then ((-2), (f_X3_spanRefusal σ p2 p3 p4 9).2) else ((lp_X3_who_63 ((f_X3_countHours ((f_X3_spanRefusal σ p2 p3 p4 9).2) p1 (ix p2) p4).2) 200 (-9) 0 0), (f_X3_countHours ((f_X3_spanRefusal σ p2 p3 p4 9).2) p1 (ix p2) p4).2)) else ((f_X3_spanRefusal σ p2 p3 p4 9).1, (f_X3_spanRefusal σ p2 p3 p4 9).2))
set_option maxRecDepth 20000 in
def f_X3_sheet (σ : St) (p1 : Int32) (p2 : Int32) (p3 : Int32) : Int32 × St :=
  (if (f_X3_isSheet p1) = 0 then ((f_X3_refused σ (-1)).1, (f_X3_refused σ (-1)).2) else (if (f_X3_isLane p2) = 0 then ((f_X3_refused σ (-2)).1, (f_X3_refused σ (-2)).2) else (if p3 ≤ 90 then (if 0 ≤ p3 then (1, (f_X1_renew (u2 σ 0 9 0) (ix p1) p2 p3)) else ((f_X3_faulted σ 4).1, (f_X3_faulted σ 4).2)) else ((f_X3_refused σ (-2)).1, (f_X3_refused σ (-2)).2))))
set_option maxRecDepth 20000 in
def f_X3_lose (σ : St) (p1 : Int32) : Int32 × St :=
  (if (f_X3_isSheet p1) = 0 then ((-1), σ) else ((if (σ (9 + (ix p1)) 0) = 0 then 0 else 1), (u2 σ (9 + (ix p1)) 0 0)))
set_option maxRecDepth 20000 in
def f_X3_put (σ : St) (p1 : Int32) (p2 : Int32) (p3 : Int32) : Int32 × St :=
  (if (f_X3_isSheet p1) = 0 then ((f_X3_refused σ (-1)).1, (f_X3_refused σ (-1)).2) else (if (σ (9 + (ix p1)) 0) = 0 then ((f_X3_faulted σ 1).1, (f_X3_faulted σ 1).2) else (if (f_X1_lacks σ (ix p1) p2 1) = 0 then (1, (u2 (u2 σ 0 9 0) (13 + (ix p1)) (ix p2) (f_X1_cut (u2 σ 0 9 0) (ix p1) p3))) else ((f_X3_faulted σ 3).1, (f_X3_faulted σ 3).2))))
set_option maxRecDepth 20000 in
def f_X3_cell (σ : St) (p1 : Int32) (p2 : Int32) (p3 : Int32) : Int64 × St :=
  (if ((f_X3_spanRefusal σ p1 p3 p2 1).1) = 0 then ((((f_X3_spanRefusal σ p1 p3 p2 1).2) (13 + (ix p1)) (ix p2)).toInt64, (f_X3_spanRefusal σ p1 p3 p2 1).2) else ((-9223372036854775808), (f_X3_spanRefusal σ p1 p3 p2 1).2))
set_option maxRecDepth 20000 in
def f_X3_copy (σ : St) (p1 : Int32) (p2 : Int32) (p3 : Int32) (p4 : Int32) (p5 : Int32) : Int32 × St :=
  (if (f_X3_isSheet p1) = 0 then ((f_X3_refused σ (-1)).1, (f_X3_refused σ (-1)).2) else (if (f_X3_isSheet p3) = 0 then ((f_X3_refused σ (-1)).1, (f_X3_refused σ (-1)).2) else (if (σ (9 + (ix p1)) 0) = 0 then ((f_X3_faulted σ 1).1, (f_X3_faulted σ 1).2) else (if (σ (9 + (ix p3)) 0) = 0 then ((f_X3_faulted σ 1).1, (f_X3_faulted σ 1).2) else (if (σ (9 + (ix p1)) 1) = (σ (9 + (ix p3)) 1) then (if p5 < 0 then ((f_X3_faulted σ 3).1, (f_X3_faulted σ 3).2) else (if (f_X1_lacks σ (ix p1) p2 p5.toInt64) = 0 then (if (f_X1_lacks σ (ix p3) p4 p5.toInt64) = 0 then (p5, (u1 (u2 σ 0 9 0) (13 + (ix p3)) (va_cpy ((u2 σ 0 9 0) (13 + (ix p1))) ((u2 σ 0 9 0) (13 + (ix p3))) (ix p2) (ix p4) (ix p5)))) else ((f_X3_faulted σ 3).1, (f_X3_faulted σ 3).2)) else ((f_X3_faulted σ 3).1, (f_X3_faulted σ 3).2))) else ((f_X3_faulted σ 2).1, (f_X3_faulted σ 2).2))))))
set_option maxRecDepth 20000 in
def f_X3_leaveTrace (σ : St) (p1 : Int32) : St :=
  (u2 σ 0 8 ((31 * (σ 0 8)) + p1))
set_option maxRecDepth 20000 in
def f_X3_personTells (σ : St) (p1 : Nat) : Int32 × St :=
  (((f_X3_leaveTrace σ 1) (25 + p1) (ix 0)), (f_X3_leaveTrace σ 1))
set_option maxRecDepth 20000 in
def f_X3_fieldTells (σ : St) (p1 : Nat) : Int32 × St :=
  ((((f_X3_personTells (f_X3_leaveTrace σ 2) p1).1) + 100), (f_X3_personTells (f_X3_leaveTrace σ 2) p1).2)
set_option maxRecDepth 20000 in
def f_X3_sealTells (σ : St) (p1 : Nat) : Int32 × St :=
  ((((f_X3_fieldTells (f_X3_leaveTrace σ 3) p1).1) + ((f_X3_personTells ((f_X3_fieldTells (f_X3_leaveTrace σ 3) p1).2) p1).1)), (f_X3_personTells ((f_X3_fieldTells (f_X3_leaveTrace σ 3) p1).2) p1).2)
set_option maxRecDepth 20000 in
def f_X3_tell (σ : St) (p1 : Int32) : Int32 × St :=
  (if (f_X3_isSign σ p1) = 0 then ((-1), σ) else (if (σ (17 + (ix p1)) 0) = 1 then ((f_X3_fieldTells σ (ix p1)).1, (f_X3_fieldTells σ (ix p1)).2) else (if (σ (17 + (ix p1)) 0) = 2 then ((f_X3_sealTells σ (ix p1)).1, (f_X3_sealTells σ (ix p1)).2) else ((f_X3_personTells σ (ix p1)).1, (f_X3_personTells σ (ix p1)).2))))
set_option maxRecDepth 20000 in
def f_X3_stop (σ : St) (p1 : Int32) : Int32 × St :=
  (if (f_X3_isSign σ p1) = 0 then ((-1), σ) else (if (σ (17 + (ix p1)) 0) = 2 then (90, (f_X3_leaveTrace σ 5)) else (p1, (f_X3_leaveTrace σ 4))))
set_option maxRecDepth 20000 in
def f_X3_as (σ : St) (p1 : Int32) (p2 : Int32) : Int32 × St :=
  (if (f_X3_isSign σ p1) = 0 then ((f_X3_refused σ (-1)).1, (f_X3_refused σ (-1)).2) else (if p2 < 0 then ((f_X3_refused σ (-2)).1, (f_X3_refused σ (-2)).2) else (if p2 < 3 then (if p2 ≤ (σ (17 + (ix p1)) 0) then (1, (u2 σ 0 9 0)) else ((f_X3_faulted σ 2).1, (f_X3_faulted σ 2).2)) else ((f_X3_refused σ (-2)).1, (f_X3_refused σ (-2)).2))))
set_option maxRecDepth 20000 in
def f_X3_trace (σ : St) : Int32 :=
  (σ 0 8)
set_option maxRecDepth 20000 in
def f_X3_fault (σ : St) : Int32 :=
  (σ 0 9)
set_option maxRecDepth 20000 in
def f_X3_many (σ : St) (p1 : Int32) : Int32 :=
  (if p1 = 0 then (σ 0 4) else (if p1 = 1 then (σ 0 5) else (if p1 = 2 then (σ 0 6) else (if p1 = 3 then (σ 0 7) else (-2)))))
set_option maxRecDepth 20000 in
def f_X4_in (p1 : Int64) (p2 : Int64) (p3 : Int64) : Int32 :=
  (if (lg_cmp p1 p2) < 0 then 0 else (if 0 < (lg_cmp p1 p3) then 0 else 1))
set_option maxRecDepth 20000 in
def f_X4_lost  : Int64 :=
  (-9223372036854775808)
set_option maxRecDepth 20000 in
def f_X4_greater (p1 : Int32) (p2 : Int32) : Int32 :=
  (if p1 ≤ p2 then p2 else p1)
set_option maxRecDepth 20000 in
def f_X4_off (p1 : Int32) (p2 : Int32) : Int32 :=
  (if p2 ≤ p1 then (p1 - p2) else (p2 - p1))
set_option maxRecDepth 20000 in
def lp_X4_told_6 (a0 : Int64) (a2 : Int64) (a4 : Int32) : Nat → Int64 → Int64 → Int64
  | 0, a5, a7 => a5
  | n + 1, a5, a7 => (if (lg_cmp a7 0) = 0 then a5 else (lp_X4_told_6 a0 a2 a4 n a7 (a5 - (a5 / a7) * a7)))
set_option maxRecDepth 20000 in
def f_X4_told (p1 : Int64) (p2 : Int64) (p3 : Int32) : Int64 :=
  (if p3 = 0 then (p1 / (lp_X4_told_6 p1 p2 p3 200 p1 p2)) else (p2 / (lp_X4_told_6 p1 p2 p3 200 p1 p2)))
set_option maxRecDepth 20000 in
def f_X4_refused (σ : St) (p1 : Int32) : Int32 × St :=
  (p1, (u2 σ 0 0 0))
set_option maxRecDepth 20000 in
def f_X4_failed (σ : St) (p1 : Int32) : Int32 × St :=
  (((-10) - p1), (u2 σ 0 0 p1))
set_option maxRecDepth 20000 in
def f_X4_failedLong (σ : St) (p1 : Int32) : Int64 × St :=
  ((f_X4_lost), (u2 σ 0 0 p1))
set_option maxRecDepth 20000 in
def f_X4_noSheet (p1 : Int32) : Int32 :=
  (if (f_X4_in p1.toInt64 0 3) = 0 then 1 else 0)
set_option maxRecDepth 20000 in
def f_X4_isBeyond (p1 : Int32) (p2 : Int64) (p3 : Int32) : Int32 :=
  (if p1 < 0 then 1 else (if (lg_cmp p2 0) < 0 then 1 else (if (lg_cmp (p1.toInt64 + p2) p3.toInt64) ≤ 0 then 0 else 1)))
set_option maxRecDepth 20000 in
def f_X4_barred (σ : St) (p1 : Int32) (p2 : Int32) (p3 : Int32) (p4 : Int64) : Int32 × St :=
  (if (f_X4_noSheet p1) = 0 then (if (f_X4_in p2.toInt64 0 2) = 0 then ((f_X4_refused σ (-2)).1, (f_X4_refused σ (-2)).2) else (if (σ 14 (ix p1)) < 0 then (if 0 ≤ (σ 14 (ix p1)) then (if 0 ≤ (lg_cmp p4 0) then (if (f_X4_isBeyond p3 p4 (σ 14 (ix p1))) = 0 then (0, σ) else ((f_X4_failed σ 3).1, (f_X4_failed σ 3).2)) else ((f_X4_failed σ 4).1, (f_X4_failed σ 4).2)) else ((f_X4_failed σ 1).1, (f_X4_failed σ 1).2)) else (if (σ 15 (ix p1)) = p2 then (if 0 ≤ (σ 14 (ix p1)) then (if 0 ≤ (lg_cmp p4 0) then (if (f_X4_isBeyond p3 p4 (σ 14 (ix p1))) = 0 then (0, σ) else ((f_X4_failed σ 3).1, (f_X4_failed σ 3).2)) else ((f_X4_failed σ 4).1, (f_X4_failed σ 4).2)) else ((f_X4_failed σ 1).1, (f_X4_failed σ 1).2)) else ((f_X4_failed σ 2).1, (f_X4_failed σ 2).2)))) else ((f_X4_refused σ (-1)).1, (f_X4_refused σ (-1)).2))
set_option maxRecDepth 20000 in
def f_X4_noSign (σ : St) (p1 : Int32) : Int32 :=
  (if (f_X4_in p1.toInt64 0 (((σ 0 1).toInt64) - 1)) = 0 then 1 else 0)
set_option maxRecDepth 20000 in
def f_X4_noSmell (p1 : Int32) : Int32 :=
  (if (f_X4_in p1.toInt64 0 8) = 0 then 1 else 0)
set_option maxRecDepth 20000 in
def f_X4_codeAt (σ : St) (p1 : Int32) (p2 : Int32) : Int32 :=
  (if p2 ≤ (σ 0 7) then (-9) else (σ 16 (ix (p1 + (σ 0 7)))))
set_option maxRecDepth 20000 in
def lp_X4_readsSign_79 (a1 : Int32) (a2 : Int32) (a3 : Int32) : Nat → Int32 → St → ((Int32 × St) ⊕ (St))
  | 0, a4, σ => Sum.inr σ
  | n + 1, a4, σ => (if 9 ≤ a4 then (Sum.inr σ) else (if (f_X4_in (((f_X4_codeAt σ a1 a2) - 48).toInt64) 0 9) = 0 then (Sum.inl (0, σ)) else (lp_X4_readsSign_79 a1 a2 a3 n (a4 + 1) (u2 (u2 σ 5 (ix ((9 * (σ 0 8)) + a4)) ((f_X4_codeAt σ a1 a2) - 48)) 0 7 (((u2 σ 5 (ix ((9 * (σ 0 8)) + a4)) ((f_X4_codeAt σ a1 a2) - 48)) 0 7) + 1)))))
set_option maxRecDepth 20000 in
def f_X4_readsSign (σ : St) (p1 : Int32) (p2 : Int32) : Int32 × St :=
  (if (σ 0 8) ≤ 0 then (if (f_X4_codeAt σ p1 p2) = 112 then (match (lp_X4_readsSign_79 p1 p2 (f_X4_codeAt σ p1 p2) 200 0 (u2 σ 0 7 ((σ 0 7) + 1))) with | Sum.inl r => r | Sum.inr S_79e => (1, (u2 (u2 S_79e 4 (ix (S_79e 0 8)) (if (f_X4_codeAt σ p1 p2) = 112 then 0 else (if (f_X4_codeAt σ p1 p2) = 102 then 1 else 2))) 0 8 (((u2 S_79e 4 (ix (S_79e 0 8)) (if (f_X4_codeAt σ p1 p2) = 112 then 0 else (if (f_X4_codeAt σ p1 p2) = 102 then 1 else 2))) 0 8) + 1)))) else (if (f_X4_codeAt σ p1 p2) = 102 then (match (lp_X4_readsSign_79 p1 p2 (f_X4_codeAt σ p1 p2) 200 0 (u2 σ 0 7 ((σ 0 7) + 1))) with | Sum.inl r => r | Sum.inr S_79e => (1, (u2 (u2 S_79e 4 (ix (S_79e 0 8)) (if (f_X4_codeAt σ p1 p2) = 112 then 0 else (if (f_X4_codeAt σ p1 p2) = 102 then 1 else 2))) 0 8 (((u2 S_79e 4 (ix (S_79e 0 8)) (if (f_X4_codeAt σ p1 p2) = 112 then 0 else (if (f_X4_codeAt σ p1 p2) = 102 then 1 else 2))) 0 8) + 1)))) else (if (f_X4_codeAt σ p1 p2) = 115 then (match (lp_X4_readsSign_79 p1 p2 (f_X4_codeAt σ p1 p2) 200 0 (u2 σ 0 7 ((σ 0 7) + 1))) with | Sum.inl r => r | Sum.inr S_79e => (1, (u2 (u2 S_79e 4 (ix (S_79e 0 8)) (if (f_X4_codeAt σ p1 p2) = 112 then 0 else (if (f_X4_codeAt σ p1 p2) = 102 then 1 else 2))) 0 8 (((u2 S_79e 4 (ix (S_79e 0 8)) (if (f_X4_codeAt σ p1 p2) = 112 then 0 else (if (f_X4_codeAt σ p1 p2) = 102 then 1 else 2))) 0 8) + 1)))) else (0, σ)))) else (if (σ 0 8) = 8 then (0, σ) else (if (f_X4_codeAt σ p1 p2) = 59 then (if (f_X4_codeAt (u2 σ 0 7 ((σ 0 7) + 1)) p1 p2) = 112 then (match (lp_X4_readsSign_79 p1 p2 (f_X4_codeAt (u2 σ 0 7 ((σ 0 7) + 1)) p1 p2) 200 0 (u2 (u2 σ 0 7 ((σ 0 7) + 1)) 0 7 (((u2 σ 0 7 ((σ 0 7) + 1)) 0 7) + 1))) with | Sum.inl r => r | Sum.inr S_79e => (1, (u2 (u2 S_79e 4 (ix (S_79e 0 8)) (if (f_X4_codeAt (u2 σ 0 7 ((σ 0 7) + 1)) p1 p2) = 112 then 0 else (if (f_X4_codeAt (u2 σ 0 7 ((σ 0 7) + 1)) p1 p2) = 102 then 1 else 2))) 0 8 (((u2 S_79e 4 (ix (S_79e 0 8)) (if (f_X4_codeAt (u2 σ 0 7 ((σ 0 7) + 1)) p1 p2) = 112 then 0 else (if (f_X4_codeAt (u2 σ 0 7 ((σ 0 7) + 1)) p1 p2) = 102 then 1 else 2))) 0 8) + 1)))) else (if (f_X4_codeAt (u2 σ 0 7 ((σ 0 7) + 1)) p1 p2) = 102 then (match (lp_X4_readsSign_79 p1 p2 (f_X4_codeAt (u2 σ 0 7 ((σ 0 7) + 1)) p1 p2) 200 0 (u2 (u2 σ 0 7 ((σ 0 7) + 1)) 0 7 (((u2 σ 0 7 ((σ 0 7) + 1)) 0 7) + 1))) with | Sum.inl r => r | Sum.inr S_79e => (1, (u2 (u2 S_79e 4 (ix (S_79e 0 8)) (if (f_X4_codeAt (u2 σ 0 7 ((σ 0 7) + 1)) p1 p2) = 112 then 0 else (if (f_X4_codeAt (u2 σ 0 7 ((σ 0 7) + 1)) p1 p2) = 102 then 1 else 2))) 0 8 (((u2 S_79e 4 (ix (S_79e 0 8)) (if (f_X4_codeAt (u2 σ 0 7 ((σ 0 7) + 1)) p1 p2) = 112 then 0 else (if (f_X4_codeAt (u2 σ 0 7 ((σ 0 7) + 1)) p1 p2) = 102 then 1 else 2))) 0 8) + 1)))) else (if (f_X4_codeAt (u2 σ 0 7 ((σ 0 7) + 1)) p1 p2) = 115 then (match (lp_X4_readsSign_79 p1 p2 (f_X4_codeAt (u2 σ 0 7 ((σ 0 7) + 1)) p1 p2) 200 0 (u2 (u2 σ 0 7 ((σ 0 7) + 1)) 0 7 (((u2 σ 0 7 ((σ 0 7) + 1)) 0 7) + 1))) with | Sum.inl r => r | Sum.inr S_79e => (1, (u2 (u2 S_79e 4 (ix (S_79e 0 8)) (if (f_X4_codeAt (u2 σ 0 7 ((σ 0 7) + 1)) p1 p2) = 112 then 0 else (if (f_X4_codeAt (u2 σ 0 7 ((σ 0 7) + 1)) p1 p2) = 102 then 1 else 2))) 0 8 (((u2 S_79e 4 (ix (S_79e 0 8)) (if (f_X4_codeAt (u2 σ 0 7 ((σ 0 7) + 1)) p1 p2) = 112 then 0 else (if (f_X4_codeAt (u2 σ 0 7 ((σ 0 7) + 1)) p1 p2) = 102 then 1 else 2))) 0 8) + 1)))) else (0, (u2 σ 0 7 ((σ 0 7) + 1)))))) else (0, σ))))
set_option maxRecDepth 20000 in
def lp_X4_readsRegister_12 (a1 : Int32) (a2 : Int32) : Nat → Int32 → St → (Int32 × St)
  | 0, a3, σ => (a3, σ)
  | n + 1, a3, σ => (if a3 = 0 then (a3, σ) else (if (σ 0 8) < 2 then (lp_X4_readsRegister_12 a1 a2 n ((f_X4_readsSign σ a1 a2).1) ((f_X4_readsSign σ a1 a2).2)) else (if a2 ≤ (σ 0 7) then (a3, σ) else (lp_X4_readsRegister_12 a1 a2 n ((f_X4_readsSign σ a1 a2).1) ((f_X4_readsSign σ a1 a2).2)))))
set_option maxRecDepth 20000 in
def f_X4_readsRegister (σ : St) (p1 : Int32) (p2 : Int32) : Int32 × St :=
  (match (lp_X4_readsRegister_12 p1 p2 200 1 (u2 (u2 σ 0 7 0) 0 8 0)) with | (v3_12e, S_12e) => (v3_12e, S_12e))
set_option maxRecDepth 20000 in
def lp_X4_register_58  : Nat → Int32 → St → St
  | 0, a6, σ => σ
  | n + 1, a6, σ => (if (σ 0 1) ≤ a6 then σ else (lp_X4_register_58 n (a6 + 1) (u2 σ 1 (ix a6) (σ 4 (ix a6)))))
set_option maxRecDepth 20000 in
def lp_X4_register_90  : Nat → Int32 → St → St
  | 0, a6, σ => σ
  | n + 1, a6, σ => (if 72 ≤ a6 then σ else (lp_X4_register_90 n (a6 + 1) (u2 σ 2 (ix a6) (σ 5 (ix a6)))))
set_option maxRecDepth 20000 in
def lp_X4_register_120  : Nat → Int32 → St → St
  | 0, a6, σ => σ
  | n + 1, a6, σ => (if 9 ≤ a6 then σ else (lp_X4_register_120 n (a6 + 1) (u2 σ 3 (ix a6) 5)))
set_option maxRecDepth 20000 in
def f_X4_register (σ : St) (p1 : Int32) (p2 : Int32) (p3 : Int32) (p4 : Int32) : Int32 × St :=
  (if 0 ≤ ((f_X4_barred σ p1 p2 p3 p4.toInt64).1) then (if ((f_X4_readsRegister ((f_X4_barred σ p1 p2 p3 p4.toInt64).2) ((90 * p1) + p3) p4).1) = 0 then ((f_X4_refused ((f_X4_readsRegister ((f_X4_barred σ p1 p2 p3 p4.toInt64).2) ((90 * p1) + p3) p4).2) ((-100) - (((f_X4_readsRegister ((f_X4_barred σ p1 p2 p3 p4.toInt64).2) ((90 * p1) + p3) p4).2) 0 7))).1, (f_X4_refused ((f_X4_readsRegister ((f_X4_barred σ p1 p2 p3 p4.toInt64).2) ((90 * p1) + p3) p4).2) ((-100) - (((f_X4_readsRegister ((f_X4_barred σ p1 p2 p3 p4.toInt64).2) ((90 * p1) + p3) p4).2) 0 7))).2) else ((f_X4_refused (u2 (u2 (u2 (lp_X4_register_120 200 0 (lp_X4_register_90 200 0 (lp_X4_register_58 200 0 (u2 ((f_X4_readsRegister ((f_X4_barred σ p1 p2 p3 p4.toInt64).2) ((90 * p1) + p3) p4).2) 0 1 (((f_X4_readsRegister ((f_X4_barred σ p1 p2 p3 p4.toInt64).2) ((90 * p1) + p3) p4).2) 0 8))))) 0 11 0) 0 2 0) 0 3 40) ((u2 (u2 (u2 (lp_X4_register_120 200 0 (lp_X4_register_90 200 0 (lp_X4_register_58 200 0 (u2 ((f_X4_readsRegister ((f_X4_barred σ p1 p2 p3 p4.toInt64).2) ((90 * p1) + p3) p4).2) 0 1 (((f_X4_readsRegister ((f_X4_barred σ p1 p2 p3 p4.toInt64).2) ((90 * p1) + p3) p4).2) 0 8))))) 0 11 0) 0 2 0) 0 3 40) 0 1)).1, (f_X4_refused (u2 (u2 (u2 (lp_X4_register_120 200 0 (lp_X4_register_90 200 0 (lp_X4_register_58 200 0 (u2 ((f_X4_readsRegister ((f_X4_barred σ p1 p2 p3 p4.toInt64).2) ((90 * p1) + p3) p4).2) 0 1 (((f_X4_readsRegister ((f_X4_barred σ p1 p2 p3 p4.toInt64).2) ((90 * p1) + p3) p4).2) 0 8))))) 0 11 0) 0 2 0) 0 3 40) ((u2 (u2 (u2 (lp_X4_register_120 200 0 (lp_X4_register_90 200 0 (lp_X4_register_58 200 0 (u2 ((f_X4_readsRegister ((f_X4_barred σ p1 p2 p3 p4.toInt64).2) ((90 * p1) + p3) p4).2) 0 1 (((f_X4_readsRegister ((f_X4_barred σ p1 p2 p3 p4.toInt64).2) ((90 * p1) + p3) p4).2) 0 8))))) 0 11 0) 0 2 0) 0 3 40) 0 1)).2)) else ((f_X4_barred σ p1 p2 p3 p4.toInt64).1, (f_X4_barred σ p1 p2 p3 p4.toInt64).2))
set_option maxRecDepth 20000 in
def f_X4_strong (σ : St) (p1 : Int32) (p2 : Int32) : Int32 :=
  (σ 2 (ix ((9 * p1) + p2)))
set_option maxRecDepth 20000 in
def f_X4_ofSign (σ : St) (p1 : Int32) (p2 : Int32) : Int32 :=
  (if (f_X4_noSign σ p1) = 0 then (if p2 = (-1) then (σ 1 (ix p1)) else (if (f_X4_noSmell p2) = 0 then (f_X4_strong σ p1 p2) else (-2))) else (-1))
set_option maxRecDepth 20000 in
def f_X4_half (σ : St) (p1 : Int32) (p2 : Int32) : Int32 × St :=
  (if (f_X4_noSmell p1) = 0 then (if (f_X4_in p2.toInt64 1 9) = 0 then ((-2), σ) else (if (σ 0 1) = 0 then ((-3), σ) else ((σ 3 (ix p1)), (u2 σ 3 (ix p1) p2)))) else ((-1), σ))
set_option maxRecDepth 20000 in
def f_X4_bound (σ : St) (p1 : Int32) : Int32 × St :=
  (if (f_X4_in p1.toInt64 0 999) = 0 then ((-2), σ) else (if (σ 0 1) = 0 then ((-3), σ) else ((σ 0 3), (u2 σ 0 3 p1))))
set_option maxRecDepth 20000 in
def f_X4_year (σ : St) (p1 : Int32) : Int32 × St :=
  (if (f_X4_in p1.toInt64 ((σ 0 2).toInt64) 99) = 0 then ((-2), σ) else (if (σ 0 1) = 0 then ((-3), σ) else ((σ 0 2), (u2 σ 0 2 p1))))
set_option maxRecDepth 20000 in
def lp_X4_fades_51 (σ : St) (a5 : Int32) : Nat → Int32 → Int32 → Int32
  | 0, a6, a7 => a6
  | n + 1, a6, a7 => (if a5 ≤ a7 then a6 else (if a6 ≤ 0 then a6 else (lp_X4_fades_51 σ a5 n (a6 / 2) (a7 + 1))))
set_option maxRecDepth 20000 in
def f_X4_fades (σ : St) (p1 : Int32) (p2 : Int32) (p3 : Int32) (p4 : Int32) : Int32 :=
  (lp_X4_fades_51 σ (if (σ 1 (ix p1)) = 0 then (p4 / (σ 3 (ix p2))) else (if (σ 1 (ix p1)) = 1 then ((p4 / (σ 3 (ix p2))) / 2) else 0)) 200 p3 0)
set_option maxRecDepth 20000 in
def f_X4_faded (σ : St) (p1 : Int32) (p2 : Int32) (p3 : Int32) (p4 : Int32) : Int32 :=
  (if (f_X4_noSign σ p1) = 0 then (if (f_X4_noSmell p2) = 0 then (if (f_X4_in p3.toInt64 0 999) = 0 then (-2) else (if (f_X4_in p4.toInt64 0 99) = 0 then (-2) else (f_X4_fades σ p1 p2 p3 p4))) else (-1)) else (-1))
set_option maxRecDepth 20000 in
def f_X4_noPaper (σ : St) (p1 : Int32) : Int32 :=
  (if (f_X4_in p1.toInt64 0 (((σ 0 11).toInt64) - 1)) = 0 then 1 else 0)
set_option maxRecDepth 20000 in
def f_X4_areTwo (σ : St) (p1 : Int32) (p2 : Int32) : Int32 :=
  (if (f_X4_noSign σ p1) = 0 then (if (f_X4_noSign σ p2) = 0 then (if p1 = p2 then 0 else 1) else 0) else 0)
set_option maxRecDepth 20000 in
def f_X4_paper (σ : St) (p1 : Int32) (p2 : Int32) (p3 : Int32) : Int32 × St :=
  (if (f_X4_areTwo σ p1 p2) = 0 then ((-1), σ) else (if (f_X4_in p3.toInt64 0 9) = 0 then ((-2), σ) else (if (σ 0 11) = 8 then ((-4), σ) else ((((u2 (u2 (u2 (u2 (u2 (u2 (u2 σ 6 (ix (σ 0 11)) p1) 7 (ix ((u2 σ 6 (ix (σ 0 11)) p1) 0 11)) p2) 8 (ix ((u2 (u2 σ 6 (ix (σ 0 11)) p1) 7 (ix ((u2 σ 6 (ix (σ 0 11)) p1) 0 11)) p2) 0 11)) ((u2 (u2 σ 6 (ix (σ 0 11)) p1) 7 (ix ((u2 σ 6 (ix (σ 0 11)) p1) 0 11)) p2) 0 2)) 9 (ix ((u2 (u2 (u2 σ 6 (ix (σ 0 11)) p1) 7 (ix ((u2 σ 6 (ix (σ 0 11)) p1) 0 11)) p2) 8 (ix ((u2 (u2 σ 6 (ix (σ 0 11)) p1) 7 (ix ((u2 σ 6 (ix (σ 0 11)) p1) 0 11)) p2) 0 11)) ((u2 (u2 σ 6 (ix (σ 0 11)) p1) 7 (ix ((u2 σ 6 (ix (σ 0 11)) p1) 0 11)) p2) 0 2)) 0 11)) p3) 10 (ix ((u2 (u2 (u2 (u2 σ 6 (ix (σ 0 11)) p1) 7 (ix ((u2 σ 6 (ix (σ 0 11)) p1) 0 11)) p2) 8 (ix ((u2 (u2 σ 6 (ix (σ 0 11)) p1) 7 (ix ((u2 σ 6 (ix (σ 0 11)) p1) 0 11)) p2) 0 11)) ((u2 (u2 σ 6 (ix (σ 0 11)) p1) 7 (ix ((u2 σ 6 (ix (σ 0 11)) p1) 0 11)) p2) 0 2)) 9 (ix ((u2 (u2 (u2 σ 6 (ix (σ 0 11)) p1) 7 (ix ((u2 σ 6 (ix (σ 0 11)) p1) 0 11)) p2) 8 (ix ((u2 (u2 σ 6 (ix (σ 0 11)) p1) 7 (ix ((u2 σ 6 (ix (σ 0 11)) p1) 0 11)) p2) 0 11)) ((u2 (u2 σ 6 (ix (σ 0 11)) p1) 7 (ix ((u2 σ 6 (ix (σ 0 11)) p1) 0 11)) p2) 0 2)) 0 11)) p3) 0 11)) 0) 11 (ix ((u2 (u2 (u2 (u2 (u2 σ 6 (ix (σ 0 11)) p1) 7 (ix ((u2 σ 6 (ix (σ 0 11)) p1) 0 11)) p2) 8 (ix ((u2 (u2 σ 6 (ix (σ 0 11)) p1) 7 (ix ((u2 σ 6 (ix (σ 0 11)) p1) 0 11)) p2) 0 11)) ((u2 (u2 σ 6 (ix (σ 0 11)) p1) 7 (ix ((u2 σ 6 (ix (σ 0 11)) p1) 0 11)) p2) 0 2)) 9 (ix ((u2 (u2 (u2 σ 6 (ix (σ 0 11)) p1) 7 (ix ((u2 σ 6 (ix (σ 0 11)) p1) 0 11)) p2) 8 (ix ((u2 (u2 σ 6 (ix (σ 0 11)) p1) 7 (ix ((u2 σ 6 (ix (σ 0 11)) p1) 0 11)) p2) 0 11)) ((u2 (u2 σ 6 (ix (σ 0 11)) p1) 7 (ix ((u2 σ 6 (ix (σ 0 11)) p1) 0 11)) p2) 0 2)) 0 11)) p3) 10 (ix ((u2 (u2 (u2 (u2 σ 6 (ix (σ 0 11)) p1) 7 (ix ((u2 σ 6 (ix (σ 0 11)) p1) 0 11)) p2) 8 (ix ((u2 (u2 σ 6 (ix (σ 0 11)) p1) 7 (ix ((u2 σ 6 (ix (σ 0 11)) p1) 0 11)) p2) 0 11)) ((u2 (u2 σ 6 (ix (σ 0 11)) p1) 7 (ix ((u2 σ 6 (ix (σ 0 11)) p1) 0 11)) p2) 0 2)) 9 (ix ((u2 (u2 (u2 σ 6 (ix (σ 0 11)) p1) 7 (ix ((u2 σ 6 (ix (σ 0 11)) p1) 0 11)) p2) 8 (ix ((u2 (u2 σ 6 (ix (σ 0 11)) p1) 7 (ix ((u2 σ 6 (ix (σ 0 11)) p1) 0 11)) p2) 0 11)) ((u2 (u2 σ 6 (ix (σ 0 11)) p1) 7 (ix ((u2 σ 6 (ix (σ 0 11)) p1) 0 11)) p2) 0 2)) 0 11)) p3) 0 11)) 0) 0 11)) 0) 0 11 (((u2 (u2 (u2 (u2 (u2 (u2 σ 6 (ix (σ 0 11)) p1) 7 (ix ((u2 σ 6 (ix (σ 0 11)) p1) 0 11)) p2) 8 (ix ((u2 (u2 σ 6 (ix (σ 0 11)) p1) 7 (ix ((u2 σ 6 (ix (σ 0 11)) p1) 0 11)) p2) 0 11)) ((u2 (u2 σ 6 (ix (σ 0 11)) p1) 7 (ix ((u2 σ 6 (ix (σ 0 11)) p1) 0 11)) p2) 0 2)) 9 (ix ((u2 (u2 (u2 σ 6 (ix (σ 0 11)) p1) 7 (ix ((u2 σ 6 (ix (σ 0 11)) p1) 0 11)) p2) 8 (ix ((u2 (u2 σ 6 (ix (σ 0 11)) p1) 7 (ix ((u2 σ 6 (ix (σ 0 11)) p1) 0 11)) p2) 0 11)) ((u2 (u2 σ 6 (ix (σ 0 11)) p1) 7 (ix ((u2 σ 6 (ix (σ 0 11)) p1) 0 11)) p2) 0 2)) 0 11)) p3) 10 (ix ((u2 (u2 (u2 (u2 σ 6 (ix (σ 0 11)) p1) 7 (ix ((u2 σ 6 (ix (σ 0 11)) p1) 0 11)) p2) 8 (ix ((u2 (u2 σ 6 (ix (σ 0 11)) p1) 7 (ix ((u2 σ 6 (ix (σ 0 11)) p1) 0 11)) p2) 0 11)) ((u2 (u2 σ 6 (ix (σ 0 11)) p1) 7 (ix ((u2 σ 6 (ix (σ 0 11)) p1) 0 11)) p2) 0 2)) 9 (ix ((u2 (u2 (u2 σ 6 (ix (σ 0 11)) p1) 7 (ix ((u2 σ 6 (ix (σ 0 11)) p1) 0 11)) p2) 8 (ix ((u2 (u2 σ 6 (ix (σ 0 11)) p1) 7 (ix ((u2 σ 6 (ix (σ 0 11)) p1) 0 11)) p2) 0 11)) ((u2 (u2 σ 6 (ix (σ 0 11)) p1) 7 (ix ((u2 σ 6 (ix (σ 0 11)) p1) 0 11)) p2) 0 2)) 0 11)) p3) 0 11)) 0) 11 (ix ((u2 (u2 (u2 (u2 (u2 σ 6 (ix (σ 0 11)) p1) 7 (ix ((u2 σ 6 (ix (σ 0 11)) p1) 0 11)) p2) 8 (ix ((u2 (u2 σ 6 (ix (σ 0 11)) p1) 7 (ix ((u2 σ 6 (ix (σ 0 11)) p1) 0 11)) p2) 0 11)) ((u2 (u2 σ 6 (ix (σ 0 11)) p1) 7 (ix ((u2 σ 6 (ix (σ 0 11)) p1) 0 11)) p2) 0 2)) 9 (ix ((u2 (u2 (u2 σ 6 (ix (σ 0 11)) p1) 7 (ix ((u2 σ 6 (ix (σ 0 11)) p1) 0 11)) p2) 8 (ix ((u2 (u2 σ 6 (ix (σ 0 11)) p1) 7 (ix ((u2 σ 6 (ix (σ 0 11)) p1) 0 11)) p2) 0 11)) ((u2 (u2 σ 6 (ix (σ 0 11)) p1) 7 (ix ((u2 σ 6 (ix (σ 0 11)) p1) 0 11)) p2) 0 2)) 0 11)) p3) 10 (ix ((u2 (u2 (u2 (u2 σ 6 (ix (σ 0 11)) p1) 7 (ix ((u2 σ 6 (ix (σ 0 11)) p1) 0 11)) p2) 8 (ix ((u2 (u2 σ 6 (ix (σ 0 11)) p1) 7 (ix ((u2 σ 6 (ix (σ 0 11)) p1) 0 11)) p2) 0 11)) ((u2 (u2 σ 6 (ix (σ 0 11)) p1) 7 (ix ((u2 σ 6 (ix (σ 0 11)) p1) 0 11)) p2) 0 2)) 9 (ix ((u2 (u2 (u2 σ 6 (ix (σ 0 11)) p1) 7 (ix ((u2 σ 6 (ix (σ 0 11)) p1) 0 11)) p2) 8 (ix ((u2 (u2 σ 6 (ix (σ 0 11)) p1) 7 (ix ((u2 σ 6 (ix (σ 0 11)) p1) 0 11)) p2) 0 11)) ((u2 (u2 σ 6 (ix (σ 0 11)) p1) 7 (ix ((u2 σ 6 (ix (σ 0 11)) p1) 0 11)) p2) 0 2)) 0 11)) p3) 0 11)) 0) 0 11)) 0) 0 11) + 1)) 0 11) - 1), (u2 (u2 (u2 (u2 (u2 (u2 (u2 σ 6 (ix (σ 0 11)) p1) 7 (ix ((u2 σ 6 (ix (σ 0 11)) p1) 0 11)) p2) 8 (ix ((u2 (u2 σ 6 (ix (σ 0 11)) p1) 7 (ix ((u2 σ 6 (ix (σ 0 11)) p1) 0 11)) p2) 0 11)) ((u2 (u2 σ 6 (ix (σ 0 11)) p1) 7 (ix ((u2 σ 6 (ix (σ 0 11)) p1) 0 11)) p2) 0 2)) 9 (ix ((u2 (u2 (u2 σ 6 (ix (σ 0 11)) p1) 7 (ix ((u2 σ 6 (ix (σ 0 11)) p1) 0 11)) p2) 8 (ix ((u2 (u2 σ 6 (ix (σ 0 11)) p1) 7 (ix ((u2 σ 6 (ix (σ 0 11)) p1) 0 11)) p2) 0 11)) ((u2 (u2 σ 6 (ix (σ 0 11)) p1) 7 (ix ((u2 σ 6 (ix (σ 0 11)) p1) 0 11)) p2) 0 2)) 0 11)) p3) 10 (ix ((u2 (u2 (u2 (u2 σ 6 (ix (σ 0 11)) p1) 7 (ix ((u2 σ 6 (ix (σ 0 11)) p1) 0 11)) p2) 8 (ix ((u2 (u2 σ 6 (ix (σ 0 11)) p1) 7 (ix ((u2 σ 6 (ix (σ 0 11)) p1) 0 11)) p2) 0 11)) ((u2 (u2 σ 6 (ix (σ 0 11)) p1) 7 (ix ((u2 σ 6 (ix (σ 0 11)) p1) 0 11)) p2) 0 2)) 9 (ix ((u2 (u2 (u2 σ 6 (ix (σ 0 11)) p1) 7 (ix ((u2 σ 6 (ix (σ 0 11)) p1) 0 11)) p2) 8 (ix ((u2 (u2 σ 6 (ix (σ 0 11)) p1) 7 (ix ((u2 σ 6 (ix (σ 0 11)) p1) 0 11)) p2) 0 11)) ((u2 (u2 σ 6 (ix (σ 0 11)) p1) 7 (ix ((u2 σ 6 (ix (σ 0 11)) p1) 0 11)) p2) 0 2)) 0 11)) p3) 0 11)) 0) 11 (ix ((u2 (u2 (u2 (u2 (u2 σ 6 (ix (σ 0 11)) p1) 7 (ix ((u2 σ 6 (ix (σ 0 11)) p1) 0 11)) p2) 8 (ix ((u2 (u2 σ 6 (ix (σ 0 11)) p1) 7 (ix ((u2 σ 6 (ix (σ 0 11)) p1) 0 11)) p2) 0 11)) ((u2 (u2 σ 6 (ix (σ 0 11)) p1) 7 (ix ((u2 σ 6 (ix (σ 0 11)) p1) 0 11)) p2) 0 2)) 9 (ix ((u2 (u2 (u2 σ 6 (ix (σ 0 11)) p1) 7 (ix ((u2 σ 6 (ix (σ 0 11)) p1) 0 11)) p2) 8 (ix ((u2 (u2 σ 6 (ix (σ 0 11)) p1) 7 (ix ((u2 σ 6 (ix (σ 0 11)) p1) 0 11)) p2) 0 11)) ((u2 (u2 σ 6 (ix (σ 0 11)) p1) 7 (ix ((u2 σ 6 (ix (σ 0 11)) p1) 0 11)) p2) 0 2)) 0 11)) p3) 10 (ix ((u2 (u2 (u2 (u2 σ 6 (ix (σ 0 11)) p1) 7 (ix ((u2 σ 6 (ix (σ 0 11)) p1) 0 11)) p2) 8 (ix ((u2 (u2 σ 6 (ix (σ 0 11)) p1) 7 (ix ((u2 σ 6 (ix (σ 0 11)) p1) 0 11)) p2) 0 11)) ((u2 (u2 σ 6 (ix (σ 0 11)) p1) 7 (ix ((u2 σ 6 (ix (σ 0 11)) p1) 0 11)) p2) 0 2)) 9 (ix ((u2 (u2 (u2 σ 6 (ix (σ 0 11)) p1) 7 (ix ((u2 σ 6 (ix (σ 0 11)) p1) 0 11)) p2) 8 (ix ((u2 (u2 σ 6 (ix (σ 0 11)) p1) 7 (ix ((u2 σ 6 (ix (σ 0 11)) p1) 0 11)) p2) 0 11)) ((u2 (u2 σ 6 (ix (σ 0 11)) p1) 7 (ix ((u2 σ 6 (ix (σ 0 11)) p1) 0 11)) p2) 0 2)) 0 11)) p3) 0 11)) 0) 0 11)) 0) 0 11 (((u2 (u2 (u2 (u2 (u2 (u2 σ 6 (ix (σ 0 11)) p1) 7 (ix ((u2 σ 6 (ix (σ 0 11)) p1) 0 11)) p2) 8 (ix ((u2 (u2 σ 6 (ix (σ 0 11)) p1) 7 (ix ((u2 σ 6 (ix (σ 0 11)) p1) 0 11)) p2) 0 11)) ((u2 (u2 σ 6 (ix (σ 0 11)) p1) 7 (ix ((u2 σ 6 (ix (σ 0 11)) p1) 0 11)) p2) 0 2)) 9 (ix ((u2 (u2 (u2 σ 6 (ix (σ 0 11)) p1) 7 (ix ((u2 σ 6 (ix (σ 0 11)) p1) 0 11)) p2) 8 (ix ((u2 (u2 σ 6 (ix (σ 0 11)) p1) 7 (ix ((u2 σ 6 (ix (σ 0 11)) p1) 0 11)) p2) 0 11)) ((u2 (u2 σ 6 (ix (σ 0 11)) p1) 7 (ix ((u2 σ 6 (ix (σ 0 11)) p1) 0 11)) p2) 0 2)) 0 11)) p3) 10 (ix ((u2 (u2 (u2 (u2 σ 6 (ix (σ 0 11)) p1) 7 (ix ((u2 σ 6 (ix (σ 0 11)) p1) 0 11)) p2) 8 (ix ((u2 (u2 σ 6 (ix (σ 0 11)) p1) 7 (ix ((u2 σ 6 (ix (σ 0 11)) p1) 0 11)) p2) 0 11)) ((u2 (u2 σ 6 (ix (σ 0 11)) p1) 7 (ix ((u2 σ 6 (ix (σ 0 11)) p1) 0 11)) p2) 0 2)) 9 (ix ((u2 (u2 (u2 σ 6 (ix (σ 0 11)) p1) 7 (ix ((u2 σ 6 (ix (σ 0 11)) p1) 0 11)) p2) 8 (ix ((u2 (u2 σ 6 (ix (σ 0 11)) p1) 7 (ix ((u2 σ 6 (ix (σ 0 11)) p1) 0 11)) p2) 0 11)) ((u2 (u2 σ 6 (ix (σ 0 11)) p1) 7 (ix ((u2 σ 6 (ix (σ 0 11)) p1) 0 11)) p2) 0 2)) 0 11)) p3) 0 11)) 0) 11 (ix ((u2 (u2 (u2 (u2 (u2 σ 6 (ix (σ 0 11)) p1) 7 (ix ((u2 σ 6 (ix (σ 0 11)) p1) 0 11)) p2) 8 (ix ((u2 (u2 σ 6 (ix (σ 0 11)) p1) 7 (ix ((u2 σ 6 (ix (σ 0 11)) p1) 0 11)) p2) 0 11)) ((u2 (u2 σ 6 (ix (σ 0 11)) p1) 7 (ix ((u2 σ 6 (ix (σ 0 11)) p1) 0 11)) p2) 0 2)) 9 (ix ((u2 (u2 (u2 σ 6 (ix (σ 0 11)) p1) 7 (ix ((u2 σ 6 (ix (σ 0 11)) p1) 0 11)) p2) 8 (ix ((u2 (u2 σ 6 (ix (σ 0 11)) p1) 7 (ix ((u2 σ 6 (ix (σ 0 11)) p1) 0 11)) p2) 0 11)) ((u2 (u2 σ 6 (ix (σ 0 11)) p1) 7 (ix ((u2 σ 6 (ix (σ 0 11)) p1) 0 11)) p2) 0 2)) 0 11)) p3) 10 (ix ((u2 (u2 (u2 (u2 σ 6 (ix (σ 0 11)) p1) 7 (ix ((u2 σ 6 (ix (σ 0 11)) p1) 0 11)) p2) 8 (ix ((u2 (u2 σ 6 (ix (σ 0 11)) p1) 7 (ix ((u2 σ 6 (ix (σ 0 11)) p1) 0 11)) p2) 0 11)) ((u2 (u2 σ 6 (ix (σ 0 11)) p1) 7 (ix ((u2 σ 6 (ix (σ 0 11)) p1) 0 11)) p2) 0 2)) 9 (ix ((u2 (u2 (u2 σ 6 (ix (σ 0 11)) p1) 7 (ix ((u2 σ 6 (ix (σ 0 11)) p1) 0 11)) p2) 8 (ix ((u2 (u2 σ 6 (ix (σ 0 11)) p1) 7 (ix ((u2 σ 6 (ix (σ 0 11)) p1) 0 11)) p2) 0 11)) ((u2 (u2 σ 6 (ix (σ 0 11)) p1) 7 (ix ((u2 σ 6 (ix (σ 0 11)) p1) 0 11)) p2) 0 2)) 0 11)) p3) 0 11)) 0) 0 11)) 0) 0 11) + 1))))))
set_option maxRecDepth 20000 in
def f_X4_ofPaper (σ : St) (p1 : Int32) (p2 : Int32) : Int32 :=
  (if (f_X4_noPaper σ p1) = 0 then (if p2 = 0 then (σ 6 (ix p1)) else (if p2 = 1 then (σ 7 (ix p1)) else (if p2 = 2 then (σ 8 (ix p1)) else (if p2 = 3 then (σ 9 (ix p1)) else (if p2 = 4 then (σ 10 (ix p1)) else (if p2 = 5 then (σ 11 (ix p1)) else (-2))))))) else (-1))
set_option maxRecDepth 20000 in
def f_X4_smellOf (σ : St) (p1 : Int32) (p2 : Int32) (p3 : Int32) : Int32 :=
  ((if (((σ 10 (ix p1)) >>> (p2 &&& 31)) &&& 1) = 1 then 0 else (f_X4_greater 0 (((f_X4_fades σ (σ 6 (ix p1)) p2 (4 * (f_X4_strong σ (σ 6 (ix p1)) p2)) (p3 - (σ 8 (ix p1)))) + (f_X4_fades σ (σ 7 (ix p1)) p2 (4 * (f_X4_strong σ (σ 7 (ix p1)) p2)) (p3 - (σ 8 (ix p1))))) - (σ 9 (ix p1))))) + (σ 11 (ix p1)))
set_option maxRecDepth 20000 in
def f_X4_smells (σ : St) (p1 : Int32) (p2 : Int32) (p3 : Int32) : Int32 :=
  (if (f_X4_noPaper σ p1) = 0 then (if (f_X4_noSmell p2) = 0 then (if (f_X4_in p3.toInt64 ((σ 8 (ix p1)).toInt64) 99) = 0 then (-2) else (f_X4_smellOf σ p1 p2 p3)) else (-1)) else (-1))
set_option maxRecDepth 20000 in
def f_X4_wash (σ : St) (p1 : Int32) (p2 : Int32) : Int32 × St :=
  (if (f_X4_noPaper σ p1) = 0 then (if (f_X4_noSmell p2) = 0 then ((1 - (((σ 10 (ix p1)) >>> (p2 &&& 31)) &&& 1)), (u2 σ 10 (ix p1) ((σ 10 (ix p1)) ||| ((1 : Int32) <<< (p2 &&& 31))))) else ((-1), σ)) else ((-1), σ))
set_option maxRecDepth 20000 in
def lp_X4_flood_17 (a1 : Int32) : Nat → Int32 → St → St
  | 0, a2, σ => σ
  | n + 1, a2, σ => (if (σ 0 11) ≤ a2 then σ else (lp_X4_flood_17 a1 n (a2 + 1) (u2 σ 11 (ix a2) ((σ 11 (ix a2)) + a1))))
set_option maxRecDepth 20000 in
def f_X4_flood (σ : St) (p1 : Int32) : Int32 × St :=
  (if (f_X4_in p1.toInt64 1 9) = 0 then ((-2), σ) else (((lp_X4_flood_17 p1 200 0 σ) 0 11), (lp_X4_flood_17 p1 200 0 σ)))
set_option maxRecDepth 20000 in
def lp_X4_farIn_6 (σ : St) (a1 : Int32) (a2 : Int32) (a3 : Int32) (a4 : Int32) : Nat → Int32 → Int32 → Int32
  | 0, a5, a6 => a5
  | n + 1, a5, a6 => (if 9 ≤ a6 then a5 else (lp_X4_farIn_6 σ a1 a2 a3 a4 n (a5 + (f_X4_off (f_X4_smellOf σ a1 a6 a4) (4 * ((f_X4_strong σ a2 a6) + (f_X4_strong σ a3 a6))))) (a6 + 1)))
set_option maxRecDepth 20000 in
def f_X4_farIn (σ : St) (p1 : Int32) (p2 : Int32) (p3 : Int32) (p4 : Int32) : Int32 :=
  (lp_X4_farIn_6 σ p1 p2 p3 p4 200 0 0)
set_option maxRecDepth 20000 in
def f_X4_far (σ : St) (p1 : Int32) (p2 : Int32) (p3 : Int32) : Int32 :=
  (if (f_X4_noPaper σ p1) = 0 then (if (f_X4_areTwo σ p2 p3) = 0 then (-1) else (f_X4_farIn σ p1 p2 p3 (σ 0 2))) else (-1))
set_option maxRecDepth 20000 in
def lp_X4_fits_52 (σ : St) (a1 : Int32) (a2 : Int32) (a6 : Int32) : Nat → Int32 → Int32 → Int32 → Int32 → (Int32 × Int32 × Int32)
  | 0, a3, a4, a5, a7 => (a3, a4, a5)
  | n + 1, a3, a4, a5, a7 => (if (σ 0 1) ≤ a7 then (a3, a4, a5) else (if a4 < 0 then (lp_X4_fits_52 σ a1 a2 a6 n (a3 + (if (σ 0 3) < (f_X4_farIn σ a1 a6 a7 (σ 0 2)) then 0 else 1)) ((10 * a6) + a7) (f_X4_farIn σ a1 a6 a7 (σ 0 2)) (a7 + 1)) else (if a5 ≤ (f_X4_farIn σ a1 a6 a7 (σ 0 2)) then (lp_X4_fits_52 σ a1 a2 a6 n (a3 + (if (σ 0 3) < (f_X4_farIn σ a1 a6 a7 (σ 0 2)) then 0 else 1)) a4 a5 (a7 + 1)) else (lp_X4_fits_52 σ a1 a2 a6 n (a3 + (if (σ 0 3) < (f_X4_farIn σ a1 a6 a7 (σ 0 2)) then 0 else 1)) ((10 * a6) + a7) (f_X4_farIn σ a1 a6 a7 (σ 0 2)) (a7 + 1)))))
set_option maxRecDepth 20000 in
def lp_X4_fits_37 (σ : St) (a1 : Int32) (a2 : Int32) : Nat → Int32 → Int32 → Int32 → Int32 → (Int32 × Int32 × Int32)
  | 0, a3, a4, a5, a6 => (a3, a4, a5)
  | n + 1, a3, a4, a5, a6 => (if (σ 0 1) ≤ a6 then (a3, a4, a5) else (match (lp_X4_fits_52 σ a1 a2 a6 200 a3 a4 a5 (a6 + 1)) with | (v3_52e, v4_52e, v5_52e) => (lp_X4_fits_37 σ a1 a2 n v3_52e v4_52e v5_52e (a6 + 1))))
set_option maxRecDepth 20000 in
def f_X4_fits (σ : St) (p1 : Int32) (p2 : Int32) : Int32 :=
  (if (f_X4_noPaper σ p1) = 0 then (if (f_X4_in p2.toInt64 0 2) = 0 then (-2) else (match (lp_X4_fits_37 σ p1 p2 200 0 (-9) 0 0) with | (v3_37e, v4_37e, v5_37e) => (if p2 = 0 then v3_37e else (if p2 = 1 then v4_37e else v5_37e)))) else (-1))
set_option maxRecDepth 20000 in
def lp_X4_isProved_93 (σ : St) (a1 : Int32) (a2 : Int32) (a3 : Int32) (a4 : Int32) (a5 : Int32) (a7 : Int32) : Nat → Int32 → Int32 → Int32
  | 0, a6, a8 => a6
  | n + 1, a6, a8 => (if (σ 0 1) ≤ a8 then a6 else (if a6 = 0 then (lp_X4_isProved_93 σ a1 a2 a3 a4 a5 a7 n 0 (a8 + 1)) else (if a7 = a3 then (if a8 = a4 then (lp_X4_isProved_93 σ a1 a2 a3 a4 a5 a7 n 1 (a8 + 1)) else (if (f_X4_farIn σ a1 a7 a8 a2) ≤ a5 then (lp_X4_isProved_93 σ a1 a2 a3 a4 a5 a7 n 0 (a8 + 1)) else (lp_X4_isProved_93 σ a1 a2 a3 a4 a5 a7 n 1 (a8 + 1)))) else (if (f_X4_farIn σ a1 a7 a8 a2) ≤ a5 then (lp_X4_isProved_93 σ a1 a2 a3 a4 a5 a7 n 0 (a8 + 1)) else (lp_X4_isProved_93 σ a1 a2 a3 a4 a5 a7 n 1 (a8 + 1))))))
set_option maxRecDepth 20000 in
def lp_X4_isProved_78 (σ : St) (a1 : Int32) (a2 : Int32) (a3 : Int32) (a4 : Int32) (a5 : Int32) : Nat → Int32 → Int32 → Int32
  | 0, a6, a7 => a6
  | n + 1, a6, a7 => (if (σ 0 1) ≤ a7 then a6 else (lp_X4_isProved_78 σ a1 a2 a3 a4 a5 n (lp_X4_isProved_93 σ a1 a2 a3 a4 a5 a7 200 a6 (a7 + 1)) (a7 + 1)))
set_option maxRecDepth 20000 in
def f_X4_isProved (σ : St) (p1 : Int32) (p2 : Int32) : Int32 :=
  (lp_X4_isProved_78 σ p1 p2 (if (σ 7 (ix p1)) ≤ (σ 6 (ix p1)) then (σ 7 (ix p1)) else (σ 6 (ix p1))) (f_X4_greater (σ 6 (ix p1)) (σ 7 (ix p1))) (f_X4_farIn σ p1 (if (σ 7 (ix p1)) ≤ (σ 6 (ix p1)) then (σ 7 (ix p1)) else (σ 6 (ix p1))) (f_X4_greater (σ 6 (ix p1)) (σ 7 (ix p1))) p2) 200 (if (σ 0 3) < (f_X4_farIn σ p1 (if (σ 7 (ix p1)) ≤ (σ 6 (ix p1)) then (σ 7 (ix p1)) else (σ 6 (ix p1))) (f_X4_greater (σ 6 (ix p1)) (σ 7 (ix p1))) p2) then 0 else 1) 0)
set_option maxRecDepth 20000 in
def lp_X4_proved_4 (σ : St) : Nat → Int32 → Int32 → Int32
  | 0, a1, a2 => a1
  | n + 1, a1, a2 => (if (σ 0 11) ≤ a2 then a1 else (lp_X4_proved_4 σ n (a1 ||| (if (f_X4_isProved σ a2 (σ 0 2)) = 0 then 0 else ((1 : Int32) <<< (a2 &&& 31)))) (a2 + 1)))
set_option maxRecDepth 20000 in
def f_X4_proved (σ : St) : Int32 :=
  (lp_X4_proved_4 σ 200 0 0)
set_option maxRecDepth 20000 in
def lp_X4_again_15 (σ : St) (a1 : Int32) : Nat → Int32 → ((Int32) ⊕ (Unit))
  | 0, a2 => Sum.inr ()
  | n + 1, a2 => (if 99 < a2 then (Sum.inr ()) else (if (f_X4_isProved σ a1 a2) = 0 then (Sum.inl a2) else (lp_X4_again_15 σ a1 n (a2 + 1))))
set_option maxRecDepth 20000 in
def f_X4_again (σ : St) (p1 : Int32) : Int32 :=
  (if (f_X4_noPaper σ p1) = 0 then (match (lp_X4_again_15 σ p1 200 (σ 0 2)) with | Sum.inl r => r | Sum.inr _ => (-9)) else (-1))
set_option maxRecDepth 20000 in
def lp_X4_apartBy_5 (σ : St) (a1 : Int32) (a2 : Int32) : Nat → Int32 → Int32 → Int32
  | 0, a3, a4 => a3
  | n + 1, a3, a4 => (if 9 ≤ a4 then a3 else (lp_X4_apartBy_5 σ a1 a2 n (a3 + (f_X4_off (f_X4_strong σ a1 a4) (f_X4_strong σ a2 a4))) (a4 + 1)))
set_option maxRecDepth 20000 in
def f_X4_apartBy (σ : St) (p1 : Int32) (p2 : Int32) : Int32 :=
  (lp_X4_apartBy_5 σ p1 p2 200 0 0)
set_option maxRecDepth 20000 in
def f_X4_apart (σ : St) (p1 : Int32) (p2 : Int32) : Int32 :=
  (if (f_X4_noSign σ p1) = 0 then (if (f_X4_noSign σ p2) = 0 then (f_X4_apartBy σ p1 p2) else (-1)) else (-1))
set_option maxRecDepth 20000 in
def lp_X4_twins_30 (σ : St) (a1 : Int32) (a4 : Int32) : Nat → Int32 → Int32 → Int32 → (Int32 × Int32)
  | 0, a2, a3, a5 => (a2, a3)
  | n + 1, a2, a3, a5 => (if (σ 0 1) ≤ a5 then (a2, a3) else (if (σ 0 3) < (8 * (f_X4_apartBy σ a4 a5)) then (lp_X4_twins_30 σ a1 a4 n a2 a3 (a5 + 1)) else (lp_X4_twins_30 σ a1 a4 n (a2 + 1) (if a2 = a1 then ((10 * a4) + a5) else a3) (a5 + 1))))
set_option maxRecDepth 20000 in
def lp_X4_twins_15 (σ : St) (a1 : Int32) : Nat → Int32 → Int32 → Int32 → (Int32 × Int32)
  | 0, a2, a3, a4 => (a2, a3)
  | n + 1, a2, a3, a4 => (if (σ 0 1) ≤ a4 then (a2, a3) else (match (lp_X4_twins_30 σ a1 a4 200 a2 a3 (a4 + 1)) with | (v2_30e, v3_30e) => (lp_X4_twins_15 σ a1 n v2_30e v3_30e (a4 + 1))))
set_option maxRecDepth 20000 in
def f_X4_twins (σ : St) (p1 : Int32) : Int32 :=
  (if (-1) ≤ p1 then (match (lp_X4_twins_15 σ p1 200 0 (-9) 0) with | (v2_15e, v3_15e) => (if 0 ≤ p1 then v3_15e else v2_15e)) else (-1))
set_option maxRecDepth 20000 in
def lp_X4_isTaken_4 (σ : St) (a1 : Int32) : Nat → Int32 → Int32 → Int32
  | 0, a2, a3 => a2
  | n + 1, a2, a3 => (if 9 ≤ a3 then a2 else (lp_X4_isTaken_4 σ a1 n (a2 + (f_X4_off (σ 12 (ix a3)) (f_X4_strong σ a1 a3))) (a3 + 1)))
set_option maxRecDepth 20000 in
def f_X4_isTaken (σ : St) (p1 : Int32) : Int32 :=
  (if (σ 0 3) < (8 * (lp_X4_isTaken_4 σ p1 200 0 0)) then 0 else 1)
set_option maxRecDepth 20000 in
def lp_X4_bits_4  : Nat → Int32 → Int32 → Int32
  | 0, a1, a2 => a1
  | n + 1, a1, a2 => (if a2 ≤ 0 then a1 else (lp_X4_bits_4 n (a1 + (a2 &&& 1)) (a2 >>> ((1 : Int32) &&& 31))))
set_option maxRecDepth 20000 in
def f_X4_bits (p1 : Int32) : Int32 :=
  (lp_X4_bits_4 1100 0 p1)
set_option maxRecDepth 20000 in
def lp_X4_forges_3 (a1 : Int32) (a2 : Int32) (a3 : Int32) (a4 : Int32) (a5 : Int32) : Nat → Int32 → St → St
  | 0, a6, σ => σ
  | n + 1, a6, σ => (if 9 ≤ a6 then σ else (lp_X4_forges_3 a1 a2 a3 a4 a5 n (a6 + 1) (u2 σ 12 (ix a6) (f_X4_strong σ a1 a6))))
set_option maxRecDepth 20000 in
def lp_X4_forges_33 (a2 : Int32) (a3 : Int32) (a4 : Int32) (a5 : Int32) : Nat → Int32 → St → St
  | 0, a6, σ => σ
  | n + 1, a6, σ => (if a4 ≤ a6 then σ else (lp_X4_forges_33 a2 a3 a4 a5 n (a6 + 1) (u2 σ 12 (ix (σ 16 (ix (a3 + (2 * a6))))) ((σ 12 (ix (σ 16 (ix (a3 + (2 * a6)))))) + (if ((a5 >>> (a6 &&& 31)) &&& 1) = 1 then (σ 16 (ix ((a3 + (2 * a6)) + 1))) else 0)))))
set_option maxRecDepth 20000 in
def f_X4_forges (σ : St) (p1 : Int32) (p2 : Int32) (p3 : Int32) (p4 : Int32) (p5 : Int32) : Int32 × St :=
  ((f_X4_isTaken (lp_X4_forges_33 p2 p3 p4 p5 200 0 (lp_X4_forges_3 p1 p2 p3 p4 p5 200 0 σ)) p2), (lp_X4_forges_33 p2 p3 p4 p5 200 0 (lp_X4_forges_3 p1 p2 p3 p4 p5 200 0 σ)))
set_option maxRecDepth 20000 in
def lp_X4_forged_67 (σ : St) (a1 : Int32) (a2 : Int32) (a6 : Int32) (a8 : Int32) : Nat → Int32 → ((Int32 × St) ⊕ (Unit))
  | 0, a9 => Sum.inr ()
  | n + 1, a9 => (if a6 ≤ a9 then (Sum.inr ()) else (if (f_X4_noSmell (σ 16 (ix (a8 + (2 * a9))))) = 0 then (if (f_X4_in ((σ 16 (ix ((a8 + (2 * a9)) + 1))).toInt64) 1 9) = 0 then (Sum.inl ((f_X4_refused σ (-2)).1, (f_X4_refused σ (-2)).2)) else (lp_X4_forged_67 σ a1 a2 a6 a8 n (a9 + 1))) else (Sum.inl ((f_X4_refused σ (-2)).1, (f_X4_refused σ (-2)).2))))
set_option maxRecDepth 20000 in
def lp_X4_forged_137 (a1 : Int32) (a2 : Int32) (a6 : Int32) (a8 : Int32) : Nat → Int32 → Int32 → St → (Int32 × St)
  | 0, a9, a10, σ => (a9, σ)
  | n + 1, a9, a10, σ => (if ((1 : Int32) <<< (a6 &&& 31)) ≤ a10 then (a9, σ) else (if a9 < 0 then (if ((f_X4_forges σ a1 a2 a8 a6 a10).1) = 0 then (lp_X4_forged_137 a1 a2 a6 a8 n a9 (a10 + 1) ((f_X4_forges σ a1 a2 a8 a6 a10).2)) else (lp_X4_forged_137 a1 a2 a6 a8 n a10 (a10 + 1) ((f_X4_forges σ a1 a2 a8 a6 a10).2))) else (if (f_X4_bits a9) ≤ (f_X4_bits a10) then (lp_X4_forged_137 a1 a2 a6 a8 n a9 (a10 + 1) σ) else (if ((f_X4_forges σ a1 a2 a8 a6 a10).1) = 0 then (lp_X4_forged_137 a1 a2 a6 a8 n a9 (a10 + 1) ((f_X4_forges σ a1 a2 a8 a6 a10).2)) else (lp_X4_forged_137 a1 a2 a6 a8 n a10 (a10 + 1) ((f_X4_forges σ a1 a2 a8 a6 a10).2))))))
set_option maxRecDepth 20000 in
def f_X4_forged (σ : St) (p1 : Int32) (p2 : Int32) (p3 : Int32) (p4 : Int32) (p5 : Int32) (p6 : Int32) : Int32 × St :=
  (if (f_X4_areTwo σ p1 p2) = 0 then ((f_X4_refused σ (-1)).1, (f_X4_refused σ (-1)).2) else (if 0 ≤ ((f_X4_barred σ p3 p4 p5 (2 * p6.toInt64)).1) then (if p6 ≤ 10 then (match (lp_X4_forged_67 ((f_X4_barred σ p3 p4 p5 (2 * p6.toInt64)).2) p1 p2 p6 ((90 * p3) + p5) 200 0) with | Sum.inl r => r | Sum.inr _ => (match (lp_X4_forged_137 p1 p2 p6 ((90 * p3) + p5) 1100 (-9) 0 ((f_X4_barred σ p3 p4 p5 (2 * p6.toInt64)).2)) with | (v9_137e, S_137e) => ((f_X4_refused S_137e v9_137e).1, (f_X4_refused S_137e v9_137e).2))) else ((f_X4_refused ((f_X4_barred σ p3 p4 p5 (2 * p6.toInt64)).2) (-2)).1, (f_X4_refused ((f_X4_barred σ p3 p4 p5 (2 * p6.toInt64)).2) (-2)).2)) else ((f_X4_barred σ p3 p4 p5 (2 * p6.toInt64)).1, (f_X4_barred σ p3 p4 p5 (2 * p6.toInt64)).2)))
set_option maxRecDepth 20000 in
def f_X4_nearBy (σ : St) (p1 : Int32) (p2 : Int32) (p3 : Int32) (p4 : Int32) : Int32 :=
  ((f_X4_strong σ p1 p4) + ((((f_X4_strong σ p2 p4) - (f_X4_strong σ p1 p4)) * p3) / 10))
set_option maxRecDepth 20000 in
def f_X4_near (σ : St) (p1 : Int32) (p2 : Int32) (p3 : Int32) (p4 : Int32) : Int32 :=
  (if (f_X4_noSign σ p1) = 0 then (if (f_X4_noSign σ p2) = 0 then (if (f_X4_noSmell p4) = 0 then (if (f_X4_in p3.toInt64 0 10) = 0 then (-2) else (f_X4_nearBy σ p1 p2 p3 p4)) else (-1)) else (-1)) else (-1))
set_option maxRecDepth 20000 in
def lp_X4_steals_22 (a1 : Int32) (a2 : Int32) (a3 : Int32) : Nat → Int32 → St → St
  | 0, a4, σ => σ
  | n + 1, a4, σ => (if 9 ≤ a4 then σ else (lp_X4_steals_22 a1 a2 a3 n (a4 + 1) (u2 σ 12 (ix a4) (f_X4_nearBy σ a1 a2 a3 a4))))
set_option maxRecDepth 20000 in
def lp_X4_steals_13 (a1 : Int32) (a2 : Int32) : Nat → Int32 → St → ((Int32 × St) ⊕ (St))
  | 0, a3, σ => Sum.inr σ
  | n + 1, a3, σ => (if 10 < a3 then (Sum.inr σ) else (if (f_X4_isTaken (lp_X4_steals_22 a1 a2 a3 200 0 σ) a2) = 0 then (lp_X4_steals_13 a1 a2 n (a3 + 1) (lp_X4_steals_22 a1 a2 a3 200 0 σ)) else (Sum.inl (a3, (lp_X4_steals_22 a1 a2 a3 200 0 σ)))))
set_option maxRecDepth 20000 in
def f_X4_steals (σ : St) (p1 : Int32) (p2 : Int32) : Int32 × St :=
  (if (f_X4_areTwo σ p1 p2) = 0 then ((-1), σ) else (match (lp_X4_steals_13 p1 p2 200 0 σ) with | Sum.inl r => r | Sum.inr S_13e => ((-9), S_13e)))
set_option maxRecDepth 20000 in
def lp_X4_leastFar_22 (σ : St) (a1 : Int32) (a2 : Int32) (a3 : Int32) (a4 : Int32) (a5 : Int32) (a6 : Int32) : Nat → Int32 → Int32 → Int32
  | 0, a7, a8 => a7
  | n + 1, a7, a8 => (if 9 ≤ a8 then a7 else (lp_X4_leastFar_22 σ a1 a2 a3 a4 a5 a6 n (a7 + (f_X4_off (f_X4_strong σ a6 a8) (if a8 = a1 then a3 else (if a8 = a2 then a4 else 0)))) (a8 + 1)))
set_option maxRecDepth 20000 in
def lp_X4_leastFar_7 (σ : St) (a1 : Int32) (a2 : Int32) (a3 : Int32) (a4 : Int32) : Nat → Int32 → Int32 → Int32
  | 0, a5, a6 => a5
  | n + 1, a5, a6 => (if (σ 0 1) ≤ a6 then a5 else (if a5 < 0 then (lp_X4_leastFar_7 σ a1 a2 a3 a4 n (lp_X4_leastFar_22 σ a1 a2 a3 a4 a5 a6 200 0 0) (a6 + 1)) else (if a5 ≤ (lp_X4_leastFar_22 σ a1 a2 a3 a4 a5 a6 200 0 0) then (lp_X4_leastFar_7 σ a1 a2 a3 a4 n a5 (a6 + 1)) else (lp_X4_leastFar_7 σ a1 a2 a3 a4 n (lp_X4_leastFar_22 σ a1 a2 a3 a4 a5 a6 200 0 0) (a6 + 1)))))
set_option maxRecDepth 20000 in
def f_X4_leastFar (σ : St) (p1 : Int32) (p2 : Int32) (p3 : Int32) (p4 : Int32) : Int32 :=
  (lp_X4_leastFar_7 σ p1 p2 p3 p4 200 (-9) 0)
set_option maxRecDepth 20000 in
def lp_X4_fresh_56 (σ : St) (a1 : Int32) (a4 : Int32) (a5 : Int32) : Nat → Int32 → Int32 → Int32 → (Int32 × Int32)
  | 0, a2, a3, a6 => (a2, a3)
  | n + 1, a2, a3, a6 => (if 100 ≤ a6 then (a2, a3) else (if (f_X4_leastFar σ a4 a5 (a6 / 10) (a6 - (a6 / 10) * 10)) ≤ a2 then (lp_X4_fresh_56 σ a1 a4 a5 n a2 a3 (a6 + 1)) else (lp_X4_fresh_56 σ a1 a4 a5 n (f_X4_leastFar σ a4 a5 (a6 / 10) (a6 - (a6 / 10) * 10)) (((1000 * a4) + (100 * a5)) + a6) (a6 + 1))))
set_option maxRecDepth 20000 in
def lp_X4_fresh_46 (σ : St) (a1 : Int32) (a4 : Int32) : Nat → Int32 → Int32 → Int32 → (Int32 × Int32)
  | 0, a2, a3, a5 => (a2, a3)
  | n + 1, a2, a3, a5 => (if 9 ≤ a5 then (a2, a3) else (match (lp_X4_fresh_56 σ a1 a4 a5 200 a2 a3 0) with | (v2_56e, v3_56e) => (lp_X4_fresh_46 σ a1 a4 n v2_56e v3_56e (a5 + 1))))
set_option maxRecDepth 20000 in
def lp_X4_fresh_33 (σ : St) (a1 : Int32) : Nat → Int32 → Int32 → Int32 → (Int32 × Int32)
  | 0, a2, a3, a4 => (a2, a3)
  | n + 1, a2, a3, a4 => (if 9 ≤ a4 then (a2, a3) else (match (lp_X4_fresh_46 σ a1 a4 200 a2 a3 (a4 + 1)) with | (v2_46e, v3_46e) => (lp_X4_fresh_33 σ a1 n v2_46e v3_46e (a4 + 1))))
set_option maxRecDepth 20000 in
def f_X4_fresh (σ : St) (p1 : Int32) : Int32 :=
  (if (f_X4_in p1.toInt64 0 4) = 0 then (-2) else (if (σ 0 1) = 0 then (-3) else (match (lp_X4_fresh_33 σ p1 200 (-9) 0 0) with | (v2_33e, v3_33e) => (if p1 = 0 then v2_33e else (if p1 = 1 then (v3_33e / 1000) else (if p1 = 2 then ((v3_33e / 100) - ((v3_33e / 100) / 10) * 10) else (if p1 = 3 then ((v3_33e / 10) - ((v3_33e / 10) / 10) * 10) else (v3_33e - (v3_33e / 10) * 10))))))))
set_option maxRecDepth 20000 in
def lp_X4_mayBe_6 (σ : St) (a1 : Int32) (a2 : Int32) (a3 : Int32) (a4 : Int32) : Nat → Int32 → Int32 → Int32
  | 0, a5, a6 => a5
  | n + 1, a5, a6 => (if 9 ≤ a6 then a5 else (lp_X4_mayBe_6 σ a1 a2 a3 a4 n (a5 + (f_X4_off (f_X4_fades σ a1 a6 (8 * (f_X4_strong σ a1 a6)) (a2 + (a2 * a3))) (σ 16 (ix (a4 + a6))))) (a6 + 1)))
set_option maxRecDepth 20000 in
def f_X4_mayBe (σ : St) (p1 : Int32) (p2 : Int32) (p3 : Int32) (p4 : Int32) : Int32 :=
  (if (σ 0 3) < (lp_X4_mayBe_6 σ p1 p2 p3 p4 200 0 0) then 0 else 1)
set_option maxRecDepth 20000 in
def lp_X4_laysHours_13 (σ : St) (a1 : Int32) (a2 : Int32) : Nat → Int32 → Int32 → Int32
  | 0, a3, a4 => a3
  | n + 1, a3, a4 => (if 9 ≤ a4 then a3 else (if a3 = 0 then (lp_X4_laysHours_13 σ a1 a2 n 0 (a4 + 1)) else (if (f_X4_in ((σ 16 (ix (a2 + a4))).toInt64) 0 99) = 0 then (lp_X4_laysHours_13 σ a1 a2 n 0 (a4 + 1)) else (lp_X4_laysHours_13 σ a1 a2 n 1 (a4 + 1)))))
set_option maxRecDepth 20000 in
def lp_X4_laysHours_83 (a1 : Int32) (a2 : Int32) (a3 : Int32) (a4 : Int32) : Nat → Int32 → St → St
  | 0, a5, σ => σ
  | n + 1, a5, σ => (if 10 ≤ a5 then σ else (lp_X4_laysHours_83 a1 a2 a3 a4 n (a5 + 1) (u2 σ 13 (ix a4) ((σ 13 (ix a4)) + (if (f_X4_mayBe σ a4 a5 a1 a2) = 0 then 0 else 1)))))
set_option maxRecDepth 20000 in
def lp_X4_laysHours_59 (a1 : Int32) (a2 : Int32) (a3 : Int32) : Nat → Int32 → St → St
  | 0, a4, σ => σ
  | n + 1, a4, σ => (if (σ 0 1) ≤ a4 then σ else (if a3 = 0 then σ else (lp_X4_laysHours_59 a1 a2 a3 n (a4 + 1) (lp_X4_laysHours_83 a1 a2 a3 a4 200 0 (u2 σ 13 (ix a4) 0)))))
set_option maxRecDepth 20000 in
def f_X4_laysHours (σ : St) (p1 : Int32) (p2 : Int32) : Int32 × St :=
  ((lp_X4_laysHours_13 σ p1 p2 200 (f_X4_in p1.toInt64 0 3) 0), (lp_X4_laysHours_59 p1 p2 (lp_X4_laysHours_13 σ p1 p2 200 (f_X4_in p1.toInt64 0 3) 0) 200 0 σ))
set_option maxRecDepth 20000 in
def lp_X4_odds_82 (σ : St) (a1 : Int32) (a6 : Int32) : Nat → Int32 → Int32 → Int32
  | 0, a8, a9 => a8
  | n + 1, a8, a9 => (if (σ 0 1) ≤ a9 then a8 else (lp_X4_odds_82 σ a1 a6 n (a8 + (σ 13 (ix a9))) (a9 + 1)))
set_option maxRecDepth 20000 in
def f_X4_odds (σ : St) (p1 : Int32) (p2 : Int32) (p3 : Int32) (p4 : Int32) (p5 : Int32) (p6 : Int32) : Int64 × St :=
  (if (f_X4_noSign σ p1) = 0 then (if 0 ≤ ((f_X4_barred σ p3 p4 p5 9).1) then (if ((f_X4_laysHours (u2 ((f_X4_barred σ p3 p4 p5 9).2) 0 0 0) p2 ((90 * p3) + p5)).1) = 0 then ((f_X4_lost), (f_X4_laysHours (u2 ((f_X4_barred σ p3 p4 p5 9).2) 0 0 0) p2 ((90 * p3) + p5)).2) else (if (f_X4_in p6.toInt64 0 1) = 0 then ((f_X4_lost), (f_X4_laysHours (u2 ((f_X4_barred σ p3 p4 p5 9).2) 0 0 0) p2 ((90 * p3) + p5)).2) else (if (lp_X4_odds_82 ((f_X4_laysHours (u2 ((f_X4_barred σ p3 p4 p5 9).2) 0 0 0) p2 ((90 * p3) + p5)).2) p1 p6 200 0 0) = 0 then ((f_X4_lost), (f_X4_laysHours (u2 ((f_X4_barred σ p3 p4 p5 9).2) 0 0 0) p2 ((90 * p3) + p5)).2) else ((f_X4_told ((((f_X4_laysHours (u2 ((f_X4_barred σ p3 p4 p5 9).2) 0 0 0) p2 ((90 * p3) + p5)).2) 13 (ix p1)).toInt64) (lp_X4_odds_82 ((f_X4_laysHours (u2 ((f_X4_barred σ p3 p4 p5 9).2) 0 0 0) p2 ((90 * p3) + p5)).2) p1 p6 200 0 0).toInt64 p6), (f_X4_laysHours (u2 ((f_X4_barred σ p3 p4 p5 9).2) 0 0 0) p2 ((90 * p3) + p5)).2)))) else ((f_X4_lost), (f_X4_barred σ p3 p4 p5 9).2)) else ((f_X4_lost), (f_X4_refused σ (-1)).2))
set_option maxRecDepth 20000 in
def lp_X4_who_50 (σ : St) : Nat → Int32 → Int32 → Int32
  | 0, a6, a7 => a6
  | n + 1, a6, a7 => (if (σ 0 1) ≤ a7 then a6 else (if (σ 13 (ix a7)) ≤ (if 0 ≤ a6 then (σ 13 (ix a6)) else 0) then (lp_X4_who_50 σ n a6 (a7 + 1)) else (lp_X4_who_50 σ n a7 (a7 + 1))))
set_option maxRecDepth 20000 in
def f_X4_who (σ : St) (p1 : Int32) (p2 : Int32) (p3 : Int32) (p4 : Int32) : Int32 × St :=
  (if 0 ≤ ((f_X4_barred σ p2 p3 p4 9).1) then (if ((f_X4_laysHours ((f_X4_barred σ p2 p3 p4 9).2) p1 ((90 * p2) + p4)).1) = 0 then ((f_X4_refused ((f_X4_laysHours ((f_X4_barred σ p2 p3 p4 9).2) p1 ((90 * p2) + p4)).2) (-2)).1, (f_X4_refused ((f_X4_laysHours ((f_X4_barred σ p2 p3 p4 9).2) p1 ((90 * p2) + p4)).2) (-2)).2) else ((f_X4_refused ((f_X4_laysHours ((f_X4_barred σ p2 p3 p4 9).2) p1 ((90 * p2) + p4)).2) (lp_X4_who_50 ((f_X4_laysHours ((f_X4_barred σ p2 p3 p4 9).2) p1 ((90 * p2) + p4)).2) 200 (-9) 0)).1, (f_X4_refused ((f_X4_laysHours ((f_X4_barred σ p2 p3 p4 9).2) p1 ((90 * p2) + p4)).2) (lp_X4_who_50 ((f_X4_laysHours ((f_X4_barred σ p2 p3 p4 9).2) p1 ((90 * p2) + p4)).2) 200 (-9) 0)).2)) else ((f_X4_barred σ p2 p3 p4 9).1, (f_X4_barred σ p2 p3 p4 9).2))
set_option maxRecDepth 20000 in
def lp_X4_sheet_65 (a1 : Int32) (a3 : Int32) : Nat → Int32 → St → St
  | 0, a4, σ => σ
  | n + 1, a4, σ => (if a3 ≤ a4 then σ else (lp_X4_sheet_65 a1 a3 n (a4 + 1) (u2 σ 16 (ix ((90 * a1) + a4)) 0)))
set_option maxRecDepth 20000 in
def f_X4_sheet (σ : St) (p1 : Int32) (p2 : Int32) (p3 : Int32) : Int32 × St :=
  (if (f_X4_noSheet p1) = 0 then (if (f_X4_in p2.toInt64 0 2) = 0 then ((f_X4_refused σ (-2)).1, (f_X4_refused σ (-2)).2) else (if p3 ≤ 90 then (if 0 ≤ p3 then ((f_X4_refused (lp_X4_sheet_65 p1 p3 200 0 (u2 (u2 σ 14 (ix p1) p3) 15 (ix p1) p2)) 1).1, (f_X4_refused (lp_X4_sheet_65 p1 p3 200 0 (u2 (u2 σ 14 (ix p1) p3) 15 (ix p1) p2)) 1).2) else ((f_X4_failed σ 4).1, (f_X4_failed σ 4).2)) else ((f_X4_refused σ (-2)).1, (f_X4_refused σ (-2)).2))) else ((f_X4_refused σ (-1)).1, (f_X4_refused σ (-1)).2))
set_option maxRecDepth 20000 in
def f_X4_lose (σ : St) (p1 : Int32) : Int32 × St :=
  (if (f_X4_noSheet p1) = 0 then ((if 0 ≤ (σ 14 (ix p1)) then 1 else 0), (u2 σ 14 (ix p1) (-1))) else ((-1), σ))
set_option maxRecDepth 20000 in
def f_X4_noCell (σ : St) (p1 : Int32) (p2 : Int32) : Int32 :=
  (if 0 ≤ (σ 14 (ix p1)) then (if (f_X4_in p2.toInt64 0 (((σ 14 (ix p1)).toInt64) - 1)) = 0 then 3 else 0) else 1)
set_option maxRecDepth 20000 in
def f_X4_put (σ : St) (p1 : Int32) (p2 : Int32) (p3 : Int32) : Int32 × St :=
  (if (f_X4_noSheet p1) = 0 then (if (f_X4_noCell σ p1 p2) ≤ 0 then ((f_X4_refused (u2 σ 16 (ix ((90 * p1) + p2)) (if (σ 15 (ix p1)) = 0 then p3.toInt8.toInt32 else (if (σ 15 (ix p1)) = 1 then p3.toInt16.toInt32 else p3))) 1).1, (f_X4_refused (u2 σ 16 (ix ((90 * p1) + p2)) (if (σ 15 (ix p1)) = 0 then p3.toInt8.toInt32 else (if (σ 15 (ix p1)) = 1 then p3.toInt16.toInt32 else p3))) 1).2) else ((f_X4_failed σ (f_X4_noCell σ p1 p2)).1, (f_X4_failed σ (f_X4_noCell σ p1 p2)).2)) else ((f_X4_refused σ (-1)).1, (f_X4_refused σ (-1)).2))
set_option maxRecDepth 20000 in
def f_X4_cell (σ : St) (p1 : Int32) (p2 : Int32) (p3 : Int32) : Int64 × St :=
  (if (f_X4_noSheet p1) = 0 then (if (f_X4_in p3.toInt64 0 2) = 0 then ((f_X4_lost), (u2 σ 0 0 0)) else (if ((u2 σ 0 0 0) 14 (ix p1)) < 0 then (if (f_X4_noCell (u2 σ 0 0 0) p1 p2) ≤ 0 then (((u2 σ 0 0 0) 16 (ix ((90 * p1) + p2))).toInt64, (u2 σ 0 0 0)) else ((f_X4_failedLong (u2 σ 0 0 0) (f_X4_noCell (u2 σ 0 0 0) p1 p2)).1, (f_X4_failedLong (u2 σ 0 0 0) (f_X4_noCell (u2 σ 0 0 0) p1 p2)).2)) else (if ((u2 σ 0 0 0) 15 (ix p1)) = p3 then (if (f_X4_noCell (u2 σ 0 0 0) p1 p2) ≤ 0 then (((u2 σ 0 0 0) 16 (ix ((90 * p1) + p2))).toInt64, (u2 σ 0 0 0)) else ((f_X4_failedLong (u2 σ 0 0 0) (f_X4_noCell (u2 σ 0 0 0) p1 p2)).1, (f_X4_failedLong (u2 σ 0 0 0) (f_X4_noCell (u2 σ 0 0 0) p1 p2)).2)) else ((f_X4_failedLong (u2 σ 0 0 0) 2).1, (f_X4_failedLong (u2 σ 0 0 0) 2).2)))) else ((f_X4_lost), (u2 σ 0 0 0)))
set_option maxRecDepth 20000 in
def lp_X4_copy_107 (a1 : Int32) (a2 : Int32) (a3 : Int32) (a4 : Int32) (a5 : Int32) : Nat → Int32 → St → St
  | 0, a6, σ => σ
  | n + 1, a6, σ => (if a5 ≤ a6 then σ else (lp_X4_copy_107 a1 a2 a3 a4 a5 n (a6 + 1) (u2 σ 17 (ix a6) (σ 16 (ix (((90 * a1) + a2) + a6))))))
set_option maxRecDepth 20000 in
def lp_X4_copy_144 (a3 : Int32) (a4 : Int32) (a5 : Int32) : Nat → Int32 → St → St
  | 0, a6, σ => σ
  | n + 1, a6, σ => (if a5 ≤ a6 then σ else (lp_X4_copy_144 a3 a4 a5 n (a6 + 1) (u2 σ 16 (ix (((90 * a3) + a4) + a6)) (σ 17 (ix a6)))))
set_option maxRecDepth 20000 in
def f_X4_copy (σ : St) (p1 : Int32) (p2 : Int32) (p3 : Int32) (p4 : Int32) (p5 : Int32) : Int32 × St :=
  (if (f_X4_noSheet p1) = 0 then (if (f_X4_noSheet p3) = 0 then (if (σ 14 (ix p1)) < 0 then ((f_X4_failed σ 1).1, (f_X4_failed σ 1).2) else (if 0 ≤ (σ 14 (ix p3)) then (if (σ 15 (ix p1)) = (σ 15 (ix p3)) then (if (f_X4_isBeyond p2 p5.toInt64 (σ 14 (ix p1))) = 0 then (if (f_X4_isBeyond p4 p5.toInt64 (σ 14 (ix p3))) = 0 then ((f_X4_refused (lp_X4_copy_144 p3 p4 p5 200 0 (lp_X4_copy_107 p1 p2 p3 p4 p5 200 0 σ)) p5).1, (f_X4_refused (lp_X4_copy_144 p3 p4 p5 200 0 (lp_X4_copy_107 p1 p2 p3 p4 p5 200 0 σ)) p5).2) else ((f_X4_failed σ 3).1, (f_X4_failed σ 3).2)) else ((f_X4_failed σ 3).1, (f_X4_failed σ 3).2)) else ((f_X4_failed σ 2).1, (f_X4_failed σ 2).2)) else ((f_X4_failed σ 1).1, (f_X4_failed σ 1).2))) else ((f_X4_refused σ (-1)).1, (f_X4_refused σ (-1)).2)) else ((f_X4_refused σ (-1)).1, (f_X4_refused σ (-1)).2))
set_option maxRecDepth 20000 in
def f_X4_traced (σ : St) (p1 : Int32) : St :=
  (u2 σ 0 24 ((31 * (σ 0 24)) + p1))
set_option maxRecDepth 20000 in
def f_X4_tell (σ : St) (p1 : Int32) : Int32 × St :=
  (if (f_X4_noSign σ p1) = 0 then (if (σ 1 (ix p1)) = 0 then ((f_X4_strong (if (σ 1 (ix p1)) = 2 then (f_X4_traced (f_X4_traced (if (σ 1 (ix p1)) ≤ 0 then (if (σ 1 (ix p1)) = 2 then (f_X4_traced σ 3) else σ) else (f_X4_traced (if (σ 1 (ix p1)) = 2 then (f_X4_traced σ 3) else σ) 2)) 1) 1) else (f_X4_traced (if (σ 1 (ix p1)) ≤ 0 then (if (σ 1 (ix p1)) = 2 then (f_X4_traced σ 3) else σ) else (f_X4_traced (if (σ 1 (ix p1)) = 2 then (f_X4_traced σ 3) else σ) 2)) 1)) p1 0), (if (σ 1 (ix p1)) = 2 then (f_X4_traced (f_X4_traced (if (σ 1 (ix p1)) ≤ 0 then (if (σ 1 (ix p1)) = 2 then (f_X4_traced σ 3) else σ) else (f_X4_traced (if (σ 1 (ix p1)) = 2 then (f_X4_traced σ 3) else σ) 2)) 1) 1) else (f_X4_traced (if (σ 1 (ix p1)) ≤ 0 then (if (σ 1 (ix p1)) = 2 then (f_X4_traced σ 3) else σ) else (f_X4_traced (if (σ 1 (ix p1)) = 2 then (f_X4_traced σ 3) else σ) 2)) 1))) else (if (σ 1 (ix p1)) = 1 then (((f_X4_strong (if (σ 1 (ix p1)) = 2 then (f_X4_traced (f_X4_traced (if (σ 1 (ix p1)) ≤ 0 then (if (σ 1 (ix p1)) = 2 then (f_X4_traced σ 3) else σ) else (f_X4_traced (if (σ 1 (ix p1)) = 2 then (f_X4_traced σ 3) else σ) 2)) 1) 1) else (f_X4_traced (if (σ 1 (ix p1)) ≤ 0 then (if (σ 1 (ix p1)) = 2 then (f_X4_traced σ 3) else σ) else (f_X4_traced (if (σ 1 (ix p1)) = 2 then (f_X4_traced σ 3) else σ) 2)) 1)) p1 0) + 100), (if (σ 1 (ix p1)) = 2 then (f_X4_traced (f_X4_traced (if (σ 1 (ix p1)) ≤ 0 then (if (σ 1 (ix p1)) = 2 then (f_X4_traced σ 3) else σ) else (f_X4_traced (if (σ 1 (ix p1)) = 2 then (f_X4_traced σ 3) else σ) 2)) 1) 1) else (f_X4_traced (if (σ 1 (ix p1)) ≤ 0 then (if (σ 1 (ix p1)) = 2 then (f_X4_traced σ 3) else σ) else (f_X4_traced (if (σ 1 (ix p1)) = 2 then (f_X4_traced σ 3) else σ) 2)) 1))) else (((2 * (f_X4_strong (if (σ 1 (ix p1)) = 2 then (f_X4_traced (f_X4_traced (if (σ 1 (ix p1)) ≤ 0 then (if (σ 1 (ix p1)) = 2 then (f_X4_traced σ 3) else σ) else (f_X4_traced (if (σ 1 (ix p1)) = 2 then (f_X4_traced σ 3) else σ) 2)) 1) 1) else (f_X4_traced (if (σ 1 (ix p1)) ≤ 0 then (if (σ 1 (ix p1)) = 2 then (f_X4_traced σ 3) else σ) else (f_X4_traced (if (σ 1 (ix p1)) = 2 then (f_X4_traced σ 3) else σ) 2)) 1)) p1 0)) + 100), (if (σ 1 (ix p1)) = 2 then (f_X4_traced (f_X4_traced (if (σ 1 (ix p1)) ≤ 0 then (if (σ 1 (ix p1)) = 2 then (f_X4_traced σ 3) else σ) else (f_X4_traced (if (σ 1 (ix p1)) = 2 then (f_X4_traced σ 3) else σ) 2)) 1) 1) else (f_X4_traced (if (σ 1 (ix p1)) ≤ 0 then (if (σ 1 (ix p1)) = 2 then (f_X4_traced σ 3) else σ) else (f_X4_traced (if (σ 1 (ix p1)) = 2 then (f_X4_traced σ 3) else σ) 2)) 1))))) else ((-1), σ))
set_option maxRecDepth 20000 in
def f_X4_stop (σ : St) (p1 : Int32) : Int32 × St :=
  (if (f_X4_noSign σ p1) = 0 then (if ((f_X4_traced σ (if (σ 1 (ix p1)) = 2 then 5 else 4)) 1 (ix p1)) = 2 then (90, (f_X4_traced σ (if (σ 1 (ix p1)) = 2 then 5 else 4))) else (p1, (f_X4_traced σ (if (σ 1 (ix p1)) = 2 then 5 else 4)))) else ((-1), σ))
set_option maxRecDepth 20000 in
def f_X4_as (σ : St) (p1 : Int32) (p2 : Int32) : Int32 × St :=
  (if (f_X4_noSign σ p1) = 0 then (if (f_X4_in p2.toInt64 0 2) = 0 then ((f_X4_refused σ (-2)).1, (f_X4_refused σ (-2)).2) else (if (σ 1 (ix p1)) < p2 then ((f_X4_failed σ 2).1, (f_X4_failed σ 2).2) else ((f_X4_refused σ 1).1, (f_X4_refused σ 1).2))) else ((f_X4_refused σ (-1)).1, (f_X4_refused σ (-1)).2))
set_option maxRecDepth 20000 in
def f_X4_trace (σ : St) : Int32 :=
  (σ 0 24)
set_option maxRecDepth 20000 in
def f_X4_fault (σ : St) : Int32 :=
  (σ 0 0)
set_option maxRecDepth 20000 in
def f_X4_many (σ : St) (p1 : Int32) : Int32 :=
  (if p1 = 0 then (σ 0 1) else (if p1 = 1 then (σ 0 11) else (if p1 = 2 then (σ 0 2) else (if p1 = 3 then (σ 0 3) else (-2)))))
theorem hd_J6_bitCount_0f7a4 : yJ6_bitCount_0f7a4.cls ≠ "java/lang/invoke/MethodHandle" ∧ yJ6_bitCount_0f7a4.cls ≠ "java/lang/invoke/VarHandle" ∧ (parseMethodDescriptor yJ6_bitCount_0f7a4.desc).map (fun d => d.parameters.length) = some 1 := by decide +kernel
theorem hd_X1_renew : yX1_renew.cls ≠ "java/lang/invoke/MethodHandle" ∧ yX1_renew.cls ≠ "java/lang/invoke/VarHandle" ∧ (parseMethodDescriptor yX1_renew.desc).map (fun d => d.parameters.length) = some 2 := by decide +kernel
theorem hd_X1_cut : yX1_cut.cls ≠ "java/lang/invoke/MethodHandle" ∧ yX1_cut.cls ≠ "java/lang/invoke/VarHandle" ∧ (parseMethodDescriptor yX1_cut.desc).map (fun d => d.parameters.length) = some 1 := by decide +kernel
theorem hd_X1_lacks : yX1_lacks.cls ≠ "java/lang/invoke/MethodHandle" ∧ yX1_lacks.cls ≠ "java/lang/invoke/VarHandle" ∧ (parseMethodDescriptor yX1_lacks.desc).map (fun d => d.parameters.length) = some 2 := by decide +kernel
theorem hd_X3_isSheet : yX3_isSheet.cls ≠ "java/lang/invoke/MethodHandle" ∧ yX3_isSheet.cls ≠ "java/lang/invoke/VarHandle" ∧ (parseMethodDescriptor yX3_isSheet.desc).map (fun d => d.parameters.length) = some 1 := by decide +kernel
theorem hd_X3_refused : yX3_refused.cls ≠ "java/lang/invoke/MethodHandle" ∧ yX3_refused.cls ≠ "java/lang/invoke/VarHandle" ∧ (parseMethodDescriptor yX3_refused.desc).map (fun d => d.parameters.length) = some 1 := by decide +kernel
theorem hd_X3_isLane : yX3_isLane.cls ≠ "java/lang/invoke/MethodHandle" ∧ yX3_isLane.cls ≠ "java/lang/invoke/VarHandle" ∧ (parseMethodDescriptor yX3_isLane.desc).map (fun d => d.parameters.length) = some 1 := by decide +kernel
theorem hd_X3_faulted : yX3_faulted.cls ≠ "java/lang/invoke/MethodHandle" ∧ yX3_faulted.cls ≠ "java/lang/invoke/VarHandle" ∧ (parseMethodDescriptor yX3_faulted.desc).map (fun d => d.parameters.length) = some 1 := by decide +kernel
theorem hd_X3_spanRefusal : yX3_spanRefusal.cls ≠ "java/lang/invoke/MethodHandle" ∧ yX3_spanRefusal.cls ≠ "java/lang/invoke/VarHandle" ∧ (parseMethodDescriptor yX3_spanRefusal.desc).map (fun d => d.parameters.length) = some 4 := by decide +kernel
theorem hd_X3_kindOf : yX3_kindOf.cls ≠ "java/lang/invoke/MethodHandle" ∧ yX3_kindOf.cls ≠ "java/lang/invoke/VarHandle" ∧ (parseMethodDescriptor yX3_kindOf.desc).map (fun d => d.parameters.length) = some 1 := by decide +kernel
theorem hd_X3_goesOn : yX3_goesOn.cls ≠ "java/lang/invoke/MethodHandle" ∧ yX3_goesOn.cls ≠ "java/lang/invoke/VarHandle" ∧ (parseMethodDescriptor yX3_goesOn.desc).map (fun d => d.parameters.length) = some 2 := by decide +kernel
theorem hd_X3_textFault : yX3_textFault.cls ≠ "java/lang/invoke/MethodHandle" ∧ yX3_textFault.cls ≠ "java/lang/invoke/VarHandle" ∧ (parseMethodDescriptor yX3_textFault.desc).map (fun d => d.parameters.length) = some 3 := by decide +kernel
theorem hd_X3_takeText : yX3_takeText.cls ≠ "java/lang/invoke/MethodHandle" ∧ yX3_takeText.cls ≠ "java/lang/invoke/VarHandle" ∧ (parseMethodDescriptor yX3_takeText.desc).map (fun d => d.parameters.length) = some 3 := by decide +kernel
theorem hd_X3_startAnew : yX3_startAnew.cls ≠ "java/lang/invoke/MethodHandle" ∧ yX3_startAnew.cls ≠ "java/lang/invoke/VarHandle" ∧ (parseMethodDescriptor yX3_startAnew.desc).map (fun d => d.parameters.length) = some 0 := by decide +kernel
theorem hd_X3_register : yX3_register.cls ≠ "java/lang/invoke/MethodHandle" ∧ yX3_register.cls ≠ "java/lang/invoke/VarHandle" ∧ (parseMethodDescriptor yX3_register.desc).map (fun d => d.parameters.length) = some 4 := by decide +kernel
theorem hd_X3_isSign : yX3_isSign.cls ≠ "java/lang/invoke/MethodHandle" ∧ yX3_isSign.cls ≠ "java/lang/invoke/VarHandle" ∧ (parseMethodDescriptor yX3_isSign.desc).map (fun d => d.parameters.length) = some 1 := by decide +kernel
theorem hd_X3_ofSign : yX3_ofSign.cls ≠ "java/lang/invoke/MethodHandle" ∧ yX3_ofSign.cls ≠ "java/lang/invoke/VarHandle" ∧ (parseMethodDescriptor yX3_ofSign.desc).map (fun d => d.parameters.length) = some 2 := by decide +kernel
theorem hd_X3_isSmell : yX3_isSmell.cls ≠ "java/lang/invoke/MethodHandle" ∧ yX3_isSmell.cls ≠ "java/lang/invoke/VarHandle" ∧ (parseMethodDescriptor yX3_isSmell.desc).map (fun d => d.parameters.length) = some 1 := by decide +kernel
theorem hd_X3_half : yX3_half.cls ≠ "java/lang/invoke/MethodHandle" ∧ yX3_half.cls ≠ "java/lang/invoke/VarHandle" ∧ (parseMethodDescriptor yX3_half.desc).map (fun d => d.parameters.length) = some 2 := by decide +kernel
theorem hd_X3_bound : yX3_bound.cls ≠ "java/lang/invoke/MethodHandle" ∧ yX3_bound.cls ≠ "java/lang/invoke/VarHandle" ∧ (parseMethodDescriptor yX3_bound.desc).map (fun d => d.parameters.length) = some 1 := by decide +kernel
theorem hd_X3_year : yX3_year.cls ≠ "java/lang/invoke/MethodHandle" ∧ yX3_year.cls ≠ "java/lang/invoke/VarHandle" ∧ (parseMethodDescriptor yX3_year.desc).map (fun d => d.parameters.length) = some 1 := by decide +kernel
theorem hd_X3_fade : yX3_fade.cls ≠ "java/lang/invoke/MethodHandle" ∧ yX3_fade.cls ≠ "java/lang/invoke/VarHandle" ∧ (parseMethodDescriptor yX3_fade.desc).map (fun d => d.parameters.length) = some 4 := by decide +kernel
theorem hd_X3_faded : yX3_faded.cls ≠ "java/lang/invoke/MethodHandle" ∧ yX3_faded.cls ≠ "java/lang/invoke/VarHandle" ∧ (parseMethodDescriptor yX3_faded.desc).map (fun d => d.parameters.length) = some 4 := by decide +kernel
theorem hd_X3_areTwoSigns : yX3_areTwoSigns.cls ≠ "java/lang/invoke/MethodHandle" ∧ yX3_areTwoSigns.cls ≠ "java/lang/invoke/VarHandle" ∧ (parseMethodDescriptor yX3_areTwoSigns.desc).map (fun d => d.parameters.length) = some 2 := by decide +kernel
theorem hd_X3_paper : yX3_paper.cls ≠ "java/lang/invoke/MethodHandle" ∧ yX3_paper.cls ≠ "java/lang/invoke/VarHandle" ∧ (parseMethodDescriptor yX3_paper.desc).map (fun d => d.parameters.length) = some 3 := by decide +kernel
theorem hd_X3_isPaper : yX3_isPaper.cls ≠ "java/lang/invoke/MethodHandle" ∧ yX3_isPaper.cls ≠ "java/lang/invoke/VarHandle" ∧ (parseMethodDescriptor yX3_isPaper.desc).map (fun d => d.parameters.length) = some 1 := by decide +kernel
theorem hd_X3_ofPaper : yX3_ofPaper.cls ≠ "java/lang/invoke/MethodHandle" ∧ yX3_ofPaper.cls ≠ "java/lang/invoke/VarHandle" ∧ (parseMethodDescriptor yX3_ofPaper.desc).map (fun d => d.parameters.length) = some 2 := by decide +kernel
theorem hd_X3_isWashed : yX3_isWashed.cls ≠ "java/lang/invoke/MethodHandle" ∧ yX3_isWashed.cls ≠ "java/lang/invoke/VarHandle" ∧ (parseMethodDescriptor yX3_isWashed.desc).map (fun d => d.parameters.length) = some 2 := by decide +kernel
theorem hd_X3_fadedInk : yX3_fadedInk.cls ≠ "java/lang/invoke/MethodHandle" ∧ yX3_fadedInk.cls ≠ "java/lang/invoke/VarHandle" ∧ (parseMethodDescriptor yX3_fadedInk.desc).map (fun d => d.parameters.length) = some 3 := by decide +kernel
theorem hd_X3_smellOf : yX3_smellOf.cls ≠ "java/lang/invoke/MethodHandle" ∧ yX3_smellOf.cls ≠ "java/lang/invoke/VarHandle" ∧ (parseMethodDescriptor yX3_smellOf.desc).map (fun d => d.parameters.length) = some 3 := by decide +kernel
theorem hd_X3_smells : yX3_smells.cls ≠ "java/lang/invoke/MethodHandle" ∧ yX3_smells.cls ≠ "java/lang/invoke/VarHandle" ∧ (parseMethodDescriptor yX3_smells.desc).map (fun d => d.parameters.length) = some 3 := by decide +kernel
theorem hd_X3_wash : yX3_wash.cls ≠ "java/lang/invoke/MethodHandle" ∧ yX3_wash.cls ≠ "java/lang/invoke/VarHandle" ∧ (parseMethodDescriptor yX3_wash.desc).map (fun d => d.parameters.length) = some 2 := by decide +kernel
theorem hd_X3_flood : yX3_flood.cls ≠ "java/lang/invoke/MethodHandle" ∧ yX3_flood.cls ≠ "java/lang/invoke/VarHandle" ∧ (parseMethodDescriptor yX3_flood.desc).map (fun d => d.parameters.length) = some 1 := by decide +kernel
theorem hd_X3_smellPaper : yX3_smellPaper.cls ≠ "java/lang/invoke/MethodHandle" ∧ yX3_smellPaper.cls ≠ "java/lang/invoke/VarHandle" ∧ (parseMethodDescriptor yX3_smellPaper.desc).map (fun d => d.parameters.length) = some 2 := by decide +kernel
theorem hd_X3_smeltFrom : yX3_smeltFrom.cls ≠ "java/lang/invoke/MethodHandle" ∧ yX3_smeltFrom.cls ≠ "java/lang/invoke/VarHandle" ∧ (parseMethodDescriptor yX3_smeltFrom.desc).map (fun d => d.parameters.length) = some 2 := by decide +kernel
theorem hd_X3_far : yX3_far.cls ≠ "java/lang/invoke/MethodHandle" ∧ yX3_far.cls ≠ "java/lang/invoke/VarHandle" ∧ (parseMethodDescriptor yX3_far.desc).map (fun d => d.parameters.length) = some 3 := by decide +kernel
theorem hd_X3_pairNumber : yX3_pairNumber.cls ≠ "java/lang/invoke/MethodHandle" ∧ yX3_pairNumber.cls ≠ "java/lang/invoke/VarHandle" ∧ (parseMethodDescriptor yX3_pairNumber.desc).map (fun d => d.parameters.length) = some 2 := by decide +kernel
theorem hd_X3_fits : yX3_fits.cls ≠ "java/lang/invoke/MethodHandle" ∧ yX3_fits.cls ≠ "java/lang/invoke/VarHandle" ∧ (parseMethodDescriptor yX3_fits.desc).map (fun d => d.parameters.length) = some 2 := by decide +kernel
theorem hd_X3_isProved : yX3_isProved.cls ≠ "java/lang/invoke/MethodHandle" ∧ yX3_isProved.cls ≠ "java/lang/invoke/VarHandle" ∧ (parseMethodDescriptor yX3_isProved.desc).map (fun d => d.parameters.length) = some 2 := by decide +kernel
theorem hd_X3_proved : yX3_proved.cls ≠ "java/lang/invoke/MethodHandle" ∧ yX3_proved.cls ≠ "java/lang/invoke/VarHandle" ∧ (parseMethodDescriptor yX3_proved.desc).map (fun d => d.parameters.length) = some 0 := by decide +kernel
theorem hd_X3_again : yX3_again.cls ≠ "java/lang/invoke/MethodHandle" ∧ yX3_again.cls ≠ "java/lang/invoke/VarHandle" ∧ (parseMethodDescriptor yX3_again.desc).map (fun d => d.parameters.length) = some 1 := by decide +kernel
theorem hd_X3_apartOf : yX3_apartOf.cls ≠ "java/lang/invoke/MethodHandle" ∧ yX3_apartOf.cls ≠ "java/lang/invoke/VarHandle" ∧ (parseMethodDescriptor yX3_apartOf.desc).map (fun d => d.parameters.length) = some 2 := by decide +kernel
theorem hd_X3_apart : yX3_apart.cls ≠ "java/lang/invoke/MethodHandle" ∧ yX3_apart.cls ≠ "java/lang/invoke/VarHandle" ∧ (parseMethodDescriptor yX3_apart.desc).map (fun d => d.parameters.length) = some 2 := by decide +kernel
theorem hd_X3_areAlike : yX3_areAlike.cls ≠ "java/lang/invoke/MethodHandle" ∧ yX3_areAlike.cls ≠ "java/lang/invoke/VarHandle" ∧ (parseMethodDescriptor yX3_areAlike.desc).map (fun d => d.parameters.length) = some 2 := by decide +kernel
theorem hd_X3_twins : yX3_twins.cls ≠ "java/lang/invoke/MethodHandle" ∧ yX3_twins.cls ≠ "java/lang/invoke/VarHandle" ∧ (parseMethodDescriptor yX3_twins.desc).map (fun d => d.parameters.length) = some 1 := by decide +kernel
theorem hd_X3_areStoppers : yX3_areStoppers.cls ≠ "java/lang/invoke/MethodHandle" ∧ yX3_areStoppers.cls ≠ "java/lang/invoke/VarHandle" ∧ (parseMethodDescriptor yX3_areStoppers.desc).map (fun d => d.parameters.length) = some 3 := by decide +kernel
theorem hd_X3_isTakenFor : yX3_isTakenFor.cls ≠ "java/lang/invoke/MethodHandle" ∧ yX3_isTakenFor.cls ≠ "java/lang/invoke/VarHandle" ∧ (parseMethodDescriptor yX3_isTakenFor.desc).map (fun d => d.parameters.length) = some 5 := by decide +kernel
theorem hd_X3_forged : yX3_forged.cls ≠ "java/lang/invoke/MethodHandle" ∧ yX3_forged.cls ≠ "java/lang/invoke/VarHandle" ∧ (parseMethodDescriptor yX3_forged.desc).map (fun d => d.parameters.length) = some 6 := by decide +kernel
theorem hd_X3_strengthNear : yX3_strengthNear.cls ≠ "java/lang/invoke/MethodHandle" ∧ yX3_strengthNear.cls ≠ "java/lang/invoke/VarHandle" ∧ (parseMethodDescriptor yX3_strengthNear.desc).map (fun d => d.parameters.length) = some 4 := by decide +kernel
theorem hd_X3_near : yX3_near.cls ≠ "java/lang/invoke/MethodHandle" ∧ yX3_near.cls ≠ "java/lang/invoke/VarHandle" ∧ (parseMethodDescriptor yX3_near.desc).map (fun d => d.parameters.length) = some 4 := by decide +kernel
theorem hd_X3_steals : yX3_steals.cls ≠ "java/lang/invoke/MethodHandle" ∧ yX3_steals.cls ≠ "java/lang/invoke/VarHandle" ∧ (parseMethodDescriptor yX3_steals.desc).map (fun d => d.parameters.length) = some 2 := by decide +kernel
theorem hd_X3_leastApart : yX3_leastApart.cls ≠ "java/lang/invoke/MethodHandle" ∧ yX3_leastApart.cls ≠ "java/lang/invoke/VarHandle" ∧ (parseMethodDescriptor yX3_leastApart.desc).map (fun d => d.parameters.length) = some 4 := by decide +kernel
theorem hd_X3_tryStrengths : yX3_tryStrengths.cls ≠ "java/lang/invoke/MethodHandle" ∧ yX3_tryStrengths.cls ≠ "java/lang/invoke/VarHandle" ∧ (parseMethodDescriptor yX3_tryStrengths.desc).map (fun d => d.parameters.length) = some 2 := by decide +kernel
theorem hd_X3_seekNewSmell : yX3_seekNewSmell.cls ≠ "java/lang/invoke/MethodHandle" ∧ yX3_seekNewSmell.cls ≠ "java/lang/invoke/VarHandle" ∧ (parseMethodDescriptor yX3_seekNewSmell.desc).map (fun d => d.parameters.length) = some 0 := by decide +kernel
theorem hd_X3_fresh : yX3_fresh.cls ≠ "java/lang/invoke/MethodHandle" ∧ yX3_fresh.cls ≠ "java/lang/invoke/VarHandle" ∧ (parseMethodDescriptor yX3_fresh.desc).map (fun d => d.parameters.length) = some 1 := by decide +kernel
theorem hd_X3_isDoor : yX3_isDoor.cls ≠ "java/lang/invoke/MethodHandle" ∧ yX3_isDoor.cls ≠ "java/lang/invoke/VarHandle" ∧ (parseMethodDescriptor yX3_isDoor.desc).map (fun d => d.parameters.length) = some 3 := by decide +kernel
theorem hd_X3_leftFrom : yX3_leftFrom.cls ≠ "java/lang/invoke/MethodHandle" ∧ yX3_leftFrom.cls ≠ "java/lang/invoke/VarHandle" ∧ (parseMethodDescriptor yX3_leftFrom.desc).map (fun d => d.parameters.length) = some 4 := by decide +kernel
theorem hd_X3_countHours : yX3_countHours.cls ≠ "java/lang/invoke/MethodHandle" ∧ yX3_countHours.cls ≠ "java/lang/invoke/VarHandle" ∧ (parseMethodDescriptor yX3_countHours.desc).map (fun d => d.parameters.length) = some 3 := by decide +kernel
theorem hd_X3_ofShare : yX3_ofShare.cls ≠ "java/lang/invoke/MethodHandle" ∧ yX3_ofShare.cls ≠ "java/lang/invoke/VarHandle" ∧ (parseMethodDescriptor yX3_ofShare.desc).map (fun d => d.parameters.length) = some 3 := by decide +kernel
theorem hd_X3_odds : yX3_odds.cls ≠ "java/lang/invoke/MethodHandle" ∧ yX3_odds.cls ≠ "java/lang/invoke/VarHandle" ∧ (parseMethodDescriptor yX3_odds.desc).map (fun d => d.parameters.length) = some 6 := by decide +kernel
theorem hd_X3_who : yX3_who.cls ≠ "java/lang/invoke/MethodHandle" ∧ yX3_who.cls ≠ "java/lang/invoke/VarHandle" ∧ (parseMethodDescriptor yX3_who.desc).map (fun d => d.parameters.length) = some 4 := by decide +kernel
theorem hd_X3_sheet : yX3_sheet.cls ≠ "java/lang/invoke/MethodHandle" ∧ yX3_sheet.cls ≠ "java/lang/invoke/VarHandle" ∧ (parseMethodDescriptor yX3_sheet.desc).map (fun d => d.parameters.length) = some 3 := by decide +kernel
theorem hd_X3_lose : yX3_lose.cls ≠ "java/lang/invoke/MethodHandle" ∧ yX3_lose.cls ≠ "java/lang/invoke/VarHandle" ∧ (parseMethodDescriptor yX3_lose.desc).map (fun d => d.parameters.length) = some 1 := by decide +kernel
theorem hd_X3_put : yX3_put.cls ≠ "java/lang/invoke/MethodHandle" ∧ yX3_put.cls ≠ "java/lang/invoke/VarHandle" ∧ (parseMethodDescriptor yX3_put.desc).map (fun d => d.parameters.length) = some 3 := by decide +kernel
theorem hd_X3_cell : yX3_cell.cls ≠ "java/lang/invoke/MethodHandle" ∧ yX3_cell.cls ≠ "java/lang/invoke/VarHandle" ∧ (parseMethodDescriptor yX3_cell.desc).map (fun d => d.parameters.length) = some 3 := by decide +kernel
theorem hd_X3_copy : yX3_copy.cls ≠ "java/lang/invoke/MethodHandle" ∧ yX3_copy.cls ≠ "java/lang/invoke/VarHandle" ∧ (parseMethodDescriptor yX3_copy.desc).map (fun d => d.parameters.length) = some 5 := by decide +kernel
theorem hd_X3_leaveTrace : yX3_leaveTrace.cls ≠ "java/lang/invoke/MethodHandle" ∧ yX3_leaveTrace.cls ≠ "java/lang/invoke/VarHandle" ∧ (parseMethodDescriptor yX3_leaveTrace.desc).map (fun d => d.parameters.length) = some 1 := by decide +kernel
theorem hd_X3_personTells : yX3_personTells.cls ≠ "java/lang/invoke/MethodHandle" ∧ yX3_personTells.cls ≠ "java/lang/invoke/VarHandle" ∧ (parseMethodDescriptor yX3_personTells.desc).map (fun d => d.parameters.length) = some 1 := by decide +kernel
theorem hd_X3_fieldTells : yX3_fieldTells.cls ≠ "java/lang/invoke/MethodHandle" ∧ yX3_fieldTells.cls ≠ "java/lang/invoke/VarHandle" ∧ (parseMethodDescriptor yX3_fieldTells.desc).map (fun d => d.parameters.length) = some 1 := by decide +kernel
theorem hd_X3_sealTells : yX3_sealTells.cls ≠ "java/lang/invoke/MethodHandle" ∧ yX3_sealTells.cls ≠ "java/lang/invoke/VarHandle" ∧ (parseMethodDescriptor yX3_sealTells.desc).map (fun d => d.parameters.length) = some 1 := by decide +kernel
theorem hd_X3_tell : yX3_tell.cls ≠ "java/lang/invoke/MethodHandle" ∧ yX3_tell.cls ≠ "java/lang/invoke/VarHandle" ∧ (parseMethodDescriptor yX3_tell.desc).map (fun d => d.parameters.length) = some 1 := by decide +kernel
theorem hd_X3_stop : yX3_stop.cls ≠ "java/lang/invoke/MethodHandle" ∧ yX3_stop.cls ≠ "java/lang/invoke/VarHandle" ∧ (parseMethodDescriptor yX3_stop.desc).map (fun d => d.parameters.length) = some 1 := by decide +kernel
theorem hd_X3_as : yX3_as.cls ≠ "java/lang/invoke/MethodHandle" ∧ yX3_as.cls ≠ "java/lang/invoke/VarHandle" ∧ (parseMethodDescriptor yX3_as.desc).map (fun d => d.parameters.length) = some 2 := by decide +kernel
theorem hd_X3_trace : yX3_trace.cls ≠ "java/lang/invoke/MethodHandle" ∧ yX3_trace.cls ≠ "java/lang/invoke/VarHandle" ∧ (parseMethodDescriptor yX3_trace.desc).map (fun d => d.parameters.length) = some 0 := by decide +kernel
theorem hd_X3_fault : yX3_fault.cls ≠ "java/lang/invoke/MethodHandle" ∧ yX3_fault.cls ≠ "java/lang/invoke/VarHandle" ∧ (parseMethodDescriptor yX3_fault.desc).map (fun d => d.parameters.length) = some 0 := by decide +kernel
theorem hd_X3_many : yX3_many.cls ≠ "java/lang/invoke/MethodHandle" ∧ yX3_many.cls ≠ "java/lang/invoke/VarHandle" ∧ (parseMethodDescriptor yX3_many.desc).map (fun d => d.parameters.length) = some 1 := by decide +kernel
theorem hd_X4_in : yX4_in.cls ≠ "java/lang/invoke/MethodHandle" ∧ yX4_in.cls ≠ "java/lang/invoke/VarHandle" ∧ (parseMethodDescriptor yX4_in.desc).map (fun d => d.parameters.length) = some 3 := by decide +kernel
theorem hd_X4_lost : yX4_lost.cls ≠ "java/lang/invoke/MethodHandle" ∧ yX4_lost.cls ≠ "java/lang/invoke/VarHandle" ∧ (parseMethodDescriptor yX4_lost.desc).map (fun d => d.parameters.length) = some 0 := by decide +kernel
theorem hd_X4_greater : yX4_greater.cls ≠ "java/lang/invoke/MethodHandle" ∧ yX4_greater.cls ≠ "java/lang/invoke/VarHandle" ∧ (parseMethodDescriptor yX4_greater.desc).map (fun d => d.parameters.length) = some 2 := by decide +kernel
theorem hd_X4_off : yX4_off.cls ≠ "java/lang/invoke/MethodHandle" ∧ yX4_off.cls ≠ "java/lang/invoke/VarHandle" ∧ (parseMethodDescriptor yX4_off.desc).map (fun d => d.parameters.length) = some 2 := by decide +kernel
theorem hd_X4_told : yX4_told.cls ≠ "java/lang/invoke/MethodHandle" ∧ yX4_told.cls ≠ "java/lang/invoke/VarHandle" ∧ (parseMethodDescriptor yX4_told.desc).map (fun d => d.parameters.length) = some 3 := by decide +kernel
theorem hd_X4_refused : yX4_refused.cls ≠ "java/lang/invoke/MethodHandle" ∧ yX4_refused.cls ≠ "java/lang/invoke/VarHandle" ∧ (parseMethodDescriptor yX4_refused.desc).map (fun d => d.parameters.length) = some 1 := by decide +kernel
theorem hd_X4_failed : yX4_failed.cls ≠ "java/lang/invoke/MethodHandle" ∧ yX4_failed.cls ≠ "java/lang/invoke/VarHandle" ∧ (parseMethodDescriptor yX4_failed.desc).map (fun d => d.parameters.length) = some 1 := by decide +kernel
theorem hd_X4_failedLong : yX4_failedLong.cls ≠ "java/lang/invoke/MethodHandle" ∧ yX4_failedLong.cls ≠ "java/lang/invoke/VarHandle" ∧ (parseMethodDescriptor yX4_failedLong.desc).map (fun d => d.parameters.length) = some 1 := by decide +kernel
theorem hd_X4_noSheet : yX4_noSheet.cls ≠ "java/lang/invoke/MethodHandle" ∧ yX4_noSheet.cls ≠ "java/lang/invoke/VarHandle" ∧ (parseMethodDescriptor yX4_noSheet.desc).map (fun d => d.parameters.length) = some 1 := by decide +kernel
theorem hd_X4_isBeyond : yX4_isBeyond.cls ≠ "java/lang/invoke/MethodHandle" ∧ yX4_isBeyond.cls ≠ "java/lang/invoke/VarHandle" ∧ (parseMethodDescriptor yX4_isBeyond.desc).map (fun d => d.parameters.length) = some 3 := by decide +kernel
theorem hd_X4_barred : yX4_barred.cls ≠ "java/lang/invoke/MethodHandle" ∧ yX4_barred.cls ≠ "java/lang/invoke/VarHandle" ∧ (parseMethodDescriptor yX4_barred.desc).map (fun d => d.parameters.length) = some 4 := by decide +kernel
theorem hd_X4_noSign : yX4_noSign.cls ≠ "java/lang/invoke/MethodHandle" ∧ yX4_noSign.cls ≠ "java/lang/invoke/VarHandle" ∧ (parseMethodDescriptor yX4_noSign.desc).map (fun d => d.parameters.length) = some 1 := by decide +kernel
theorem hd_X4_noSmell : yX4_noSmell.cls ≠ "java/lang/invoke/MethodHandle" ∧ yX4_noSmell.cls ≠ "java/lang/invoke/VarHandle" ∧ (parseMethodDescriptor yX4_noSmell.desc).map (fun d => d.parameters.length) = some 1 := by decide +kernel
theorem hd_X4_codeAt : yX4_codeAt.cls ≠ "java/lang/invoke/MethodHandle" ∧ yX4_codeAt.cls ≠ "java/lang/invoke/VarHandle" ∧ (parseMethodDescriptor yX4_codeAt.desc).map (fun d => d.parameters.length) = some 2 := by decide +kernel
theorem hd_X4_readsSign : yX4_readsSign.cls ≠ "java/lang/invoke/MethodHandle" ∧ yX4_readsSign.cls ≠ "java/lang/invoke/VarHandle" ∧ (parseMethodDescriptor yX4_readsSign.desc).map (fun d => d.parameters.length) = some 2 := by decide +kernel
theorem hd_X4_readsRegister : yX4_readsRegister.cls ≠ "java/lang/invoke/MethodHandle" ∧ yX4_readsRegister.cls ≠ "java/lang/invoke/VarHandle" ∧ (parseMethodDescriptor yX4_readsRegister.desc).map (fun d => d.parameters.length) = some 2 := by decide +kernel
theorem hd_X4_register : yX4_register.cls ≠ "java/lang/invoke/MethodHandle" ∧ yX4_register.cls ≠ "java/lang/invoke/VarHandle" ∧ (parseMethodDescriptor yX4_register.desc).map (fun d => d.parameters.length) = some 4 := by decide +kernel
theorem hd_X4_strong : yX4_strong.cls ≠ "java/lang/invoke/MethodHandle" ∧ yX4_strong.cls ≠ "java/lang/invoke/VarHandle" ∧ (parseMethodDescriptor yX4_strong.desc).map (fun d => d.parameters.length) = some 2 := by decide +kernel
theorem hd_X4_ofSign : yX4_ofSign.cls ≠ "java/lang/invoke/MethodHandle" ∧ yX4_ofSign.cls ≠ "java/lang/invoke/VarHandle" ∧ (parseMethodDescriptor yX4_ofSign.desc).map (fun d => d.parameters.length) = some 2 := by decide +kernel
theorem hd_X4_half : yX4_half.cls ≠ "java/lang/invoke/MethodHandle" ∧ yX4_half.cls ≠ "java/lang/invoke/VarHandle" ∧ (parseMethodDescriptor yX4_half.desc).map (fun d => d.parameters.length) = some 2 := by decide +kernel
theorem hd_X4_bound : yX4_bound.cls ≠ "java/lang/invoke/MethodHandle" ∧ yX4_bound.cls ≠ "java/lang/invoke/VarHandle" ∧ (parseMethodDescriptor yX4_bound.desc).map (fun d => d.parameters.length) = some 1 := by decide +kernel
theorem hd_X4_year : yX4_year.cls ≠ "java/lang/invoke/MethodHandle" ∧ yX4_year.cls ≠ "java/lang/invoke/VarHandle" ∧ (parseMethodDescriptor yX4_year.desc).map (fun d => d.parameters.length) = some 1 := by decide +kernel
theorem hd_X4_fades : yX4_fades.cls ≠ "java/lang/invoke/MethodHandle" ∧ yX4_fades.cls ≠ "java/lang/invoke/VarHandle" ∧ (parseMethodDescriptor yX4_fades.desc).map (fun d => d.parameters.length) = some 4 := by decide +kernel
theorem hd_X4_faded : yX4_faded.cls ≠ "java/lang/invoke/MethodHandle" ∧ yX4_faded.cls ≠ "java/lang/invoke/VarHandle" ∧ (parseMethodDescriptor yX4_faded.desc).map (fun d => d.parameters.length) = some 4 := by decide +kernel
theorem hd_X4_noPaper : yX4_noPaper.cls ≠ "java/lang/invoke/MethodHandle" ∧ yX4_noPaper.cls ≠ "java/lang/invoke/VarHandle" ∧ (parseMethodDescriptor yX4_noPaper.desc).map (fun d => d.parameters.length) = some 1 := by decide +kernel
theorem hd_X4_areTwo : yX4_areTwo.cls ≠ "java/lang/invoke/MethodHandle" ∧ yX4_areTwo.cls ≠ "java/lang/invoke/VarHandle" ∧ (parseMethodDescriptor yX4_areTwo.desc).map (fun d => d.parameters.length) = some 2 := by decide +kernel
theorem hd_X4_paper : yX4_paper.cls ≠ "java/lang/invoke/MethodHandle" ∧ yX4_paper.cls ≠ "java/lang/invoke/VarHandle" ∧ (parseMethodDescriptor yX4_paper.desc).map (fun d => d.parameters.length) = some 3 := by decide +kernel
theorem hd_X4_ofPaper : yX4_ofPaper.cls ≠ "java/lang/invoke/MethodHandle" ∧ yX4_ofPaper.cls ≠ "java/lang/invoke/VarHandle" ∧ (parseMethodDescriptor yX4_ofPaper.desc).map (fun d => d.parameters.length) = some 2 := by decide +kernel
theorem hd_X4_smellOf : yX4_smellOf.cls ≠ "java/lang/invoke/MethodHandle" ∧ yX4_smellOf.cls ≠ "java/lang/invoke/VarHandle" ∧ (parseMethodDescriptor yX4_smellOf.desc).map (fun d => d.parameters.length) = some 3 := by decide +kernel
theorem hd_X4_smells : yX4_smells.cls ≠ "java/lang/invoke/MethodHandle" ∧ yX4_smells.cls ≠ "java/lang/invoke/VarHandle" ∧ (parseMethodDescriptor yX4_smells.desc).map (fun d => d.parameters.length) = some 3 := by decide +kernel
theorem hd_X4_wash : yX4_wash.cls ≠ "java/lang/invoke/MethodHandle" ∧ yX4_wash.cls ≠ "java/lang/invoke/VarHandle" ∧ (parseMethodDescriptor yX4_wash.desc).map (fun d => d.parameters.length) = some 2 := by decide +kernel
theorem hd_X4_flood : yX4_flood.cls ≠ "java/lang/invoke/MethodHandle" ∧ yX4_flood.cls ≠ "java/lang/invoke/VarHandle" ∧ (parseMethodDescriptor yX4_flood.desc).map (fun d => d.parameters.length) = some 1 := by decide +kernel
theorem hd_X4_farIn : yX4_farIn.cls ≠ "java/lang/invoke/MethodHandle" ∧ yX4_farIn.cls ≠ "java/lang/invoke/VarHandle" ∧ (parseMethodDescriptor yX4_farIn.desc).map (fun d => d.parameters.length) = some 4 := by decide +kernel
theorem hd_X4_far : yX4_far.cls ≠ "java/lang/invoke/MethodHandle" ∧ yX4_far.cls ≠ "java/lang/invoke/VarHandle" ∧ (parseMethodDescriptor yX4_far.desc).map (fun d => d.parameters.length) = some 3 := by decide +kernel
theorem hd_X4_fits : yX4_fits.cls ≠ "java/lang/invoke/MethodHandle" ∧ yX4_fits.cls ≠ "java/lang/invoke/VarHandle" ∧ (parseMethodDescriptor yX4_fits.desc).map (fun d => d.parameters.length) = some 2 := by decide +kernel
theorem hd_X4_isProved : yX4_isProved.cls ≠ "java/lang/invoke/MethodHandle" ∧ yX4_isProved.cls ≠ "java/lang/invoke/VarHandle" ∧ (parseMethodDescriptor yX4_isProved.desc).map (fun d => d.parameters.length) = some 2 := by decide +kernel
theorem hd_X4_proved : yX4_proved.cls ≠ "java/lang/invoke/MethodHandle" ∧ yX4_proved.cls ≠ "java/lang/invoke/VarHandle" ∧ (parseMethodDescriptor yX4_proved.desc).map (fun d => d.parameters.length) = some 0 := by decide +kernel
theorem hd_X4_again : yX4_again.cls ≠ "java/lang/invoke/MethodHandle" ∧ yX4_again.cls ≠ "java/lang/invoke/VarHandle" ∧ (parseMethodDescriptor yX4_again.desc).map (fun d => d.parameters.length) = some 1 := by decide +kernel
theorem hd_X4_apartBy : yX4_apartBy.cls ≠ "java/lang/invoke/MethodHandle" ∧ yX4_apartBy.cls ≠ "java/lang/invoke/VarHandle" ∧ (parseMethodDescriptor yX4_apartBy.desc).map (fun d => d.parameters.length) = some 2 := by decide +kernel
theorem hd_X4_apart : yX4_apart.cls ≠ "java/lang/invoke/MethodHandle" ∧ yX4_apart.cls ≠ "java/lang/invoke/VarHandle" ∧ (parseMethodDescriptor yX4_apart.desc).map (fun d => d.parameters.length) = some 2 := by decide +kernel
theorem hd_X4_twins : yX4_twins.cls ≠ "java/lang/invoke/MethodHandle" ∧ yX4_twins.cls ≠ "java/lang/invoke/VarHandle" ∧ (parseMethodDescriptor yX4_twins.desc).map (fun d => d.parameters.length) = some 1 := by decide +kernel
theorem hd_X4_isTaken : yX4_isTaken.cls ≠ "java/lang/invoke/MethodHandle" ∧ yX4_isTaken.cls ≠ "java/lang/invoke/VarHandle" ∧ (parseMethodDescriptor yX4_isTaken.desc).map (fun d => d.parameters.length) = some 1 := by decide +kernel
theorem hd_X4_bits : yX4_bits.cls ≠ "java/lang/invoke/MethodHandle" ∧ yX4_bits.cls ≠ "java/lang/invoke/VarHandle" ∧ (parseMethodDescriptor yX4_bits.desc).map (fun d => d.parameters.length) = some 1 := by decide +kernel
theorem hd_X4_forges : yX4_forges.cls ≠ "java/lang/invoke/MethodHandle" ∧ yX4_forges.cls ≠ "java/lang/invoke/VarHandle" ∧ (parseMethodDescriptor yX4_forges.desc).map (fun d => d.parameters.length) = some 5 := by decide +kernel
theorem hd_X4_forged : yX4_forged.cls ≠ "java/lang/invoke/MethodHandle" ∧ yX4_forged.cls ≠ "java/lang/invoke/VarHandle" ∧ (parseMethodDescriptor yX4_forged.desc).map (fun d => d.parameters.length) = some 6 := by decide +kernel
theorem hd_X4_nearBy : yX4_nearBy.cls ≠ "java/lang/invoke/MethodHandle" ∧ yX4_nearBy.cls ≠ "java/lang/invoke/VarHandle" ∧ (parseMethodDescriptor yX4_nearBy.desc).map (fun d => d.parameters.length) = some 4 := by decide +kernel
theorem hd_X4_near : yX4_near.cls ≠ "java/lang/invoke/MethodHandle" ∧ yX4_near.cls ≠ "java/lang/invoke/VarHandle" ∧ (parseMethodDescriptor yX4_near.desc).map (fun d => d.parameters.length) = some 4 := by decide +kernel
theorem hd_X4_steals : yX4_steals.cls ≠ "java/lang/invoke/MethodHandle" ∧ yX4_steals.cls ≠ "java/lang/invoke/VarHandle" ∧ (parseMethodDescriptor yX4_steals.desc).map (fun d => d.parameters.length) = some 2 := by decide +kernel
theorem hd_X4_leastFar : yX4_leastFar.cls ≠ "java/lang/invoke/MethodHandle" ∧ yX4_leastFar.cls ≠ "java/lang/invoke/VarHandle" ∧ (parseMethodDescriptor yX4_leastFar.desc).map (fun d => d.parameters.length) = some 4 := by decide +kernel
theorem hd_X4_fresh : yX4_fresh.cls ≠ "java/lang/invoke/MethodHandle" ∧ yX4_fresh.cls ≠ "java/lang/invoke/VarHandle" ∧ (parseMethodDescriptor yX4_fresh.desc).map (fun d => d.parameters.length) = some 1 := by decide +kernel
theorem hd_X4_mayBe : yX4_mayBe.cls ≠ "java/lang/invoke/MethodHandle" ∧ yX4_mayBe.cls ≠ "java/lang/invoke/VarHandle" ∧ (parseMethodDescriptor yX4_mayBe.desc).map (fun d => d.parameters.length) = some 4 := by decide +kernel
theorem hd_X4_laysHours : yX4_laysHours.cls ≠ "java/lang/invoke/MethodHandle" ∧ yX4_laysHours.cls ≠ "java/lang/invoke/VarHandle" ∧ (parseMethodDescriptor yX4_laysHours.desc).map (fun d => d.parameters.length) = some 2 := by decide +kernel
theorem hd_X4_odds : yX4_odds.cls ≠ "java/lang/invoke/MethodHandle" ∧ yX4_odds.cls ≠ "java/lang/invoke/VarHandle" ∧ (parseMethodDescriptor yX4_odds.desc).map (fun d => d.parameters.length) = some 6 := by decide +kernel
theorem hd_X4_who : yX4_who.cls ≠ "java/lang/invoke/MethodHandle" ∧ yX4_who.cls ≠ "java/lang/invoke/VarHandle" ∧ (parseMethodDescriptor yX4_who.desc).map (fun d => d.parameters.length) = some 4 := by decide +kernel
theorem hd_X4_sheet : yX4_sheet.cls ≠ "java/lang/invoke/MethodHandle" ∧ yX4_sheet.cls ≠ "java/lang/invoke/VarHandle" ∧ (parseMethodDescriptor yX4_sheet.desc).map (fun d => d.parameters.length) = some 3 := by decide +kernel
theorem hd_X4_lose : yX4_lose.cls ≠ "java/lang/invoke/MethodHandle" ∧ yX4_lose.cls ≠ "java/lang/invoke/VarHandle" ∧ (parseMethodDescriptor yX4_lose.desc).map (fun d => d.parameters.length) = some 1 := by decide +kernel
theorem hd_X4_noCell : yX4_noCell.cls ≠ "java/lang/invoke/MethodHandle" ∧ yX4_noCell.cls ≠ "java/lang/invoke/VarHandle" ∧ (parseMethodDescriptor yX4_noCell.desc).map (fun d => d.parameters.length) = some 2 := by decide +kernel
theorem hd_X4_put : yX4_put.cls ≠ "java/lang/invoke/MethodHandle" ∧ yX4_put.cls ≠ "java/lang/invoke/VarHandle" ∧ (parseMethodDescriptor yX4_put.desc).map (fun d => d.parameters.length) = some 3 := by decide +kernel
theorem hd_X4_cell : yX4_cell.cls ≠ "java/lang/invoke/MethodHandle" ∧ yX4_cell.cls ≠ "java/lang/invoke/VarHandle" ∧ (parseMethodDescriptor yX4_cell.desc).map (fun d => d.parameters.length) = some 3 := by decide +kernel
theorem hd_X4_copy : yX4_copy.cls ≠ "java/lang/invoke/MethodHandle" ∧ yX4_copy.cls ≠ "java/lang/invoke/VarHandle" ∧ (parseMethodDescriptor yX4_copy.desc).map (fun d => d.parameters.length) = some 5 := by decide +kernel
theorem hd_X4_traced : yX4_traced.cls ≠ "java/lang/invoke/MethodHandle" ∧ yX4_traced.cls ≠ "java/lang/invoke/VarHandle" ∧ (parseMethodDescriptor yX4_traced.desc).map (fun d => d.parameters.length) = some 1 := by decide +kernel
theorem hd_X4_tell : yX4_tell.cls ≠ "java/lang/invoke/MethodHandle" ∧ yX4_tell.cls ≠ "java/lang/invoke/VarHandle" ∧ (parseMethodDescriptor yX4_tell.desc).map (fun d => d.parameters.length) = some 1 := by decide +kernel
theorem hd_X4_stop : yX4_stop.cls ≠ "java/lang/invoke/MethodHandle" ∧ yX4_stop.cls ≠ "java/lang/invoke/VarHandle" ∧ (parseMethodDescriptor yX4_stop.desc).map (fun d => d.parameters.length) = some 1 := by decide +kernel
theorem hd_X4_as : yX4_as.cls ≠ "java/lang/invoke/MethodHandle" ∧ yX4_as.cls ≠ "java/lang/invoke/VarHandle" ∧ (parseMethodDescriptor yX4_as.desc).map (fun d => d.parameters.length) = some 2 := by decide +kernel
theorem hd_X4_trace : yX4_trace.cls ≠ "java/lang/invoke/MethodHandle" ∧ yX4_trace.cls ≠ "java/lang/invoke/VarHandle" ∧ (parseMethodDescriptor yX4_trace.desc).map (fun d => d.parameters.length) = some 0 := by decide +kernel
theorem hd_X4_fault : yX4_fault.cls ≠ "java/lang/invoke/MethodHandle" ∧ yX4_fault.cls ≠ "java/lang/invoke/VarHandle" ∧ (parseMethodDescriptor yX4_fault.desc).map (fun d => d.parameters.length) = some 0 := by decide +kernel
theorem hd_X4_many : yX4_many.cls ≠ "java/lang/invoke/MethodHandle" ∧ yX4_many.cls ≠ "java/lang/invoke/VarHandle" ∧ (parseMethodDescriptor yX4_many.desc).map (fun d => d.parameters.length) = some 1 := by decide +kernel
