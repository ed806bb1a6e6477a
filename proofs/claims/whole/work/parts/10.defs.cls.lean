def fX10_isWithin (v0 : Int32) (v1 : Int32) (v2 : Int32) (σ : Sg) : Option (Int32 × Sg) :=
  if v0 < v1 then
  (gd ((0 : Int32) = 0 ∨ (0 : Int32) = 1) (some ((0 : Int32), σ)))
  else
  (if v2 < v0 then
  (gd ((0 : Int32) = 0 ∨ (0 : Int32) = 1) (some ((0 : Int32), σ)))
  else
  (gd ((1 : Int32) = 0 ∨ (1 : Int32) = 1) (some ((1 : Int32), σ))))
def fX10_finding (v0 : Nat) (v1 : Int32) (σ : Sg) : Option (Int32 × Sg) :=
  lt (wr σ v0 5 ((σ v0 5) + (1 : Int32))) fun s_7 =>
  some (v1, s_7)
def fX9_useStationFrom_2 (v0 : Nat) (v1 : Int32) (k2 : Int32 → Sg → Option (Int32 × Sg)) (v2 : Int32) (σ : Sg) : Option (Int32 × Sg) :=
  if (σ v0 0) ≤ v2 then
  (gd ((0 : Int32) = 0 ∨ (0 : Int32) = 1) (some ((0 : Int32), σ)))
  else
  (gd (inR v2 (ln (rf v0 2))) <|
  if v1 ≤ (σ (rf v0 2) (v2).toNatClampNeg) then
  (gd ((1 : Int32) = 0 ∨ (1 : Int32) = 1) (some ((1 : Int32), σ)))
  else
  (gd (inR v2 (ln (rf v0 3))) <|
  if (σ (rf v0 3) (v2).toNatClampNeg) < v1 then
  (lt (v2 + (1 : Int32)) fun v2_32 =>
  k2 v2_32 σ)
  else
  (gd ((1 : Int32) = 0 ∨ (1 : Int32) = 1) (some ((1 : Int32), σ)))))
def fX9_useStationFrom (v0 : Nat) (v1 : Int32) (σ : Sg) : Option (Int32 × Sg) :=
  lt (0 : Int32) fun v2_1 =>
  lq1 (fX9_useStationFrom_2 v0 v1) FU v2_1 σ
def fX5_useStationFrom_2 (v0 : Nat) (v1 : Int32) (k2 : Int32 → Sg → Option (Int32 × Sg)) (v2 : Int32) (σ : Sg) : Option (Int32 × Sg) :=
  if (σ v0 0) ≤ v2 then
  (gd ((0 : Int32) = 0 ∨ (0 : Int32) = 1) (some ((0 : Int32), σ)))
  else
  (gd (inR v2 (ln (rf v0 4))) <|
  if (σ (rf v0 4) (v2).toNatClampNeg) < v1 then
  (lt (v2 + (1 : Int32)) fun v2_22 =>
  k2 v2_22 σ)
  else
  (gd ((1 : Int32) = 0 ∨ (1 : Int32) = 1) (some ((1 : Int32), σ))))
def fX5_useStationFrom (v0 : Nat) (v1 : Int32) (σ : Sg) : Option (Int32 × Sg) :=
  lt (0 : Int32) fun v2_1 =>
  lq1 (fX5_useStationFrom_2 v0 v1) FU v2_1 σ
def fX3_needsMoreThan (v0 : Nat) (v1 : Int32) (σ : Sg) : Option (Int32 × Sg) :=
  bd (fX9_useStationFrom (rf v0 1) v1 σ) fun r_5 s_5 =>
  if r_5 = 0 then
  (bd (fX5_useStationFrom (rf v0 2) v1 s_5) fun r_16 s_16 =>
  if r_16 = 0 then
  (gd ((0 : Int32) = 0 ∨ (0 : Int32) = 1) (some ((0 : Int32), s_16)))
  else
  (gd ((1 : Int32) = 0 ∨ (1 : Int32) = 1) (some ((1 : Int32), s_16))))
  else
  (gd ((1 : Int32) = 0 ∨ (1 : Int32) = 1) (some ((1 : Int32), s_5)))
def fX8_takeFrom (v0 : Nat) (v1 : Nat) (σ : Sg) : Option (Unit × Sg) :=
  lt (wr σ v0 0 (σ v1 0)) fun s_5 =>
  gd (cpR (0 : Int32) (0 : Int32) (nI (ln (rf v0 1))) (ln (rf v1 1)) (ln (rf v0 1))) <|
  lt (cpy s_5 (rf v1 1) (rf v0 1) ((0 : Int32)).toNatClampNeg ((0 : Int32)).toNatClampNeg ((nI (ln (rf v0 1)))).toNatClampNeg) fun s_23 =>
  gd (cpR (0 : Int32) (0 : Int32) (nI (ln (rf v0 2))) (ln (rf v1 2)) (ln (rf v0 2))) <|
  lt (cpy s_23 (rf v1 2) (rf v0 2) ((0 : Int32)).toNatClampNeg ((0 : Int32)).toNatClampNeg ((nI (ln (rf v0 2)))).toNatClampNeg) fun s_41 =>
  some ((), s_41)
def fX9_takeFrom (v0 : Nat) (v1 : Nat) (σ : Sg) : Option (Unit × Sg) :=
  lt (wr σ v0 0 (σ v1 0)) fun s_5 =>
  gd (cpR (0 : Int32) (0 : Int32) (nI (ln (rf v0 1))) (ln (rf v1 1)) (ln (rf v0 1))) <|
  lt (cpy s_5 (rf v1 1) (rf v0 1) ((0 : Int32)).toNatClampNeg ((0 : Int32)).toNatClampNeg ((nI (ln (rf v0 1)))).toNatClampNeg) fun s_23 =>
  gd (cpR (0 : Int32) (0 : Int32) (nI (ln (rf v0 2))) (ln (rf v1 2)) (ln (rf v0 2))) <|
  lt (cpy s_23 (rf v1 2) (rf v0 2) ((0 : Int32)).toNatClampNeg ((0 : Int32)).toNatClampNeg ((nI (ln (rf v0 2)))).toNatClampNeg) fun s_41 =>
  gd (cpR (0 : Int32) (0 : Int32) (nI (ln (rf v0 3))) (ln (rf v1 3)) (ln (rf v0 3))) <|
  lt (cpy s_41 (rf v1 3) (rf v0 3) ((0 : Int32)).toNatClampNeg ((0 : Int32)).toNatClampNeg ((nI (ln (rf v0 3)))).toNatClampNeg) fun s_59 =>
  gd (cpR (0 : Int32) (0 : Int32) (nI (ln (rf v0 4))) (ln (rf v1 4)) (ln (rf v0 4))) <|
  lt (cpy s_59 (rf v1 4) (rf v0 4) ((0 : Int32)).toNatClampNeg ((0 : Int32)).toNatClampNeg ((nI (ln (rf v0 4)))).toNatClampNeg) fun s_77 =>
  gd (cpR (0 : Int32) (0 : Int32) (nI (ln (rf v0 5))) (ln (rf v1 5)) (ln (rf v0 5))) <|
  lt (cpy s_77 (rf v1 5) (rf v0 5) ((0 : Int32)).toNatClampNeg ((0 : Int32)).toNatClampNeg ((nI (ln (rf v0 5)))).toNatClampNeg) fun s_95 =>
  some ((), s_95)
def fX5_takeFrom (v0 : Nat) (v1 : Nat) (σ : Sg) : Option (Unit × Sg) :=
  lt (wr σ v0 0 (σ v1 0)) fun s_5 =>
  gd (cpR (0 : Int32) (0 : Int32) (nI (ln (rf v0 1))) (ln (rf v1 1)) (ln (rf v0 1))) <|
  lt (cpy s_5 (rf v1 1) (rf v0 1) ((0 : Int32)).toNatClampNeg ((0 : Int32)).toNatClampNeg ((nI (ln (rf v0 1)))).toNatClampNeg) fun s_23 =>
  gd (cpR (0 : Int32) (0 : Int32) (nI (ln (rf v0 2))) (ln (rf v1 2)) (ln (rf v0 2))) <|
  lt (cpy s_23 (rf v1 2) (rf v0 2) ((0 : Int32)).toNatClampNeg ((0 : Int32)).toNatClampNeg ((nI (ln (rf v0 2)))).toNatClampNeg) fun s_41 =>
  gd (cpR (0 : Int32) (0 : Int32) (nI (ln (rf v0 3))) (ln (rf v1 3)) (ln (rf v0 3))) <|
  lt (cpy s_41 (rf v1 3) (rf v0 3) ((0 : Int32)).toNatClampNeg ((0 : Int32)).toNatClampNeg ((nI (ln (rf v0 3)))).toNatClampNeg) fun s_59 =>
  gd (cpR (0 : Int32) (0 : Int32) (nI (ln (rf v0 4))) (ln (rf v1 4)) (ln (rf v0 4))) <|
  lt (cpy s_59 (rf v1 4) (rf v0 4) ((0 : Int32)).toNatClampNeg ((0 : Int32)).toNatClampNeg ((nI (ln (rf v0 4)))).toNatClampNeg) fun s_77 =>
  gd (cpR (0 : Int32) (0 : Int32) (nI (ln (rf v0 5))) (ln (rf v1 5)) (ln (rf v0 5))) <|
  lt (cpy s_77 (rf v1 5) (rf v0 5) ((0 : Int32)).toNatClampNeg ((0 : Int32)).toNatClampNeg ((nI (ln (rf v0 5)))).toNatClampNeg) fun s_95 =>
  gd (cpR (0 : Int32) (0 : Int32) (nI (ln (rf v0 6))) (ln (rf v1 6)) (ln (rf v0 6))) <|
  lt (cpy s_95 (rf v1 6) (rf v0 6) ((0 : Int32)).toNatClampNeg ((0 : Int32)).toNatClampNeg ((nI (ln (rf v0 6)))).toNatClampNeg) fun s_113 =>
  some ((), s_113)
def fX3_takeFrom (v0 : Nat) (v1 : Nat) (σ : Sg) : Option (Unit × Sg) :=
  bd (fX8_takeFrom (rf v0 0) (rf v1 0) σ) fun r_8 s_8 =>
  bd (fX9_takeFrom (rf v0 1) (rf v1 1) s_8) fun r_19 s_19 =>
  bd (fX5_takeFrom (rf v0 2) (rf v1 2) s_19) fun r_30 s_30 =>
  lt (wr s_30 v0 3 (s_30 v1 3)) fun s_38 =>
  gd (cpR (0 : Int32) (0 : Int32) (nI (ln (rf v0 4))) (ln (rf v1 4)) (ln (rf v0 4))) <|
  lt (cpy s_38 (rf v1 4) (rf v0 4) ((0 : Int32)).toNatClampNeg ((0 : Int32)).toNatClampNeg ((nI (ln (rf v0 4)))).toNatClampNeg) fun s_56 =>
  gd (cpR (0 : Int32) (0 : Int32) (nI (ln (rf v0 5))) (ln (rf v1 5)) (ln (rf v0 5))) <|
  lt (cpy s_56 (rf v1 5) (rf v0 5) ((0 : Int32)).toNatClampNeg ((0 : Int32)).toNatClampNeg ((nI (ln (rf v0 5)))).toNatClampNeg) fun s_74 =>
  some ((), s_74)
def fX2_keep (v0 : Nat) (v1 : Nat) (σ : Sg) : Option (Unit × Sg) :=
  gd (inR (σ v0 1) (ln (rf v0 0))) <|
  bd (fX3_takeFrom (rf (rf v0 0) ((σ v0 1)).toNatClampNeg) v1 σ) fun r_10 s_10 =>
  lt (wr s_10 v0 1 (((s_10 v0 1) + (1 : Int32)) - ((s_10 v0 1) + (1 : Int32)) / (16 : Int32) * (16 : Int32))) fun s_23 =>
  if (16 : Int32) ≤ (s_23 v0 2) then
  (lt (wr s_23 v0 2 (16 : Int32)) fun s_47 =>
  some ((), s_47))
  else
  (lt (wr s_23 v0 2 ((s_23 v0 2) + (1 : Int32))) fun s_47 =>
  some ((), s_47))
def fX0_forget (v0 : Nat) (σ : Sg) : Option (Unit × Sg) :=
  lt (wr σ v0 2 (0 : Int32)) fun s_2 =>
  some ((), s_2)
def fX4_forget (v0 : Nat) (σ : Sg) : Option (Unit × Sg) :=
  lt (wr σ v0 3 (0 : Int32)) fun s_2 =>
  some ((), s_2)
def fX10_forgetTheDay (v0 : Nat) (σ : Sg) : Option (Unit × Sg) :=
  bd (fX0_forget (rf v0 1) σ) fun r_4 s_4 =>
  bd (fX4_forget (rf v0 0) s_4) fun r_11 s_11 =>
  some ((), s_11)
def fX10_keepForUndo (v0 : Nat) (σ : Sg) : Option (Unit × Sg) :=
  bd (fX2_keep (rf v0 3) (rf v0 2) σ) fun r_8 s_8 =>
  bd (fX10_forgetTheDay v0 s_8) fun r_12 s_12 =>
  some ((), s_12)
def fX10_stations (v0 : Nat) (v1 : Int32) (σ : Sg) : Option (Int32 × Sg) :=
  bd (fX10_isWithin v1 (2 : Int32) (7 : Int32) σ) fun r_4 s_4 =>
  if r_4 = 0 then
  (bd (fX10_finding v0 (-100001 : Int32) s_4) fun r_13 s_13 =>
  some (r_13, s_13))
  else
  (bd (fX3_needsMoreThan (rf v0 2) v1 s_4) fun r_22 s_22 =>
  if r_22 = 0 then
  (bd (fX10_keepForUndo v0 s_22) fun r_36 s_36 =>
  lt (s_36 (rf (rf v0 2) 0) 0) fun v2_49 =>
  lt (wr s_36 (rf (rf v0 2) 0) 0 v1) fun s_58 =>
  some (v2_49, s_58))
  else
  (bd (fX10_finding v0 (-100007 : Int32) s_22) fun r_31 s_31 =>
  some (r_31, s_31)))
def fX8_hasStation (v0 : Nat) (v1 : Int32) (σ : Sg) : Option (Int32 × Sg) :=
  if v1 < 0 then
  (gd ((0 : Int32) = 0 ∨ (0 : Int32) = 1) (some ((0 : Int32), σ)))
  else
  (if (σ v0 0) ≤ v1 then
  (gd ((0 : Int32) = 0 ∨ (0 : Int32) = 1) (some ((0 : Int32), σ)))
  else
  (gd ((1 : Int32) = 0 ∨ (1 : Int32) = 1) (some ((1 : Int32), σ))))
def fX10_siding (v0 : Nat) (v1 : Int32) (v2 : Int32) (σ : Sg) : Option (Int32 × Sg) :=
  bd (fX8_hasStation (rf (rf v0 2) 0) v1 σ) fun r_8 s_8 =>
  if r_8 = 0 then
  (bd (fX10_finding v0 (-100001 : Int32) s_8) fun r_27 s_27 =>
  some (r_27, s_27))
  else
  (bd (fX10_isWithin v2 (0 : Int32) (30 : Int32) s_8) fun r_18 s_18 =>
  if r_18 = 0 then
  (bd (fX10_finding v0 (-100001 : Int32) s_18) fun r_27 s_27 =>
  some (r_27, s_27))
  else
  (bd (fX10_keepForUndo v0 s_18) fun r_32 s_32 =>
  gd (inR v1 (ln (rf (rf (rf v0 2) 0) 1))) <|
  lt (s_32 (rf (rf (rf v0 2) 0) 1) (v1).toNatClampNeg) fun v3_47 =>
  gd (inR v1 (ln (rf (rf (rf v0 2) 0) 1))) <|
  lt (wr s_32 (rf (rf (rf v0 2) 0) 1) (v1).toNatClampNeg v2) fun s_60 =>
  some (v3_47, s_60)))
def fX8_hasSection (v0 : Nat) (v1 : Int32) (σ : Sg) : Option (Int32 × Sg) :=
  if v1 < 0 then
  (gd ((0 : Int32) = 0 ∨ (0 : Int32) = 1) (some ((0 : Int32), σ)))
  else
  (if ((σ v0 0) - (1 : Int32)) ≤ v1 then
  (gd ((0 : Int32) = 0 ∨ (0 : Int32) = 1) (some ((0 : Int32), σ)))
  else
  (gd ((1 : Int32) = 0 ∨ (1 : Int32) = 1) (some ((1 : Int32), σ))))
def fX8_areMinutes (v0 : Int32) (σ : Sg) : Option (Int32 × Sg) :=
  if v0 < (1 : Int32) then
  (gd ((0 : Int32) = 0 ∨ (0 : Int32) = 1) (some ((0 : Int32), σ)))
  else
  (if (30 : Int32) < v0 then
  (gd ((0 : Int32) = 0 ∨ (0 : Int32) = 1) (some ((0 : Int32), σ)))
  else
  (gd ((1 : Int32) = 0 ∨ (1 : Int32) = 1) (some ((1 : Int32), σ))))
def fX10_section (v0 : Nat) (v1 : Int32) (v2 : Int32) (σ : Sg) : Option (Int32 × Sg) :=
  bd (fX8_hasSection (rf (rf v0 2) 0) v1 σ) fun r_8 s_8 =>
  if r_8 = 0 then
  (bd (fX10_finding v0 (-100001 : Int32) s_8) fun r_24 s_24 =>
  some (r_24, s_24))
  else
  (bd (fX8_areMinutes v2 s_8) fun r_15 s_15 =>
  if r_15 = 0 then
  (bd (fX10_finding v0 (-100001 : Int32) s_15) fun r_24 s_24 =>
  some (r_24, s_24))
  else
  (bd (fX10_keepForUndo v0 s_15) fun r_29 s_29 =>
  gd (inR v1 (ln (rf (rf (rf v0 2) 0) 2))) <|
  lt (s_29 (rf (rf (rf v0 2) 0) 2) (v1).toNatClampNeg) fun v3_44 =>
  gd (inR v1 (ln (rf (rf (rf v0 2) 0) 2))) <|
  lt (wr s_29 (rf (rf (rf v0 2) 0) 2) (v1).toNatClampNeg v2) fun s_57 =>
  some (v3_44, s_57)))
def fX9_add (v0 : Nat) (v1 : Int32) (v2 : Int32) (v3 : Int32) (v4 : Int32) (v5 : Int32) (σ : Sg) : Option (Int32 × Sg) :=
  lt (σ v0 0) fun v6_4 =>
  gd (inR v6_4 (ln (rf v0 1))) <|
  lt (wr σ (rf v0 1) (v6_4).toNatClampNeg v1) fun s_13 =>
  gd (inR v6_4 (ln (rf v0 2))) <|
  lt (wr s_13 (rf v0 2) (v6_4).toNatClampNeg v2) fun s_21 =>
  gd (inR v6_4 (ln (rf v0 3))) <|
  lt (wr s_21 (rf v0 3) (v6_4).toNatClampNeg v3) fun s_29 =>
  gd (inR v6_4 (ln (rf v0 4))) <|
  lt (wr s_29 (rf v0 4) (v6_4).toNatClampNeg v4) fun s_38 =>
  gd (inR v6_4 (ln (rf v0 5))) <|
  lt (wr s_38 (rf v0 5) (v6_4).toNatClampNeg v5) fun s_47 =>
  lt (wr s_47 v0 0 ((s_47 v0 0) + (1 : Int32))) fun s_55 =>
  some (v6_4, s_55)
def fX10_train (v0 : Nat) (v1 : Int32) (v2 : Int32) (v3 : Int32) (v4 : Int32) (v5 : Int32) (σ : Sg) : Option (Int32 × Sg) :=
  bd (fX10_isWithin v1 (0 : Int32) (3 : Int32) σ) fun r_3 s_3 =>
  if r_3 = 0 then
  (bd (fX10_finding v0 (-100001 : Int32) s_3) fun r_63 s_63 =>
  some (r_63, s_63))
  else
  (bd (fX8_hasStation (rf (rf v0 2) 0) v2 s_3) fun r_17 s_17 =>
  if r_17 = 0 then
  (bd (fX10_finding v0 (-100001 : Int32) s_17) fun r_63 s_63 =>
  some (r_63, s_63))
  else
  (bd (fX8_hasStation (rf (rf v0 2) 0) v3 s_17) fun r_31 s_31 =>
  if r_31 = 0 then
  (bd (fX10_finding v0 (-100001 : Int32) s_31) fun r_63 s_63 =>
  some (r_63, s_63))
  else
  (bd (fX10_isWithin v4 (1 : Int32) (30 : Int32) s_31) fun r_42 s_42 =>
  if r_42 = 0 then
  (bd (fX10_finding v0 (-100001 : Int32) s_42) fun r_63 s_63 =>
  some (r_63, s_63))
  else
  (bd (fX10_isWithin v5 (0 : Int32) (300 : Int32) s_42) fun r_54 s_54 =>
  if r_54 = 0 then
  (bd (fX10_finding v0 (-100001 : Int32) s_54) fun r_63 s_63 =>
  some (r_63, s_63))
  else
  (if v2 = v3 then
  (bd (fX10_finding v0 (-100003 : Int32) s_54) fun r_75 s_75 =>
  some (r_75, s_75))
  else
  (if (s_54 (rf (rf v0 2) 1) 0) < (5 : Int32) then
  (bd (fX10_keepForUndo v0 s_54) fun r_101 s_101 =>
  bd (fX9_add (rf (rf v0 2) 1) v1 v2 v3 v4 v5 s_101) fun r_118 s_118 =>
  some (r_118, s_118))
  else
  (bd (fX10_finding v0 (-100005 : Int32) s_54) fun r_96 s_96 =>
  some (r_96, s_96))))))))
def fX9_has (v0 : Nat) (v1 : Int32) (σ : Sg) : Option (Int32 × Sg) :=
  if v1 < 0 then
  (gd ((0 : Int32) = 0 ∨ (0 : Int32) = 1) (some ((0 : Int32), σ)))
  else
  (if (σ v0 0) ≤ v1 then
  (gd ((0 : Int32) = 0 ∨ (0 : Int32) = 1) (some ((0 : Int32), σ)))
  else
  (gd ((1 : Int32) = 0 ∨ (1 : Int32) = 1) (some ((1 : Int32), σ))))
def fX9_isOfKind_10 (v2 : Int32) (k10 : Int32 → Int32 → Sg → Option (Int32 × Sg)) (v3 : Int32) (v4 : Int32) (σ : Sg) : Option (Int32 × Sg) :=
  if (4 : Int32) ≤ v4 then
  (gd ((0 : Int32) = 0 ∨ (0 : Int32) = 1) (some ((0 : Int32), σ)))
  else
  (if v3 = (-1 : Int32) then
  (gd ((0 : Int32) = 0 ∨ (0 : Int32) = 1) (some ((0 : Int32), σ)))
  else
  (if v3 = v2 then
  (gd ((1 : Int32) = 0 ∨ (1 : Int32) = 1) (some ((1 : Int32), σ)))
  else
  (gd (inR v3 4) <|
  lt (kab (v3).toNatClampNeg) fun v3_33 =>
  lt (v4 + (1 : Int32)) fun v4_34 =>
  k10 v3_33 v4_34 σ)))
def fX9_isOfKind (v0 : Nat) (v1 : Int32) (v2 : Int32) (σ : Sg) : Option (Int32 × Sg) :=
  gd (inR v1 (ln (rf v0 1))) <|
  lt (σ (rf v0 1) (v1).toNatClampNeg) fun v3_6 =>
  lt (0 : Int32) fun v4_8 =>
  lq2 (fX9_isOfKind_10 v2) FU v3_6 v4_8 σ
def fX10_as (v0 : Nat) (v1 : Int32) (v2 : Int32) (σ : Sg) : Option (Int32 × Sg) :=
  bd (fX9_has (rf (rf v0 2) 1) v1 σ) fun r_8 s_8 =>
  if r_8 = 0 then
  (bd (fX10_finding v0 (-100001 : Int32) s_8) fun r_26 s_26 =>
  some (r_26, s_26))
  else
  (bd (fX10_isWithin v2 (0 : Int32) (3 : Int32) s_8) fun r_17 s_17 =>
  if r_17 = 0 then
  (bd (fX10_finding v0 (-100001 : Int32) s_17) fun r_26 s_26 =>
  some (r_26, s_26))
  else
  (bd (fX9_isOfKind (rf (rf v0 2) 1) v1 v2 s_17) fun r_39 s_39 =>
  if r_39 = 0 then
  (bd (fX10_finding v0 (-100004 : Int32) s_39) fun r_52 s_52 =>
  some (r_52, s_52))
  else
  (some (v1, s_39))))
def fX9_wayOf (v0 : Nat) (v1 : Int32) (σ : Sg) : Option (Int32 × Sg) :=
  gd (inR v1 (ln (rf v0 3))) <|
  gd (inR v1 (ln (rf v0 2))) <|
  if (σ (rf v0 3) (v1).toNatClampNeg) ≤ (σ (rf v0 2) (v1).toNatClampNeg) then
  (some ((1 : Int32), σ))
  else
  (some ((0 : Int32), σ))
def fX9_tell (v0 : Nat) (v1 : Int32) (v2 : Int32) (σ : Sg) : Option (Int32 × Sg) :=
  if v2 = (0 : Int32) then
  (gd (inR v1 (ln (rf v0 1))) <|
  some ((σ (rf v0 1) (v1).toNatClampNeg), σ))
  else
  (if v2 = (1 : Int32) then
  (gd (inR v1 (ln (rf v0 2))) <|
  some ((σ (rf v0 2) (v1).toNatClampNeg), σ))
  else
  (if v2 = (2 : Int32) then
  (gd (inR v1 (ln (rf v0 3))) <|
  some ((σ (rf v0 3) (v1).toNatClampNeg), σ))
  else
  (if v2 = (3 : Int32) then
  (gd (inR v1 (ln (rf v0 4))) <|
  some ((σ (rf v0 4) (v1).toNatClampNeg), σ))
  else
  (if v2 = (4 : Int32) then
  (gd (inR v1 (ln (rf v0 5))) <|
  some ((σ (rf v0 5) (v1).toNatClampNeg), σ))
  else
  (bd (fX9_wayOf v0 v1 σ) fun r_73 s_73 =>
  some (r_73, s_73))))))
def fX10_of (v0 : Nat) (v1 : Int32) (v2 : Int32) (σ : Sg) : Option (Int32 × Sg) :=
  bd (fX9_has (rf (rf v0 2) 1) v1 σ) fun r_8 s_8 =>
  if r_8 = 0 then
  (bd (fX10_finding v0 (-100001 : Int32) s_8) fun r_26 s_26 =>
  some (r_26, s_26))
  else
  (bd (fX10_isWithin v2 (0 : Int32) (5 : Int32) s_8) fun r_17 s_17 =>
  if r_17 = 0 then
  (bd (fX10_finding v0 (-100001 : Int32) s_17) fun r_26 s_26 =>
  some (r_26, s_26))
  else
  (bd (fX9_tell (rf (rf v0 2) 1) v1 v2 s_17) fun r_39 s_39 =>
  some (r_39, s_39)))
def fX10_time (v0 : Nat) (v1 : Int32) (v2 : Int32) (σ : Sg) : Option (Int32 × Sg) :=
  bd (fX9_has (rf (rf v0 2) 1) v1 σ) fun r_8 s_8 =>
  if r_8 = 0 then
  (bd (fX10_finding v0 (-100001 : Int32) s_8) fun r_28 s_28 =>
  some (r_28, s_28))
  else
  (bd (fX10_isWithin v2 (0 : Int32) (300 : Int32) s_8) fun r_19 s_19 =>
  if r_19 = 0 then
  (bd (fX10_finding v0 (-100001 : Int32) s_19) fun r_28 s_28 =>
  some (r_28, s_28))
  else
  (bd (fX10_keepForUndo v0 s_19) fun r_33 s_33 =>
  gd (inR v1 (ln (rf (rf (rf v0 2) 1) 5))) <|
  lt (s_33 (rf (rf (rf v0 2) 1) 5) (v1).toNatClampNeg) fun v3_48 =>
  gd (inR v1 (ln (rf (rf (rf v0 2) 1) 5))) <|
  lt (wr s_33 (rf (rf (rf v0 2) 1) 5) (v1).toNatClampNeg v2) fun s_61 =>
  some (v3_48, s_61)))
def fX9_passes (v0 : Nat) (v1 : Int32) (v2 : Int32) (σ : Sg) : Option (Int32 × Sg) :=
  gd (inR v1 (ln (rf v0 2))) <|
  gd (inR v1 (ln (rf v0 3))) <|
  if v2 < (if (σ (rf v0 3) (v1).toNatClampNeg) < (σ (rf v0 2) (v1).toNatClampNeg) then (σ (rf v0 3) (v1).toNatClampNeg) else (σ (rf v0 2) (v1).toNatClampNeg)) then
  (gd ((0 : Int32) = 0 ∨ (0 : Int32) = 1) (some ((0 : Int32), σ)))
  else
  (gd (inR v1 (ln (rf v0 2))) <|
  gd (inR v1 (ln (rf v0 3))) <|
  if (if (σ (rf v0 2) (v1).toNatClampNeg) < (σ (rf v0 3) (v1).toNatClampNeg) then (σ (rf v0 3) (v1).toNatClampNeg) else (σ (rf v0 2) (v1).toNatClampNeg)) < v2 then
  (gd ((0 : Int32) = 0 ∨ (0 : Int32) = 1) (some ((0 : Int32), σ)))
  else
  (gd ((1 : Int32) = 0 ∨ (1 : Int32) = 1) (some ((1 : Int32), σ))))
def fX8_minutesBetween_26 (v0 : Nat) (v3 : Int32) (k26 : Int32 → Int32 → Sg → Option (Int32 × Sg)) (v4 : Int32) (v5 : Int32) (σ : Sg) : Option (Int32 × Sg) :=
  if v3 ≤ v5 then
  (some (v4, σ))
  else
  (gd (inR v5 (ln (rf v0 2))) <|
  lt (v4 + (σ (rf v0 2) (v5).toNatClampNeg)) fun v4_42 =>
  lt (v5 + (1 : Int32)) fun v5_44 =>
  k26 v4_42 v5_44 σ)
def fX8_minutesBetween_24 (v0 : Nat) (v3 : Int32) (v4 : Int32) (w0 : Int32) (σ : Sg) : Option (Int32 × Sg) :=
  lt w0 fun v5_24 =>
  lq2 (fX8_minutesBetween_26 v0 v3) FU v4 v5_24 σ
def fX8_minutesBetween_10 (v0 : Nat) (v1 : Int32) (v2 : Int32) (w0 : Int32) (σ : Sg) : Option (Int32 × Sg) :=
  lt w0 fun v3_10 =>
  lt (0 : Int32) fun v4_12 =>
  if v2 ≤ v1 then
  (fX8_minutesBetween_24 v0 v3_10 v4_12 v2 σ)
  else
  (fX8_minutesBetween_24 v0 v3_10 v4_12 v1 σ)
def fX8_minutesBetween (v0 : Nat) (v1 : Int32) (v2 : Int32) (σ : Sg) : Option (Int32 × Sg) :=
  if v2 ≤ v1 then
  (fX8_minutesBetween_10 v0 v1 v2 v1 σ)
  else
  (fX8_minutesBetween_10 v0 v1 v2 v2 σ)
def fX3_dueAt (v0 : Nat) (v1 : Int32) (v2 : Int32) (σ : Sg) : Option (Int32 × Sg) :=
  gd (inR v1 (ln (rf (rf v0 1) 5))) <|
  gd (inR v1 (ln (rf (rf v0 1) 2))) <|
  bd (fX8_minutesBetween (rf v0 0) (σ (rf (rf v0 1) 2) (v1).toNatClampNeg) v2 σ) fun r_23 s_23 =>
  some (((σ (rf (rf v0 1) 5) (v1).toNatClampNeg) + r_23), s_23)
def fX10_due (v0 : Nat) (v1 : Int32) (v2 : Int32) (σ : Sg) : Option (Int32 × Sg) :=
  bd (fX9_has (rf (rf v0 2) 1) v1 σ) fun r_8 s_8 =>
  if r_8 = 0 then
  (bd (fX10_finding v0 (-100001 : Int32) s_8) fun r_31 s_31 =>
  some (r_31, s_31))
  else
  (bd (fX8_hasStation (rf (rf v0 2) 0) v2 s_8) fun r_22 s_22 =>
  if r_22 = 0 then
  (bd (fX10_finding v0 (-100001 : Int32) s_22) fun r_31 s_31 =>
  some (r_31, s_31))
  else
  (bd (fX9_passes (rf (rf v0 2) 1) v1 v2 s_22) fun r_44 s_44 =>
  if r_44 = 0 then
  (bd (fX10_finding v0 (-100006 : Int32) s_44) fun r_53 s_53 =>
  some (r_53, s_53))
  else
  (bd (fX3_dueAt (rf v0 2) v1 v2 s_44) fun r_63 s_63 =>
  some (r_63, s_63))))
def fX9_areContrary (v0 : Nat) (v1 : Int32) (v2 : Int32) (σ : Sg) : Option (Int32 × Sg) :=
  bd (fX9_wayOf v0 v1 σ) fun r_2 s_2 =>
  bd (fX9_wayOf v0 v2 s_2) fun r_7 s_7 =>
  if r_2 = r_7 then
  (gd ((0 : Int32) = 0 ∨ (0 : Int32) = 1) (some ((0 : Int32), s_7)))
  else
  (gd ((1 : Int32) = 0 ∨ (1 : Int32) = 1) (some ((1 : Int32), s_7)))
def fX9_strength (v0 : Nat) (v1 : Int32) (v2 : Int32) (σ : Sg) : Option (Int32 × Sg) :=
  gd (inR v1 (ln (rf v0 1))) <|
  gd (inR (σ (rf v0 1) (v1).toNatClampNeg) 4) <|
  if v2 = 0 then
  (some ((((2 : Int32) * (rnk ((σ (rf v0 1) (v1).toNatClampNeg)).toNatClampNeg)) + (1 : Int32)), σ))
  else
  (some ((((2 : Int32) * (rnk ((σ (rf v0 1) (v1).toNatClampNeg)).toNatClampNeg)) + (0 : Int32)), σ))
def fX10_over (v0 : Nat) (v1 : Int32) (v2 : Int32) (σ : Sg) : Option (Int32 × Sg) :=
  bd (fX9_has (rf (rf v0 2) 1) v1 σ) fun r_8 s_8 =>
  if r_8 = 0 then
  (bd (fX10_finding v0 (-100001 : Int32) s_8) fun r_31 s_31 =>
  some (r_31, s_31))
  else
  (bd (fX9_has (rf (rf v0 2) 1) v2 s_8) fun r_22 s_22 =>
  if r_22 = 0 then
  (bd (fX10_finding v0 (-100001 : Int32) s_22) fun r_31 s_31 =>
  some (r_31, s_31))
  else
  (bd (fX9_areContrary (rf (rf v0 2) 1) v1 v2 s_22) fun r_44 s_44 =>
  if r_44 = 0 then
  (bd (fX10_finding v0 (-100003 : Int32) s_44) fun r_53 s_53 =>
  some (r_53, s_53))
  else
  (bd (fX9_wayOf (rf (rf v0 2) 1) v1 s_44) fun r_69 s_69 =>
  bd (fX9_strength (rf (rf v0 2) 1) v1 r_69 s_69) fun r_72 s_72 =>
  lt r_72 fun v4_75 =>
  bd (fX9_wayOf (rf (rf v0 2) 1) v2 s_72) fun r_83 s_83 =>
  bd (fX9_strength (rf (rf v0 2) 1) v2 r_83 s_83) fun r_86 s_86 =>
  if v4_75 ≤ r_86 then
  (some ((0 : Int32), s_86))
  else
  (some ((1 : Int32), s_86)))))
def fX10_refusalOfMeet (v0 : Nat) (v1 : Int32) (v2 : Int32) (v3 : Int32) (σ : Sg) : Option (Int32 × Sg) :=
  bd (fX9_has (rf (rf v0 2) 1) v1 σ) fun r_8 s_8 =>
  if r_8 = 0 then
  (some ((-100001 : Int32), s_8))
  else
  (bd (fX9_has (rf (rf v0 2) 1) v2 s_8) fun r_22 s_22 =>
  if r_22 = 0 then
  (some ((-100001 : Int32), s_22))
  else
  (bd (fX8_hasStation (rf (rf v0 2) 0) v3 s_22) fun r_36 s_36 =>
  if r_36 = 0 then
  (some ((-100001 : Int32), s_36))
  else
  (bd (fX9_areContrary (rf (rf v0 2) 1) v1 v2 s_36) fun r_54 s_54 =>
  if r_54 = 0 then
  (some ((-100003 : Int32), s_54))
  else
  (some ((0 : Int32), s_54)))))
def fX5_add_51 (v0 : Nat) (v6 : Int32) (k51 : Int32 → Sg → Option (Int32 × Sg)) (v7 : Int32) (σ : Sg) : Option (Int32 × Sg) :=
  if (5 : Int32) ≤ v7 then
  (lt (wr σ v0 0 ((σ v0 0) + (1 : Int32))) fun s_83 =>
  some (v6, s_83))
  else
  (gd (inR ((v6 * (5 : Int32)) + v7) (ln (rf v0 6))) <|
  lt (wr σ (rf v0 6) (((v6 * (5 : Int32)) + v7)).toNatClampNeg (-1 : Int32)) fun s_69 =>
  lt (v7 + (1 : Int32)) fun v7_70 =>
  k51 v7_70 s_69)
def fX5_add (v0 : Nat) (v1 : Int32) (v2 : Int32) (v3 : Int32) (v4 : Int32) (v5 : Int32) (σ : Sg) : Option (Int32 × Sg) :=
  lt (σ v0 0) fun v6_4 =>
  gd (inR v6_4 (ln (rf v0 1))) <|
  lt (wr σ (rf v0 1) (v6_4).toNatClampNeg v1) fun s_13 =>
  gd (inR v6_4 (ln (rf v0 2))) <|
  lt (wr s_13 (rf v0 2) (v6_4).toNatClampNeg v2) fun s_21 =>
  gd (inR v6_4 (ln (rf v0 3))) <|
  lt (wr s_21 (rf v0 3) (v6_4).toNatClampNeg v3) fun s_29 =>
  gd (inR v6_4 (ln (rf v0 4))) <|
  lt (wr s_29 (rf v0 4) (v6_4).toNatClampNeg v4) fun s_38 =>
  gd (inR v6_4 (ln (rf v0 5))) <|
  lt (wr s_38 (rf v0 5) (v6_4).toNatClampNeg v5) fun s_47 =>
  lt (0 : Int32) fun v7_49 =>
  lq1 (fX5_add_51 v0 v6_4) FU v7_49 s_47
def fX10_write (v0 : Nat) (v1 : Int32) (v2 : Int32) (v3 : Int32) (v4 : Int32) (v5 : Int32) (σ : Sg) : Option (Int32 × Sg) :=
  if (σ (rf (rf v0 2) 2) 0) < (12 : Int32) then
  (bd (fX10_keepForUndo v0 σ) fun r_23 s_23 =>
  bd (fX5_add (rf (rf v0 2) 2) v1 v2 v3 v4 v5 s_23) fun r_40 s_40 =>
  some (r_40, s_40))
  else
  (bd (fX10_finding v0 (-100005 : Int32) σ) fun r_18 s_18 =>
  some (r_18, s_18))
def fX10_meet (v0 : Nat) (v1 : Int32) (v2 : Int32) (v3 : Int32) (σ : Sg) : Option (Int32 × Sg) :=
  bd (fX10_refusalOfMeet v0 v1 v2 v3 σ) fun r_4 s_4 =>
  lt r_4 fun v4_7 =>
  if v4_7 = 0 then
  (bd (fX10_write v0 (0 : Int32) v1 v2 v3 (0 : Int32) s_4) fun r_27 s_27 =>
  some (r_27, s_27))
  else
  (bd (fX10_finding v0 v4_7 s_4) fun r_17 s_17 =>
  some (r_17, s_17))
def fX10_late (v0 : Nat) (v1 : Int32) (v2 : Int32) (σ : Sg) : Option (Int32 × Sg) :=
  bd (fX9_has (rf (rf v0 2) 1) v1 σ) fun r_8 s_8 =>
  if r_8 = 0 then
  (bd (fX10_finding v0 (-100001 : Int32) s_8) fun r_27 s_27 =>
  some (r_27, s_27))
  else
  (bd (fX10_isWithin v2 (1 : Int32) (120 : Int32) s_8) fun r_18 s_18 =>
  if r_18 = 0 then
  (bd (fX10_finding v0 (-100001 : Int32) s_18) fun r_27 s_27 =>
  some (r_27, s_27))
  else
  (bd (fX10_write v0 (1 : Int32) v1 (-1 : Int32) (-1 : Int32) v2 s_18) fun r_37 s_37 =>
  some (r_37, s_37)))
def fX10_wait (v0 : Nat) (v1 : Int32) (v2 : Int32) (v3 : Int32) (σ : Sg) : Option (Int32 × Sg) :=
  bd (fX9_has (rf (rf v0 2) 1) v1 σ) fun r_8 s_8 =>
  if r_8 = 0 then
  (bd (fX10_finding v0 (-100001 : Int32) s_8) fun r_42 s_42 =>
  some (r_42, s_42))
  else
  (bd (fX8_hasStation (rf (rf v0 2) 0) v2 s_8) fun r_22 s_22 =>
  if r_22 = 0 then
  (bd (fX10_finding v0 (-100001 : Int32) s_22) fun r_42 s_42 =>
  some (r_42, s_42))
  else
  (bd (fX10_isWithin v3 (0 : Int32) (400 : Int32) s_22) fun r_33 s_33 =>
  if r_33 = 0 then
  (bd (fX10_finding v0 (-100001 : Int32) s_33) fun r_42 s_42 =>
  some (r_42, s_42))
  else
  (bd (fX10_write v0 (2 : Int32) v1 (-1 : Int32) v2 v3 s_33) fun r_52 s_52 =>
  some (r_52, s_52))))
def fX10_run (v0 : Nat) (v1 : Int32) (v2 : Int32) (σ : Sg) : Option (Int32 × Sg) :=
  bd (fX9_has (rf (rf v0 2) 1) v1 σ) fun r_8 s_8 =>
  if r_8 = 0 then
  (bd (fX10_finding v0 (-100001 : Int32) s_8) fun r_28 s_28 =>
  some (r_28, s_28))
  else
  (bd (fX10_isWithin v2 (0 : Int32) (400 : Int32) s_8) fun r_19 s_19 =>
  if r_19 = 0 then
  (bd (fX10_finding v0 (-100001 : Int32) s_19) fun r_28 s_28 =>
  some (r_28, s_28))
  else
  (bd (fX10_write v0 (3 : Int32) v1 (-1 : Int32) (-1 : Int32) v2 s_19) fun r_38 s_38 =>
  some (r_38, s_38)))
def fX5_has (v0 : Nat) (v1 : Int32) (σ : Sg) : Option (Int32 × Sg) :=
  if v1 < 0 then
  (gd ((0 : Int32) = 0 ∨ (0 : Int32) = 1) (some ((0 : Int32), σ)))
  else
  (if (σ v0 0) ≤ v1 then
  (gd ((0 : Int32) = 0 ∨ (0 : Int32) = 1) (some ((0 : Int32), σ)))
  else
  (gd ((1 : Int32) = 0 ∨ (1 : Int32) = 1) (some ((1 : Int32), σ))))
def fX10_annul (v0 : Nat) (v1 : Int32) (σ : Sg) : Option (Int32 × Sg) :=
  bd (fX5_has (rf (rf v0 2) 2) v1 σ) fun r_8 s_8 =>
  if r_8 = 0 then
  (bd (fX10_finding v0 (-100001 : Int32) s_8) fun r_17 s_17 =>
  some (r_17, s_17))
  else
  (bd (fX10_write v0 (4 : Int32) v1 (-1 : Int32) (-1 : Int32) (0 : Int32) s_8) fun r_27 s_27 =>
  some (r_27, s_27))
def fX5_giveTo (v0 : Nat) (v1 : Int32) (v2 : Int32) (v3 : Int32) (σ : Sg) : Option (Int32 × Sg) :=
  lt ((v1 * (5 : Int32)) + v2) fun v4_5 =>
  gd (inR v4_5 (ln (rf v0 6))) <|
  lt (σ (rf v0 6) (v4_5).toNatClampNeg) fun v5_14 =>
  if v5_14 = (-1 : Int32) then
  (gd (inR v4_5 (ln (rf v0 6))) <|
  lt (wr σ (rf v0 6) (v4_5).toNatClampNeg v3) fun s_35 =>
  some (v5_14, s_35))
  else
  (if v5_14 ≤ v3 then
  (some (v5_14, σ))
  else
  (gd (inR v4_5 (ln (rf v0 6))) <|
  lt (wr σ (rf v0 6) (v4_5).toNatClampNeg v3) fun s_35 =>
  some (v5_14, s_35)))
def fX10_hand (v0 : Nat) (v1 : Int32) (v2 : Int32) (v3 : Int32) (σ : Sg) : Option (Int32 × Sg) :=
  bd (fX5_has (rf (rf v0 2) 2) v1 σ) fun r_8 s_8 =>
  if r_8 = 0 then
  (bd (fX10_finding v0 (-100001 : Int32) s_8) fun r_42 s_42 =>
  some (r_42, s_42))
  else
  (bd (fX9_has (rf (rf v0 2) 1) v2 s_8) fun r_22 s_22 =>
  if r_22 = 0 then
  (bd (fX10_finding v0 (-100001 : Int32) s_22) fun r_42 s_42 =>
  some (r_42, s_42))
  else
  (bd (fX10_isWithin v3 (0 : Int32) (400 : Int32) s_22) fun r_33 s_33 =>
  if r_33 = 0 then
  (bd (fX10_finding v0 (-100001 : Int32) s_33) fun r_42 s_42 =>
  some (r_42, s_42))
  else
  (bd (fX10_keepForUndo v0 s_33) fun r_47 s_47 =>
  bd (fX5_giveTo (rf (rf v0 2) 2) v1 v2 v3 s_47) fun r_60 s_60 =>
  some (r_60, s_60))))
def fX5_heldBy_88 (v0 : Nat) (v1 : Int32) (v2 : Int32) (v3 : Int32) (v4 : Int32) (v5 : Int32) (k13 : Int32 → Int32 → Int32 → Sg → Option (Int32 × Sg)) (σ : Sg) : Option (Int32 × Sg) :=
  lt (v5 + (-1 : Int32)) fun v5_88 =>
  k13 v3 v4 v5_88 σ
def fX5_heldBy_13 (v0 : Nat) (v1 : Int32) (v2 : Int32) (k13 : Int32 → Int32 → Int32 → Sg → Option (Int32 × Sg)) (v3 : Int32) (v4 : Int32) (v5 : Int32) (σ : Sg) : Option (Int32 × Sg) :=
  if v5 < 0 then
  (some (v3, σ))
  else
  (gd (inR ((v5 * (5 : Int32)) + v1) (ln (rf v0 6))) <|
  lt (σ (rf v0 6) (((v5 * (5 : Int32)) + v1)).toNatClampNeg) fun v6_29 =>
  if v6_29 = (-1 : Int32) then
  (fX5_heldBy_88 v0 v1 v2 v3 v4 v5 k13 σ)
  else
  (if v2 < v6_29 then
  (fX5_heldBy_88 v0 v1 v2 v3 v4 v5 k13 σ)
  else
  (if ((v4 >>> (v5 &&& 31)) &&& (1 : Int32)) = 0 then
  (lt (v3 ||| ((1 : Int32) <<< (v5 &&& 31))) fun v3_62 =>
  gd (inR v5 (ln (rf v0 1))) <|
  if (σ (rf v0 1) (v5).toNatClampNeg) = (4 : Int32) then
  (gd (inR v5 (ln (rf v0 2))) <|
  lt (v4 ||| ((1 : Int32) <<< ((σ (rf v0 2) (v5).toNatClampNeg) &&& 31))) fun v4_86 =>
  fX5_heldBy_88 v0 v1 v2 v3_62 v4_86 v5 k13 σ)
  else
  (fX5_heldBy_88 v0 v1 v2 v3_62 v4 v5 k13 σ))
  else
  (fX5_heldBy_88 v0 v1 v2 v3 v4 v5 k13 σ))))
def fX5_heldBy (v0 : Nat) (v1 : Int32) (v2 : Int32) (σ : Sg) : Option (Int32 × Sg) :=
  lt (0 : Int32) fun v3_1 =>
  lt (0 : Int32) fun v4_3 =>
  lt ((σ v0 0) - (1 : Int32)) fun v5_11 =>
  lq3 (fX5_heldBy_13 v0 v1 v2) FU v3_1 v4_3 v5_11 σ
def fX10_holds (v0 : Nat) (v1 : Int32) (v2 : Int32) (v3 : Int32) (σ : Sg) : Option (Int32 × Sg) :=
  bd (fX9_has (rf (rf v0 2) 1) v1 σ) fun r_8 s_8 =>
  if r_8 = 0 then
  (bd (fX10_finding v0 (-100001 : Int32) s_8) fun r_42 s_42 =>
  some (r_42, s_42))
  else
  (bd (fX5_has (rf (rf v0 2) 2) v2 s_8) fun r_22 s_22 =>
  if r_22 = 0 then
  (bd (fX10_finding v0 (-100001 : Int32) s_22) fun r_42 s_42 =>
  some (r_42, s_42))
  else
  (bd (fX10_isWithin v3 (0 : Int32) (500 : Int32) s_22) fun r_33 s_33 =>
  if r_33 = 0 then
  (bd (fX10_finding v0 (-100001 : Int32) s_33) fun r_42 s_42 =>
  some (r_42, s_42))
  else
  (bd (fX5_heldBy (rf (rf v0 2) 2) v1 v3 s_33) fun r_55 s_55 =>
  some (((r_55 >>> (v2 &&& 31)) &&& (1 : Int32)), s_55))))
def fX5_handedTo_29 (v0 : Nat) (v1 : Int32) (v2 : Int32) (v3 : Int32) (k4 : Int32 → Int32 → Sg → Option (Int32 × Sg)) (σ : Sg) : Option (Int32 × Sg) :=
  lt (v3 + (1 : Int32)) fun v3_29 =>
  k4 v2 v3_29 σ
def fX5_handedTo_4 (v0 : Nat) (v1 : Int32) (k4 : Int32 → Int32 → Sg → Option (Int32 × Sg)) (v2 : Int32) (v3 : Int32) (σ : Sg) : Option (Int32 × Sg) :=
  if (5 : Int32) ≤ v3 then
  (some (v2, σ))
  else
  (gd (inR ((v1 * (5 : Int32)) + v3) (ln (rf v0 6))) <|
  if (σ (rf v0 6) (((v1 * (5 : Int32)) + v3)).toNatClampNeg) = (-1 : Int32) then
  (fX5_handedTo_29 v0 v1 v2 v3 k4 σ)
  else
  (lt (v2 ||| ((1 : Int32) <<< (v3 &&& 31))) fun v2_28 =>
  fX5_handedTo_29 v0 v1 v2_28 v3 k4 σ))
def fX5_handedTo (v0 : Nat) (v1 : Int32) (σ : Sg) : Option (Int32 × Sg) :=
  lt (0 : Int32) fun v2_1 =>
  lt (0 : Int32) fun v3_3 =>
  lq2 (fX5_handedTo_4 v0 v1) FU v2_1 v3_3 σ
def fX5_tell (v0 : Nat) (v1 : Int32) (v2 : Int32) (σ : Sg) : Option (Int32 × Sg) :=
  if v2 = (0 : Int32) then
  (gd (inR v1 (ln (rf v0 1))) <|
  some ((σ (rf v0 1) (v1).toNatClampNeg), σ))
  else
  (if v2 = (1 : Int32) then
  (gd (inR v1 (ln (rf v0 2))) <|
  some ((σ (rf v0 2) (v1).toNatClampNeg), σ))
  else
  (if v2 = (2 : Int32) then
  (gd (inR v1 (ln (rf v0 3))) <|
  some ((σ (rf v0 3) (v1).toNatClampNeg), σ))
  else
  (if v2 = (3 : Int32) then
  (gd (inR v1 (ln (rf v0 4))) <|
  some ((σ (rf v0 4) (v1).toNatClampNeg), σ))
  else
  (if v2 = (4 : Int32) then
  (gd (inR v1 (ln (rf v0 5))) <|
  some ((σ (rf v0 5) (v1).toNatClampNeg), σ))
  else
  (bd (fX5_handedTo v0 v1 σ) fun r_73 s_73 =>
  some (r_73, s_73))))))
def fX10_order (v0 : Nat) (v1 : Int32) (v2 : Int32) (σ : Sg) : Option (Int32 × Sg) :=
  bd (fX5_has (rf (rf v0 2) 2) v1 σ) fun r_8 s_8 =>
  if r_8 = 0 then
  (bd (fX10_finding v0 (-100001 : Int32) s_8) fun r_26 s_26 =>
  some (r_26, s_26))
  else
  (bd (fX10_isWithin v2 (0 : Int32) (5 : Int32) s_8) fun r_17 s_17 =>
  if r_17 = 0 then
  (bd (fX10_finding v0 (-100001 : Int32) s_17) fun r_26 s_26 =>
  some (r_26, s_26))
  else
  (bd (fX5_tell (rf (rf v0 2) 2) v1 v2 s_17) fun r_39 s_39 =>
  some (r_39, s_39)))
def fX3_addForced (v0 : Nat) (v1 : Int32) (v2 : Int32) (σ : Sg) : Option (Int32 × Sg) :=
  gd (inR (σ v0 3) (ln (rf v0 4))) <|
  lt (wr σ (rf v0 4) ((σ v0 3)).toNatClampNeg v1) fun s_9 =>
  gd (inR (s_9 v0 3) (ln (rf v0 5))) <|
  lt (wr s_9 (rf v0 5) ((s_9 v0 3)).toNatClampNeg v2) fun s_19 =>
  lt (wr s_19 v0 3 ((s_19 v0 3) + (1 : Int32))) fun s_27 =>
  some ((s_27 v0 3), s_27)
def fX10_force (v0 : Nat) (v1 : Int32) (v2 : Int32) (σ : Sg) : Option (Int32 × Sg) :=
  bd (fX9_has (rf (rf v0 2) 1) v1 σ) fun r_8 s_8 =>
  if r_8 = 0 then
  (bd (fX10_finding v0 (-100001 : Int32) s_8) fun r_28 s_28 =>
  some (r_28, s_28))
  else
  (bd (fX10_isWithin v2 (0 : Int32) (500 : Int32) s_8) fun r_19 s_19 =>
  if r_19 = 0 then
  (bd (fX10_finding v0 (-100001 : Int32) s_19) fun r_28 s_28 =>
  some (r_28, s_28))
  else
  (if (s_19 (rf v0 2) 3) < (6 : Int32) then
  (bd (fX10_keepForUndo v0 s_19) fun r_52 s_52 =>
  bd (fX3_addForced (rf v0 2) v1 v2 s_52) fun r_61 s_61 =>
  some (r_61, s_61))
  else
  (bd (fX10_finding v0 (-100005 : Int32) s_19) fun r_47 s_47 =>
  some (r_47, s_47))))
def fJ7_fill_53178_5 (v0 : Nat) (v1 : Int32) (v3 : Int32) (k5 : Int32 → Sg → Option (Unit × Sg)) (v2 : Int32) (σ : Sg) : Option (Unit × Sg) :=
  if v3 ≤ v2 then
  (some ((), σ))
  else
  (gd (inR v2 (ln v0)) <|
  lt (wr σ v0 (v2).toNatClampNeg v1) fun s_13 =>
  lt (v2 + (1 : Int32)) fun v2_14 =>
  k5 v2_14 s_13)
def fJ7_fill_53178 (v0 : Nat) (v1 : Int32) (σ : Sg) : Option (Unit × Sg) :=
  lt (0 : Int32) fun v2_1 =>
  lt (nI (ln v0)) fun v3_4 =>
  lq1 (fJ7_fill_53178_5 v0 v1 v3_4) FU v2_1 σ
def fX1_begin (v0 : Nat) (σ : Sg) : Option (Unit × Sg) :=
  lt (wr σ v0 0 (0 : Int32)) fun s_2 =>
  bd (fJ7_fill_53178 (rf v0 3) (-1 : Int32) s_2) fun r_10 s_10 =>
  bd (fJ7_fill_53178 (rf v0 4) (-1 : Int32) s_10) fun r_18 s_18 =>
  lt (wr s_18 v0 5 (0 : Int32)) fun s_23 =>
  lt (wr s_23 v0 6 (0 : Int32)) fun s_28 =>
  lt (wr s_28 v0 11 (0 : Int32)) fun s_33 =>
  lt (wr s_33 v0 12 (0 : Int32)) fun s_38 =>
  some ((), s_38)
def fX9_route (v0 : Nat) (v1 : Int32) (σ : Sg) : Option (Int32 × Sg) :=
  gd (inR v1 (ln (rf v0 2))) <|
  gd (inR v1 (ln (rf v0 3))) <|
  lt (if (σ (rf v0 3) (v1).toNatClampNeg) < (σ (rf v0 2) (v1).toNatClampNeg) then (σ (rf v0 3) (v1).toNatClampNeg) else (σ (rf v0 2) (v1).toNatClampNeg)) fun v2_15 =>
  gd (inR v1 (ln (rf v0 2))) <|
  gd (inR v1 (ln (rf v0 3))) <|
  lt (if (σ (rf v0 2) (v1).toNatClampNeg) < (σ (rf v0 3) (v1).toNatClampNeg) then (σ (rf v0 3) (v1).toNatClampNeg) else (σ (rf v0 2) (v1).toNatClampNeg)) fun v3_31 =>
  some ((((1 : Int32) <<< (v3_31 &&& 31)) - ((1 : Int32) <<< (v2_15 &&& 31))), σ)
def fX9_isTimetabled (v0 : Nat) (v1 : Int32) (σ : Sg) : Option (Int32 × Sg) :=
  gd (inR v1 (ln (rf v0 1))) <|
  if (σ (rf v0 1) (v1).toNatClampNeg) = (1 : Int32) then
  (gd ((1 : Int32) = 0 ∨ (1 : Int32) = 1) (some ((1 : Int32), σ)))
  else
  (gd (inR v1 (ln (rf v0 1))) <|
  if (σ (rf v0 1) (v1).toNatClampNeg) = (2 : Int32) then
  (gd ((1 : Int32) = 0 ∨ (1 : Int32) = 1) (some ((1 : Int32), σ)))
  else
  (gd ((0 : Int32) = 0 ∨ (0 : Int32) = 1) (some ((0 : Int32), σ))))
def fX0_beginTrain_101 (v0 : Nat) (v1 : Int32) (v2 : Nat) (k101 : Int32 → Sg → Option (Unit × Sg)) (v3 : Int32) (σ : Sg) : Option (Unit × Sg) :=
  if (σ (rf (rf v0 0) 0) 0) ≤ v3 then
  (some ((), σ))
  else
  (gd (inR v1 (ln (rf v2 5))) <|
  gd (inR v1 (ln (rf v2 2))) <|
  bd (fX8_minutesBetween (rf (rf v0 0) 0) (σ (rf v2 2) (v1).toNatClampNeg) v3 σ) fun r_145 s_145 =>
  gd (inR ((v1 * (7 : Int32)) + v3) (ln (rf v0 4))) <|
  lt (wr s_145 (rf v0 4) (((v1 * (7 : Int32)) + v3)).toNatClampNeg ((σ (rf v2 5) (v1).toNatClampNeg) + r_145)) fun s_149 =>
  lt (v3 + (1 : Int32)) fun v3_150 =>
  k101 v3_150 s_149)
def fX0_beginTrain_95 (v0 : Nat) (v1 : Int32) (v2 : Nat) (w0 : Int32) (w1 : Int32) (w2 : Nat) (σ : Sg) : Option (Unit × Sg) :=
  lt (wr σ w2 13 (w1 ||| w0)) fun s_96 =>
  lt (0 : Int32) fun v3_100 =>
  lq1 (fX0_beginTrain_101 v0 v1 v2) FU v3_100 s_96
def fX0_beginTrain (v0 : Nat) (v1 : Int32) (σ : Sg) : Option (Unit × Sg) :=
  gd (inR v1 (ln (rf v0 6))) <|
  lt (wr σ (rf v0 6) (v1).toNatClampNeg (200 : Int32)) fun s_16 =>
  bd (fX9_wayOf (rf (rf v0 0) 1) v1 s_16) fun r_24 s_24 =>
  gd (inR v1 (ln (rf v0 7))) <|
  lt (wr s_24 (rf v0 7) (v1).toNatClampNeg r_24) fun s_27 =>
  gd (inR v1 (ln (rf v0 7))) <|
  bd (fX9_strength (rf (rf v0 0) 1) v1 (s_27 (rf v0 7) (v1).toNatClampNeg) s_27) fun r_41 s_41 =>
  gd (inR v1 (ln (rf v0 8))) <|
  lt (wr s_41 (rf v0 8) (v1).toNatClampNeg r_41) fun s_44 =>
  gd (inR v1 (ln (rf (rf (rf v0 0) 1) 3))) <|
  gd (inR v1 (ln (rf v0 9))) <|
  lt (wr s_44 (rf v0 9) (v1).toNatClampNeg (s_44 (rf (rf (rf v0 0) 1) 3) (v1).toNatClampNeg)) fun s_56 =>
  bd (fX9_route (rf (rf v0 0) 1) v1 s_56) fun r_64 s_64 =>
  gd (inR v1 (ln (rf v0 5))) <|
  lt (wr s_64 (rf v0 5) (v1).toNatClampNeg r_64) fun s_67 =>
  gd (inR v1 (ln (rf v0 10))) <|
  lt (wr s_67 (rf v0 10) (v1).toNatClampNeg (-1 : Int32)) fun s_74 =>
  bd (fX9_isTimetabled (rf (rf v0 0) 1) v1 s_74) fun r_82 s_82 =>
  if r_82 = 0 then
  (fX0_beginTrain_95 v0 v1 (rf (rf v0 0) 1) (0 : Int32) (s_74 v0 13) v0 s_82)
  else
  (fX0_beginTrain_95 v0 v1 (rf (rf v0 0) 1) ((1 : Int32) <<< (v1 &&& 31)) (s_74 v0 13) v0 s_82)
def fX6_begin (v0 : Nat) (v1 : Int32) (v2 : Int32) (σ : Sg) : Option (Unit × Sg) :=
  lt (wr σ v0 1 v1) fun s_2 =>
  lt (wr s_2 v0 2 v2) fun s_7 =>
  lt (wr s_7 v0 3 (0 : Int32)) fun s_12 =>
  some ((), s_12)
def fX0_begin_87 (v0 : Nat) (v1 : Int32) (v2 : Int32) (v3 : Int32) (v4 : Int32) (w0 : Int32) (w1 : Nat) (k38 : Int32 → Sg → Option (Unit × Sg)) (σ : Sg) : Option (Unit × Sg) :=
  bd (fX6_begin w1 w0 v3 σ) fun r_88 s_88 =>
  lt (wr s_88 (rf v0 1) 12 ((s_88 (rf v0 1) 12) + (1000 : Int32))) fun s_103 =>
  lt (v4 + (1 : Int32)) fun v4_106 =>
  k38 v4_106 s_103
def fX0_begin_38 (v0 : Nat) (v1 : Int32) (v2 : Int32) (v3 : Int32) (k38 : Int32 → Sg → Option (Unit × Sg)) (v4 : Int32) (σ : Sg) : Option (Unit × Sg) :=
  if (σ (rf (rf v0 0) 1) 0) ≤ v4 then
  (some ((), σ))
  else
  (bd (fX0_beginTrain v0 v4 σ) fun r_56 s_56 =>
  gd (inR v4 (ln (rf v0 3))) <|
  if v4 = v1 then
  (fX0_begin_87 v0 v1 v2 v3 v4 v2 (rf (rf v0 3) (v4).toNatClampNeg) k38 s_56)
  else
  (if v4 = v2 then
  (fX0_begin_87 v0 v1 v2 v3 v4 v1 (rf (rf v0 3) (v4).toNatClampNeg) k38 s_56)
  else
  (fX0_begin_87 v0 v1 v2 v3 v4 (-1 : Int32) (rf (rf v0 3) (v4).toNatClampNeg) k38 s_56)))
def fX0_begin (v0 : Nat) (v1 : Int32) (v2 : Int32) (v3 : Int32) (σ : Sg) : Option (Unit × Sg) :=
  bd (fX1_begin (rf v0 1) σ) fun r_4 s_4 =>
  bd (fJ7_fill_53178 (rf v0 11) (0 : Int32) s_4) fun r_12 s_12 =>
  bd (fJ7_fill_53178 (rf v0 12) (-1000 : Int32) s_12) fun r_22 s_22 =>
  lt (wr s_22 v0 13 (0 : Int32)) fun s_27 =>
  lt (wr s_27 v0 14 (0 : Int32)) fun s_32 =>
  lt (0 : Int32) fun v4_36 =>
  lq1 (fX0_begin_38 v0 v1 v2 v3) FU v4_36 s_32
def fX0_isInSection (v0 : Nat) (v1 : Int32) (σ : Sg) : Option (Int32 × Sg) :=
  gd (inR v1 (ln (rf v0 6))) <|
  if (σ (rf v0 6) (v1).toNatClampNeg) < (100 : Int32) then
  (gd ((0 : Int32) = 0 ∨ (0 : Int32) = 1) (some ((0 : Int32), σ)))
  else
  (gd (inR v1 (ln (rf v0 6))) <|
  if (200 : Int32) ≤ (σ (rf v0 6) (v1).toNatClampNeg) then
  (gd ((0 : Int32) = 0 ∨ (0 : Int32) = 1) (some ((0 : Int32), σ)))
  else
  (gd ((1 : Int32) = 0 ∨ (1 : Int32) = 1) (some ((1 : Int32), σ))))
def fX1_noteCame (v0 : Nat) (v1 : Int32) (v2 : Int32) (v3 : Int32) (σ : Sg) : Option (Unit × Sg) :=
  lt ((v1 * (7 : Int32)) + v2) fun v4_6 =>
  gd (inR v4_6 (ln (rf v0 3))) <|
  if (σ (rf v0 3) (v4_6).toNatClampNeg) = (-1 : Int32) then
  (gd (inR v4_6 (ln (rf v0 3))) <|
  lt (wr σ (rf v0 3) (v4_6).toNatClampNeg v3) fun s_26 =>
  some ((), s_26))
  else
  (some ((), σ))
def fX0_goOff_77 (v0 : Nat) (v2 : Int32) (v3 : Int32) (σ : Sg) : Option (Unit × Sg) :=
  lt (wr σ (rf v0 1) 12 ((σ (rf v0 1) 12) + ((v2 - v3) - (1000 : Int32)))) fun s_93 =>
  some ((), s_93)
def fX0_goOff (v0 : Nat) (v1 : Int32) (v2 : Int32) (σ : Sg) : Option (Unit × Sg) :=
  gd (inR v1 (ln (rf v0 6))) <|
  lt (wr σ (rf v0 6) (v1).toNatClampNeg (300 : Int32)) fun s_8 =>
  lt (wr s_8 v0 14 ((s_8 v0 14) ||| ((1 : Int32) <<< (v1 &&& 31)))) fun s_18 =>
  gd (inR v1 (ln (rf (rf (rf v0 0) 1) 3))) <|
  gd (inR ((v1 * (7 : Int32)) + (s_18 (rf (rf (rf v0 0) 1) 3) (v1).toNatClampNeg)) (ln (rf v0 4))) <|
  lt (s_18 (rf v0 4) (((v1 * (7 : Int32)) + (s_18 (rf (rf (rf v0 0) 1) 3) (v1).toNatClampNeg))).toNatClampNeg) fun v3_43 =>
  gd (inR v1 (ln (rf (rf (rf v0 0) 1) 1))) <|
  if (s_18 (rf (rf (rf v0 0) 1) 1) (v1).toNatClampNeg) = (3 : Int32) then
  (gd (inR v1 (ln (rf (rf (rf v0 0) 1) 5))) <|
  lt (v3_43 + (v3_43 - (s_18 (rf (rf (rf v0 0) 1) 5) (v1).toNatClampNeg))) fun v3_76 =>
  fX0_goOff_77 v0 v2 v3_76 s_18)
  else
  (fX0_goOff_77 v0 v2 v3_43 s_18)
def fX0_turnBack (v0 : Nat) (v1 : Int32) (σ : Sg) : Option (Unit × Sg) :=
  gd (inR v1 (ln (rf v0 7))) <|
  gd (inR v1 (ln (rf v0 7))) <|
  lt (wr σ (rf v0 7) (v1).toNatClampNeg ((1 : Int32) - (σ (rf v0 7) (v1).toNatClampNeg))) fun s_13 =>
  gd (inR v1 (ln (rf v0 7))) <|
  bd (fX9_strength (rf (rf v0 0) 1) v1 (s_13 (rf v0 7) (v1).toNatClampNeg) s_13) fun r_33 s_33 =>
  gd (inR v1 (ln (rf v0 8))) <|
  lt (wr s_33 (rf v0 8) (v1).toNatClampNeg r_33) fun s_36 =>
  gd (inR v1 (ln (rf (rf (rf v0 0) 1) 2))) <|
  gd (inR v1 (ln (rf v0 9))) <|
  lt (wr s_36 (rf v0 9) (v1).toNatClampNeg (s_36 (rf (rf (rf v0 0) 1) 2) (v1).toNatClampNeg)) fun s_54 =>
  some ((), s_54)
def fX0_isFoul_106 (v0 : Nat) (v1 : Int32) (v2 : Int32) (v3 : Int32) (v4 : Int32) (v5 : Int32) (v6 : Int32) (k42 : Int32 → Int32 → Int32 → Sg → Option (Int32 × Sg)) (σ : Sg) : Option (Int32 × Sg) :=
  lt (v6 + (1 : Int32)) fun v6_106 =>
  k42 v4 v5 v6_106 σ
def fX0_isFoul_104 (v0 : Nat) (v1 : Int32) (v2 : Int32) (v3 : Int32) (v4 : Int32) (v6 : Int32) (w0 : Int32) (k42 : Int32 → Int32 → Int32 → Sg → Option (Int32 × Sg)) (σ : Sg) : Option (Int32 × Sg) :=
  lt w0 fun v5_104 =>
  fX0_isFoul_106 v0 v1 v2 v3 v4 v5_104 v6 k42 σ
def fX0_isFoul_99 (v0 : Nat) (v1 : Int32) (v2 : Int32) (v3 : Int32) (v4 : Int32) (v6 : Int32) (k42 : Int32 → Int32 → Int32 → Sg → Option (Int32 × Sg)) (σ : Sg) : Option (Int32 × Sg) :=
  fX0_isFoul_104 v0 v1 v2 v3 v4 v6 (1 : Int32) k42 σ
def fX0_isFoul_42 (v0 : Nat) (v1 : Int32) (v2 : Int32) (v3 : Int32) (k42 : Int32 → Int32 → Int32 → Sg → Option (Int32 × Sg)) (v4 : Int32) (v5 : Int32) (v6 : Int32) (σ : Sg) : Option (Int32 × Sg) :=
  if (σ (rf (rf v0 0) 1) 0) ≤ v6 then
  (if (2 : Int32) ≤ v4 then
  (gd ((1 : Int32) = 0 ∨ (1 : Int32) = 1) (some ((1 : Int32), σ)))
  else
  (if v4 = (1 : Int32) then
  (if v5 = 0 then
  (gd ((1 : Int32) = 0 ∨ (1 : Int32) = 1) (some ((1 : Int32), σ)))
  else
  (gd ((0 : Int32) = 0 ∨ (0 : Int32) = 1) (some ((0 : Int32), σ))))
  else
  (gd ((0 : Int32) = 0 ∨ (0 : Int32) = 1) (some ((0 : Int32), σ)))))
  else
  (if v6 = v1 then
  (fX0_isFoul_106 v0 v1 v2 v3 v4 v5 v6 k42 σ)
  else
  (gd (inR v6 (ln (rf v0 6))) <|
  if (σ (rf v0 6) (v6).toNatClampNeg) = v2 then
  (lt (v4 + (1 : Int32)) fun v4_74 =>
  if v5 = 0 then
  (gd (inR v6 (ln (rf (rf (rf v0 0) 1) 4))) <|
  if v3 < (σ (rf (rf (rf v0 0) 1) 4) (v6).toNatClampNeg) then
  (fX0_isFoul_104 v0 v1 v2 v3 v4_74 v6 (0 : Int32) k42 σ)
  else
  (fX0_isFoul_99 v0 v1 v2 v3 v4_74 v6 k42 σ))
  else
  (fX0_isFoul_99 v0 v1 v2 v3 v4_74 v6 k42 σ))
  else
  (fX0_isFoul_106 v0 v1 v2 v3 v4 v5 v6 k42 σ)))
def fX0_isFoul_37 (v0 : Nat) (v1 : Int32) (v2 : Int32) (v3 : Int32) (v4 : Int32) (w0 : Int32) (σ : Sg) : Option (Int32 × Sg) :=
  lt w0 fun v5_37 =>
  lt (0 : Int32) fun v6_40 =>
  lq3 (fX0_isFoul_42 v0 v1 v2 v3) FU v4 v5_37 v6_40 σ
def fX0_isFoul (v0 : Nat) (v1 : Int32) (v2 : Int32) (σ : Sg) : Option (Int32 × Sg) :=
  gd (inR v2 (ln (rf (rf (rf v0 0) 0) 1))) <|
  lt (σ (rf (rf (rf v0 0) 0) 1) (v2).toNatClampNeg) fun v3_12 =>
  lt (0 : Int32) fun v4_14 =>
  gd (inR v1 (ln (rf (rf (rf v0 0) 1) 4))) <|
  if v3_12 < (σ (rf (rf (rf v0 0) 1) 4) (v1).toNatClampNeg) then
  (fX0_isFoul_37 v0 v1 v2 v3_12 v4_14 (0 : Int32) σ)
  else
  (fX0_isFoul_37 v0 v1 v2 v3_12 v4_14 (1 : Int32) σ)
def fX0_stand (v0 : Nat) (v1 : Int32) (v2 : Int32) (σ : Sg) : Option (Unit × Sg) :=
  gd (inR v1 (ln (rf v0 6))) <|
  lt (wr σ (rf v0 6) (v1).toNatClampNeg v2) fun s_6 =>
  gd (inR v1 (ln (rf v0 7))) <|
  gd (inR (((s_6 (rf v0 7) (v1).toNatClampNeg) * (7 : Int32)) + v2) (ln (rf v0 11))) <|
  gd (inR (((s_6 (rf v0 7) (v1).toNatClampNeg) * (7 : Int32)) + v2) (ln (rf v0 11))) <|
  lt (wr s_6 (rf v0 11) ((((s_6 (rf v0 7) (v1).toNatClampNeg) * (7 : Int32)) + v2)).toNatClampNeg ((s_6 (rf v0 11) ((((s_6 (rf v0 7) (v1).toNatClampNeg) * (7 : Int32)) + v2)).toNatClampNeg) ||| ((1 : Int32) <<< (v1 &&& 31)))) fun s_28 =>
  some ((), s_28)
def fX0_comeIn_64 (v0 : Nat) (v1 : Int32) (v2 : Int32) (σ : Sg) : Option (Unit × Sg) :=
  bd (fX0_isFoul v0 v1 v2 σ) fun r_67 s_67 =>
  if r_67 = 0 then
  (bd (fX0_stand v0 v1 v2 s_67) fun r_89 s_89 =>
  some ((), s_89))
  else
  (lt (wr s_67 (rf v0 1) 11 ((s_67 (rf v0 1) 11) + (1 : Int32))) fun s_83 =>
  bd (fX0_stand v0 v1 v2 s_83) fun r_89 s_89 =>
  some ((), s_89))
def fX0_comeIn (v0 : Nat) (v1 : Int32) (v2 : Int32) (v3 : Int32) (σ : Sg) : Option (Unit × Sg) :=
  bd (fX1_noteCame (rf v0 1) v1 v2 v3 σ) fun r_7 s_7 =>
  gd (inR v1 (ln (rf v0 9))) <|
  if v2 = (s_7 (rf v0 9) (v1).toNatClampNeg) then
  (gd (inR v1 (ln (rf (rf (rf v0 0) 1) 1))) <|
  if (s_7 (rf (rf (rf v0 0) 1) 1) (v1).toNatClampNeg) = (3 : Int32) then
  (gd (inR v1 (ln (rf (rf (rf v0 0) 1) 3))) <|
  if v2 = (s_7 (rf (rf (rf v0 0) 1) 3) (v1).toNatClampNeg) then
  (bd (fX0_turnBack v0 v1 s_7) fun r_61 s_61 =>
  fX0_comeIn_64 v0 v1 v2 s_61)
  else
  (bd (fX0_goOff v0 v1 v3 s_7) fun r_55 s_55 =>
  some ((), s_55)))
  else
  (bd (fX0_goOff v0 v1 v3 s_7) fun r_55 s_55 =>
  some ((), s_55)))
  else
  (fX0_comeIn_64 v0 v1 v2 s_7)
def fX0_letComeIn_85 (v0 : Nat) (v1 : Int32) (v2 : Int32) (k2 : Int32 → Sg → Option (Unit × Sg)) (σ : Sg) : Option (Unit × Sg) :=
  lt (v2 + (1 : Int32)) fun v2_85 =>
  k2 v2_85 σ
def fX0_letComeIn_80 (v0 : Nat) (v1 : Int32) (v2 : Int32) (w0 : Int32) (w1 : Int32) (w2 : Int32) (w3 : Nat) (k2 : Int32 → Sg → Option (Unit × Sg)) (σ : Sg) : Option (Unit × Sg) :=
  bd (fX0_comeIn w3 w2 (w1 + w0) v1 σ) fun r_82 s_82 =>
  fX0_letComeIn_85 v0 v1 v2 k2 s_82
def fX0_letComeIn_2 (v0 : Nat) (v1 : Int32) (k2 : Int32 → Sg → Option (Unit × Sg)) (v2 : Int32) (σ : Sg) : Option (Unit × Sg) :=
  if (σ (rf (rf v0 0) 1) 0) ≤ v2 then
  (some ((), σ))
  else
  (bd (fX0_isInSection v0 v2 σ) fun r_18 s_18 =>
  if r_18 = 0 then
  (fX0_letComeIn_85 v0 v1 v2 k2 s_18)
  else
  (gd (inR v2 (ln (rf v0 10))) <|
  gd (inR v2 (ln (rf v0 6))) <|
  gd (inR ((s_18 (rf v0 6) (v2).toNatClampNeg) - (100 : Int32)) (ln (rf (rf (rf v0 0) 0) 2))) <|
  if (v1 - (s_18 (rf v0 10) (v2).toNatClampNeg)) < (s_18 (rf (rf (rf v0 0) 0) 2) (((s_18 (rf v0 6) (v2).toNatClampNeg) - (100 : Int32))).toNatClampNeg) then
  (fX0_letComeIn_85 v0 v1 v2 k2 s_18)
  else
  (gd (inR v2 (ln (rf v0 6))) <|
  gd (inR v2 (ln (rf v0 7))) <|
  if (s_18 (rf v0 7) (v2).toNatClampNeg) = 0 then
  (fX0_letComeIn_80 v0 v1 v2 (1 : Int32) ((s_18 (rf v0 6) (v2).toNatClampNeg) - (100 : Int32)) v2 v0 k2 s_18)
  else
  (fX0_letComeIn_80 v0 v1 v2 (0 : Int32) ((s_18 (rf v0 6) (v2).toNatClampNeg) - (100 : Int32)) v2 v0 k2 s_18))))
def fX0_letComeIn (v0 : Nat) (v1 : Int32) (σ : Sg) : Option (Unit × Sg) :=
  lt (0 : Int32) fun v2_1 =>
  lq1 (fX0_letComeIn_2 v0 v1) FU v2_1 σ
def fX0_letAppear_82 (v0 : Nat) (v1 : Int32) (v2 : Int32) (k2 : Int32 → Sg → Option (Unit × Sg)) (σ : Sg) : Option (Unit × Sg) :=
  lt (v2 + (1 : Int32)) fun v2_82 =>
  k2 v2_82 σ
def fX0_letAppear_2 (v0 : Nat) (v1 : Int32) (k2 : Int32 → Sg → Option (Unit × Sg)) (v2 : Int32) (σ : Sg) : Option (Unit × Sg) :=
  if (σ (rf (rf v0 0) 1) 0) ≤ v2 then
  (some ((), σ))
  else
  (gd (inR v2 (ln (rf v0 6))) <|
  if (σ (rf v0 6) (v2).toNatClampNeg) = (200 : Int32) then
  (gd (inR v2 (ln (rf (rf (rf v0 0) 1) 5))) <|
  if (σ (rf (rf (rf v0 0) 1) 5) (v2).toNatClampNeg) = v1 then
  (gd (inR v2 (ln (rf (rf (rf v0 0) 1) 2))) <|
  bd (fX1_noteCame (rf v0 1) v2 (σ (rf (rf (rf v0 0) 1) 2) (v2).toNatClampNeg) v1 σ) fun r_62 s_62 =>
  gd (inR v2 (ln (rf (rf (rf v0 0) 1) 2))) <|
  bd (fX0_stand v0 v2 (s_62 (rf (rf (rf v0 0) 1) 2) (v2).toNatClampNeg) s_62) fun r_79 s_79 =>
  fX0_letAppear_82 v0 v1 v2 k2 s_79)
  else
  (fX0_letAppear_82 v0 v1 v2 k2 σ))
  else
  (fX0_letAppear_82 v0 v1 v2 k2 σ))
def fX0_letAppear (v0 : Nat) (v1 : Int32) (σ : Sg) : Option (Unit × Sg) :=
  lt (0 : Int32) fun v2_1 =>
  lq1 (fX0_letAppear_2 v0 v1) FU v2_1 σ
def fX0_isAtStation (v0 : Nat) (v1 : Int32) (σ : Sg) : Option (Int32 × Sg) :=
  gd (inR v1 (ln (rf v0 6))) <|
  if (100 : Int32) ≤ (σ (rf v0 6) (v1).toNatClampNeg) then
  (gd ((0 : Int32) = 0 ∨ (0 : Int32) = 1) (some ((0 : Int32), σ)))
  else
  (gd ((1 : Int32) = 0 ∨ (1 : Int32) = 1) (some ((1 : Int32), σ)))
def fX5_nextHanding_44 (v0 : Nat) (v1 : Int32) (v2 : Int32) (v3 : Int32) (v4 : Int32) (k7 : Int32 → Int32 → Sg → Option (Int32 × Sg)) (σ : Sg) : Option (Int32 × Sg) :=
  lt (v4 + (1 : Int32)) fun v4_44 =>
  k7 v3 v4_44 σ
def fX5_nextHanding_7 (v0 : Nat) (v1 : Int32) (v2 : Int32) (k7 : Int32 → Int32 → Sg → Option (Int32 × Sg)) (v3 : Int32) (v4 : Int32) (σ : Sg) : Option (Int32 × Sg) :=
  if (σ v0 0) ≤ v4 then
  (some (v3, σ))
  else
  (gd (inR ((v4 * (5 : Int32)) + v1) (ln (rf v0 6))) <|
  lt (σ (rf v0 6) (((v4 * (5 : Int32)) + v1)).toNatClampNeg) fun v5_27 =>
  if v5_27 ≤ v2 then
  (fX5_nextHanding_44 v0 v1 v2 v3 v4 k7 σ)
  else
  (if v3 ≤ v5_27 then
  (fX5_nextHanding_44 v0 v1 v2 v3 v4 k7 σ)
  else
  (lt v5_27 fun v3_43 =>
  fX5_nextHanding_44 v0 v1 v2 v3_43 v4 k7 σ)))
def fX5_nextHanding (v0 : Nat) (v1 : Int32) (v2 : Int32) (σ : Sg) : Option (Int32 × Sg) :=
  lt (501 : Int32) fun v3_3 =>
  lt (0 : Int32) fun v4_5 =>
  lq2 (fX5_nextHanding_7 v0 v1 v2) FU v3_3 v4_5 σ
def fX6_take_36 (v0 : Nat) (v1 : Nat) (v2 : Int32) (v3 : Int32) (v4 : Int32) (v5 : Int32) (w0 : Int32) (σ : Sg) : Option (Unit × Sg) :=
  lt w0 fun v6_36 =>
  gd (inR v2 (ln (rf v1 1))) <|
  if (σ (rf v1 1) (v2).toNatClampNeg) = (0 : Int32) then
  (if v6_36 = 0 then
  (gd (inR v2 (ln (rf v1 3))) <|
  if (σ (rf v1 3) (v2).toNatClampNeg) = (σ v0 0) then
  (gd (inR v5 (ln (rf v0 7))) <|
  gd (inR v5 (ln (rf v0 7))) <|
  lt (wr σ (rf v0 7) (v5).toNatClampNeg ((σ (rf v0 7) (v5).toNatClampNeg) ||| ((1 : Int32) <<< (v3 &&& 31)))) fun s_127 =>
  some ((), s_127))
  else
  (some ((), σ)))
  else
  (gd (inR v5 (ln (rf v0 7))) <|
  gd (inR v2 (ln (rf v1 3))) <|
  gd (inR v5 (ln (rf v0 7))) <|
  lt (wr σ (rf v0 7) (v5).toNatClampNeg ((σ (rf v0 7) (v5).toNatClampNeg) ||| ((1 : Int32) <<< ((σ (rf v1 3) (v2).toNatClampNeg) &&& 31)))) fun s_98 =>
  some ((), s_98)))
  else
  (if (σ (rf v1 1) (v2).toNatClampNeg) = (1 : Int32) then
  (gd (inR v3 (ln (rf v0 5))) <|
  gd (inR v3 (ln (rf v0 5))) <|
  lt (wr σ (rf v0 5) (v3).toNatClampNeg ((σ (rf v0 5) (v3).toNatClampNeg) + v4)) fun s_141 =>
  some ((), s_141))
  else
  (if (σ (rf v1 1) (v2).toNatClampNeg) = (2 : Int32) then
  (if v6_36 = 0 then
  (gd (inR v5 (ln (rf v0 6))) <|
  gd (inR v5 (ln (rf v0 6))) <|
  lt (wr σ (rf v0 6) (v5).toNatClampNeg (σ (rf v0 6) (v5).toNatClampNeg)) fun s_180 =>
  some ((), s_180))
  else
  (gd (inR v5 (ln (rf v0 6))) <|
  if v4 ≤ (σ (rf v0 6) (v5).toNatClampNeg) then
  (gd (inR v5 (ln (rf v0 6))) <|
  gd (inR v5 (ln (rf v0 6))) <|
  lt (wr σ (rf v0 6) (v5).toNatClampNeg (σ (rf v0 6) (v5).toNatClampNeg)) fun s_180 =>
  some ((), s_180))
  else
  (gd (inR v5 (ln (rf v0 6))) <|
  lt (wr σ (rf v0 6) (v5).toNatClampNeg v4) fun s_180 =>
  some ((), s_180))))
  else
  (if (σ (rf v1 1) (v2).toNatClampNeg) = (3 : Int32) then
  (if v6_36 = 0 then
  (lt (wr σ v0 4 (σ v0 4)) fun s_208 =>
  some ((), s_208))
  else
  (if (σ v0 4) ≤ v4 then
  (lt (wr σ v0 4 (σ v0 4)) fun s_208 =>
  some ((), s_208))
  else
  (lt (wr σ v0 4 v4) fun s_208 =>
  some ((), s_208))))
  else
  (some ((), σ)))))
def fX6_take (v0 : Nat) (v1 : Nat) (v2 : Int32) (σ : Sg) : Option (Unit × Sg) :=
  gd (inR v2 (ln (rf v1 2))) <|
  lt (σ (rf v1 2) (v2).toNatClampNeg) fun v3_6 =>
  gd (inR v2 (ln (rf v1 5))) <|
  lt (σ (rf v1 5) (v2).toNatClampNeg) fun v4_13 =>
  gd (inR v2 (ln (rf v1 4))) <|
  lt (σ (rf v1 4) (v2).toNatClampNeg) fun v5_21 =>
  if v3_6 = (σ v0 0) then
  (fX6_take_36 v0 v1 v2 v3_6 v4_13 v5_21 (1 : Int32) σ)
  else
  (fX6_take_36 v0 v1 v2 v3_6 v4_13 v5_21 (0 : Int32) σ)
def fX6_bringUpTo_91 (v0 : Nat) (v2 : Nat) (v3 : Int32) (v4 : Int32) (k66 : Int32 → Sg → Option (Unit × Sg)) (σ : Sg) : Option (Unit × Sg) :=
  lt (v4 + (1 : Int32)) fun v4_91 =>
  k66 v4_91 σ
def fX6_bringUpTo_66 (v0 : Nat) (v2 : Nat) (v3 : Int32) (k66 : Int32 → Sg → Option (Unit × Sg)) (v4 : Int32) (σ : Sg) : Option (Unit × Sg) :=
  if (σ v2 0) ≤ v4 then
  (if (σ v0 1) = (-1 : Int32) then
  (some ((), σ))
  else
  (gd (inR (σ v0 2) (ln (rf v0 7))) <|
  gd (inR (σ v0 2) (ln (rf v0 7))) <|
  lt (wr σ (rf v0 7) ((σ v0 2)).toNatClampNeg ((σ (rf v0 7) ((σ v0 2)).toNatClampNeg) ||| ((1 : Int32) <<< ((σ v0 1) &&& 31)))) fun s_122 =>
  some ((), s_122)))
  else
  (if ((v3 >>> (v4 &&& 31)) &&& (1 : Int32)) = 0 then
  (fX6_bringUpTo_91 v0 v2 v3 v4 k66 σ)
  else
  (bd (fX6_take v0 v2 v4 σ) fun r_88 s_88 =>
  fX6_bringUpTo_91 v0 v2 v3 v4 k66 s_88))
def fX6_bringUpTo (v0 : Nat) (v1 : Int32) (v2 : Nat) (σ : Sg) : Option (Unit × Sg) :=
  if (σ v0 3) ≤ v1 then
  (bd (fX5_nextHanding v2 (σ v0 0) v1 σ) fun r_16 s_16 =>
  lt (wr s_16 v0 3 r_16) fun s_19 =>
  lt (wr s_19 v0 4 (501 : Int32)) fun s_26 =>
  bd (fJ7_fill_53178 (rf v0 5) (0 : Int32) s_26) fun r_34 s_34 =>
  bd (fJ7_fill_53178 (rf v0 6) (0 : Int32) s_34) fun r_42 s_42 =>
  bd (fJ7_fill_53178 (rf v0 7) (0 : Int32) s_42) fun r_50 s_50 =>
  bd (fX5_heldBy v2 (s_50 v0 0) v1 s_50) fun r_59 s_59 =>
  lt r_59 fun v3_62 =>
  lt (0 : Int32) fun v4_64 =>
  lq1 (fX6_bringUpTo_66 v0 v2 v3_62) FU v4_64 s_59)
  else
  (some ((), σ))
def fX3_isForced_32 (v0 : Nat) (v1 : Int32) (v2 : Int32) (v3 : Int32) (k2 : Int32 → Sg → Option (Int32 × Sg)) (σ : Sg) : Option (Int32 × Sg) :=
  lt (v3 + (1 : Int32)) fun v3_32 =>
  k2 v3_32 σ
def fX3_isForced_2 (v0 : Nat) (v1 : Int32) (v2 : Int32) (k2 : Int32 → Sg → Option (Int32 × Sg)) (v3 : Int32) (σ : Sg) : Option (Int32 × Sg) :=
  if (σ v0 3) ≤ v3 then
  (gd ((0 : Int32) = 0 ∨ (0 : Int32) = 1) (some ((0 : Int32), σ)))
  else
  (gd (inR v3 (ln (rf v0 4))) <|
  if (σ (rf v0 4) (v3).toNatClampNeg) = v1 then
  (gd (inR v3 (ln (rf v0 5))) <|
  if (σ (rf v0 5) (v3).toNatClampNeg) = v2 then
  (gd ((1 : Int32) = 0 ∨ (1 : Int32) = 1) (some ((1 : Int32), σ)))
  else
  (fX3_isForced_32 v0 v1 v2 v3 k2 σ))
  else
  (fX3_isForced_32 v0 v1 v2 v3 k2 σ))
def fX3_isForced (v0 : Nat) (v1 : Int32) (v2 : Int32) (σ : Sg) : Option (Int32 × Sg) :=
  lt (0 : Int32) fun v3_1 =>
  lq1 (fX3_isForced_2 v0 v1 v2) FU v3_1 σ
def fX0_sectionAhead (v0 : Nat) (v1 : Int32) (σ : Sg) : Option (Int32 × Sg) :=
  gd (inR v1 (ln (rf v0 7))) <|
  if (σ (rf v0 7) (v1).toNatClampNeg) = 0 then
  (gd (inR v1 (ln (rf v0 6))) <|
  some ((σ (rf v0 6) (v1).toNatClampNeg), σ))
  else
  (gd (inR v1 (ln (rf v0 6))) <|
  some (((σ (rf v0 6) (v1).toNatClampNeg) - (1 : Int32)), σ))
def fX6_metBeyond_41 (v0 : Nat) (v1 : Int32) (v2 : Int32) (v3 : Int32) (v4 : Int32) (k5 : Int32 → Int32 → Sg → Option (Int32 × Sg)) (σ : Sg) : Option (Int32 × Sg) :=
  lt (v4 + (1 : Int32)) fun v4_41 =>
  k5 v3 v4_41 σ
def fX6_metBeyond_31 (v0 : Nat) (v1 : Int32) (v2 : Int32) (v3 : Int32) (v4 : Int32) (k5 : Int32 → Int32 → Sg → Option (Int32 × Sg)) (σ : Sg) : Option (Int32 × Sg) :=
  gd (inR v4 (ln (rf v0 7))) <|
  lt (v3 ||| (σ (rf v0 7) (v4).toNatClampNeg)) fun v3_40 =>
  fX6_metBeyond_41 v0 v1 v2 v3_40 v4 k5 σ
def fX6_metBeyond_5 (v0 : Nat) (v1 : Int32) (v2 : Int32) (k5 : Int32 → Int32 → Sg → Option (Int32 × Sg)) (v3 : Int32) (v4 : Int32) (σ : Sg) : Option (Int32 × Sg) :=
  if (7 : Int32) ≤ v4 then
  (some (v3, σ))
  else
  (if v2 = 0 then
  (if v4 ≤ v1 then
  (fX6_metBeyond_41 v0 v1 v2 v3 v4 k5 σ)
  else
  (fX6_metBeyond_31 v0 v1 v2 v3 v4 k5 σ))
  else
  (if v1 ≤ v4 then
  (fX6_metBeyond_41 v0 v1 v2 v3 v4 k5 σ)
  else
  (fX6_metBeyond_31 v0 v1 v2 v3 v4 k5 σ)))
def fX6_metBeyond (v0 : Nat) (v1 : Int32) (v2 : Int32) (σ : Sg) : Option (Int32 × Sg) :=
  lt (0 : Int32) fun v3_1 =>
  lt (0 : Int32) fun v4_3 =>
  lq2 (fX6_metBeyond_5 v0 v1 v2) FU v3_1 v4_3 σ
def fX0_isBarred_237 (v0 : Nat) (v1 : Int32) (v3 : Nat) (v5 : Int32) (v6 : Int32) (v7 : Int32) (v8 : Int32) (v9 : Int32) (v10 : Int32) (k102 : Int32 → Sg → Option (Int32 × Sg)) (σ : Sg) : Option (Int32 × Sg) :=
  lt (v10 + (1 : Int32)) fun v10_237 =>
  k102 v10_237 σ
def fX0_isBarred_218 (v0 : Nat) (v1 : Int32) (v3 : Nat) (v5 : Int32) (v6 : Int32) (v7 : Int32) (v8 : Int32) (v9 : Int32) (v10 : Int32) (w0 : Int32) (k102 : Int32 → Sg → Option (Int32 × Sg)) (σ : Sg) : Option (Int32 × Sg) :=
  lt w0 fun v12_218 =>
  if ((v9 >>> (v10 &&& 31)) &&& (1 : Int32)) = 0 then
  (if v12_218 = 0 then
  (gd ((1 : Int32) = 0 ∨ (1 : Int32) = 1) (some ((1 : Int32), σ)))
  else
  (fX0_isBarred_237 v0 v1 v3 v5 v6 v7 v8 v9 v10 k102 σ))
  else
  (fX0_isBarred_237 v0 v1 v3 v5 v6 v7 v8 v9 v10 k102 σ)
def fX0_isBarred_217 (v0 : Nat) (v1 : Int32) (v3 : Nat) (v5 : Int32) (v6 : Int32) (v7 : Int32) (v8 : Int32) (v9 : Int32) (v10 : Int32) (k102 : Int32 → Sg → Option (Int32 × Sg)) (σ : Sg) : Option (Int32 × Sg) :=
  fX0_isBarred_218 v0 v1 v3 v5 v6 v7 v8 v9 v10 (0 : Int32) k102 σ
def fX0_isBarred_180 (v0 : Nat) (v1 : Int32) (v3 : Nat) (v5 : Int32) (v6 : Int32) (v7 : Int32) (v8 : Int32) (v9 : Int32) (v10 : Int32) (w0 : Int32) (k102 : Int32 → Sg → Option (Int32 × Sg)) (σ : Sg) : Option (Int32 × Sg) :=
  lt w0 fun v11_180 =>
  if v11_180 = 0 then
  (fX0_isBarred_217 v0 v1 v3 v5 v6 v7 v8 v9 v10 k102 σ)
  else
  (gd (inR ((v10 * (7 : Int32)) + v6) (ln (rf v0 4))) <|
  gd (inR v10 (ln (rf v3 5))) <|
  if ((σ (rf v0 4) (((v10 * (7 : Int32)) + v6)).toNatClampNeg) + (σ (rf v3 5) (v10).toNatClampNeg)) < v7 then
  (fX0_isBarred_217 v0 v1 v3 v5 v6 v7 v8 v9 v10 k102 σ)
  else
  (fX0_isBarred_218 v0 v1 v3 v5 v6 v7 v8 v9 v10 (1 : Int32) k102 σ))
def fX0_isBarred_102 (v0 : Nat) (v1 : Int32) (v3 : Nat) (v5 : Int32) (v6 : Int32) (v7 : Int32) (v8 : Int32) (v9 : Int32) (k102 : Int32 → Sg → Option (Int32 × Sg)) (v10 : Int32) (σ : Sg) : Option (Int32 × Sg) :=
  if (σ (rf (rf v0 0) 1) 0) ≤ v10 then
  (gd ((0 : Int32) = 0 ∨ (0 : Int32) = 1) (some ((0 : Int32), σ)))
  else
  (gd (inR v10 (ln (rf v0 7))) <|
  if (σ (rf v0 7) (v10).toNatClampNeg) = v8 then
  (gd (inR v10 (ln (rf v0 8))) <|
  gd (inR v1 (ln (rf v0 8))) <|
  if (σ (rf v0 8) (v10).toNatClampNeg) < (σ (rf v0 8) (v1).toNatClampNeg) then
  (fX0_isBarred_237 v0 v1 v3 v5 v6 v7 v8 v9 v10 k102 σ)
  else
  (gd (inR v10 (ln (rf v0 5))) <|
  if (((σ (rf v0 5) (v10).toNatClampNeg) >>> (v5 &&& 31)) &&& (1 : Int32)) = 0 then
  (fX0_isBarred_237 v0 v1 v3 v5 v6 v7 v8 v9 v10 k102 σ)
  else
  (if (((σ v0 13) >>> (v10 &&& 31)) &&& (1 : Int32)) = 0 then
  (fX0_isBarred_180 v0 v1 v3 v5 v6 v7 v8 v9 v10 (0 : Int32) k102 σ)
  else
  (fX0_isBarred_180 v0 v1 v3 v5 v6 v7 v8 v9 v10 (1 : Int32) k102 σ))))
  else
  (fX0_isBarred_237 v0 v1 v3 v5 v6 v7 v8 v9 v10 k102 σ))
def fX0_isBarred_35 (v0 : Nat) (v1 : Int32) (v2 : Int32) (v3 : Nat) (v4 : Int32) (v5 : Int32) (w0 : Int32) (σ : Sg) : Option (Int32 × Sg) :=
  lt w0 fun v6_35 =>
  gd (inR v5 (ln (rf (rf (rf v0 0) 0) 2))) <|
  lt ((v2 + (σ (rf (rf (rf v0 0) 0) 2) (v5).toNatClampNeg)) + (5 : Int32)) fun v7_54 =>
  gd (inR v1 (ln (rf v0 7))) <|
  lt ((1 : Int32) - (σ (rf v0 7) (v1).toNatClampNeg)) fun v8_64 =>
  gd (inR ((v8_64 * (7 : Int32)) + v4) (ln (rf v0 11))) <|
  gd (inR v1 (ln (rf v0 7))) <|
  bd (fX6_metBeyond v3 v4 (σ (rf v0 7) (v1).toNatClampNeg) σ) fun r_93 s_93 =>
  lt (((σ v0 14) ||| (σ (rf v0 11) (((v8_64 * (7 : Int32)) + v4)).toNatClampNeg)) ||| r_93) fun v9_97 =>
  lt (0 : Int32) fun v10_100 =>
  lq1 (fX0_isBarred_102 v0 v1 v3 v5 v6_35 v7_54 v8_64 v9_97) FU v10_100 s_93
def fX0_isBarred (v0 : Nat) (v1 : Int32) (v2 : Int32) (v3 : Nat) (σ : Sg) : Option (Int32 × Sg) :=
  gd (inR v1 (ln (rf v0 6))) <|
  lt (σ (rf v0 6) (v1).toNatClampNeg) fun v4_6 =>
  bd (fX0_sectionAhead v0 v1 σ) fun r_10 s_10 =>
  lt r_10 fun v5_13 =>
  gd (inR v1 (ln (rf v0 7))) <|
  if (s_10 (rf v0 7) (v1).toNatClampNeg) = 0 then
  (fX0_isBarred_35 v0 v1 v2 v3 v4_6 v5_13 (v4_6 + (1 : Int32)) s_10)
  else
  (fX0_isBarred_35 v0 v1 v2 v3 v4_6 v5_13 (v4_6 - (1 : Int32)) s_10)
def fX0_whyNot_64 (v0 : Nat) (v1 : Int32) (v2 : Int32) (v3 : Nat) (v4 : Int32) (w0 : Int32) (σ : Sg) : Option (Int32 × Sg) :=
  lt w0 fun v6_64 =>
  if v6_64 ≤ v2 then
  (gd (inR v4 (ln (rf v3 6))) <|
  if (σ (rf v3 6) (v4).toNatClampNeg) ≤ v2 then
  (gd (inR v4 (ln (rf v0 11))) <|
  gd (inR ((7 : Int32) + v4) (ln (rf v0 11))) <|
  lt (((σ (rf v0 11) (v4).toNatClampNeg) ||| (σ (rf v0 11) (((7 : Int32) + v4)).toNatClampNeg)) ||| (σ v0 14)) fun v7_110 =>
  gd (inR v4 (ln (rf v3 7))) <|
  if ((σ (rf v3 7) (v4).toNatClampNeg) &&& (v7_110 ^^^ (-1 : Int32))) = 0 then
  (bd (fX0_isBarred v0 v1 v2 v3 σ) fun r_133 s_133 =>
  if r_133 = 0 then
  (gd (inR v1 (ln (rf v0 7))) <|
  gd (inR (((s_133 (rf v0 7) (v1).toNatClampNeg) * (7 : Int32)) + v4) (ln (rf v0 12))) <|
  if (10 : Int32) ≤ (v2 - (s_133 (rf v0 12) ((((s_133 (rf v0 7) (v1).toNatClampNeg) * (7 : Int32)) + v4)).toNatClampNeg)) then
  (some ((0 : Int32), s_133))
  else
  (some ((5 : Int32), s_133)))
  else
  (some ((4 : Int32), s_133)))
  else
  (some ((3 : Int32), σ)))
  else
  (some ((2 : Int32), σ)))
  else
  (some ((1 : Int32), σ))
def fX0_whyNot_31 (v0 : Nat) (v1 : Int32) (v2 : Int32) (v3 : Nat) (v4 : Int32) (w0 : Int32) (σ : Sg) : Option (Int32 × Sg) :=
  lt w0 fun v5_31 =>
  if v5_31 = 0 then
  (fX0_whyNot_64 v0 v1 v2 v3 v4 (σ v3 4) σ)
  else
  (gd (inR ((v1 * (7 : Int32)) + v4) (ln (rf v0 4))) <|
  gd (inR v1 (ln (rf v3 5))) <|
  fX0_whyNot_64 v0 v1 v2 v3 v4 ((σ (rf v0 4) (((v1 * (7 : Int32)) + v4)).toNatClampNeg) + (σ (rf v3 5) (v1).toNatClampNeg)) σ)
def fX0_whyNot (v0 : Nat) (v1 : Int32) (v2 : Int32) (σ : Sg) : Option (Int32 × Sg) :=
  gd (inR v1 (ln (rf v0 3))) <|
  gd (inR v1 (ln (rf v0 6))) <|
  lt (σ (rf v0 6) (v1).toNatClampNeg) fun v4_13 =>
  if (((σ v0 13) >>> (v1 &&& 31)) &&& (1 : Int32)) = 0 then
  (fX0_whyNot_31 v0 v1 v2 (rf (rf v0 3) (v1).toNatClampNeg) v4_13 (0 : Int32) σ)
  else
  (fX0_whyNot_31 v0 v1 v2 (rf (rf v0 3) (v1).toNatClampNeg) v4_13 (1 : Int32) σ)
def fX1_noteReason (v0 : Nat) (v1 : Int32) (v2 : Int32) (v3 : Int32) (σ : Sg) : Option (Unit × Sg) :=
  gd (inR ((v1 * (501 : Int32)) + v2) (ln (rf v0 2))) <|
  lt (wr σ (rf v0 2) (((v1 * (501 : Int32)) + v2)).toNatClampNeg (vp_nar .byte ((v3).toInt8.toInt32))) fun s_13 =>
  some ((), s_13)
def fX1_noteLeft (v0 : Nat) (v1 : Int32) (v2 : Int32) (v3 : Int32) (σ : Sg) : Option (Unit × Sg) :=
  lt ((v1 * (7 : Int32)) + v2) fun v4_6 =>
  gd (inR v4_6 (ln (rf v0 4))) <|
  if (σ (rf v0 4) (v4_6).toNatClampNeg) = (-1 : Int32) then
  (gd (inR v4_6 (ln (rf v0 4))) <|
  lt (wr σ (rf v0 4) (v4_6).toNatClampNeg v3) fun s_26 =>
  some ((), s_26))
  else
  (some ((), σ))
def fX0_leave (v0 : Nat) (v1 : Int32) (v2 : Int32) (σ : Sg) : Option (Unit × Sg) :=
  gd (inR v1 (ln (rf v0 6))) <|
  lt (σ (rf v0 6) (v1).toNatClampNeg) fun v3_6 =>
  bd (fX1_noteLeft (rf v0 1) v1 v3_6 v2 σ) fun r_14 s_14 =>
  gd (inR v1 (ln (rf v0 7))) <|
  gd (inR (((s_14 (rf v0 7) (v1).toNatClampNeg) * (7 : Int32)) + v3_6) (ln (rf v0 12))) <|
  lt (wr s_14 (rf v0 12) ((((s_14 (rf v0 7) (v1).toNatClampNeg) * (7 : Int32)) + v3_6)).toNatClampNeg v2) fun s_33 =>
  gd (inR v1 (ln (rf v0 10))) <|
  lt (wr s_33 (rf v0 10) (v1).toNatClampNeg v2) fun s_40 =>
  bd (fX0_sectionAhead v0 v1 s_40) fun r_50 s_50 =>
  gd (inR v1 (ln (rf v0 6))) <|
  lt (wr s_50 (rf v0 6) (v1).toNatClampNeg ((100 : Int32) + r_50)) fun s_54 =>
  some ((), s_54)
def fX0_letLeave_94 (v0 : Nat) (v1 : Int32) (v2 : Int32) (v3 : Int32) (k4 : Int32 → Int32 → Sg → Option (Int32 × Sg)) (σ : Sg) : Option (Int32 × Sg) :=
  lt (v3 + (1 : Int32)) fun v3_94 =>
  k4 v2 v3_94 σ
def fX0_letLeave_70 (v0 : Nat) (v1 : Int32) (v2 : Int32) (v3 : Int32) (v4 : Int32) (k4 : Int32 → Int32 → Sg → Option (Int32 × Sg)) (σ : Sg) : Option (Int32 × Sg) :=
  bd (fX1_noteReason (rf v0 1) v3 v1 v4 σ) fun r_78 s_78 =>
  if v4 = 0 then
  (bd (fX0_leave v0 v3 v1 s_78) fun r_89 s_89 =>
  lt (1 : Int32) fun v2_93 =>
  fX0_letLeave_94 v0 v1 v2_93 v3 k4 s_89)
  else
  (fX0_letLeave_94 v0 v1 v2 v3 k4 s_78)
def fX0_letLeave_68 (v0 : Nat) (v1 : Int32) (v2 : Int32) (v3 : Int32) (w0 : Int32) (k4 : Int32 → Int32 → Sg → Option (Int32 × Sg)) (σ : Sg) : Option (Int32 × Sg) :=
  lt w0 fun v4_68 =>
  fX0_letLeave_70 v0 v1 v2 v3 v4_68 k4 σ
def fX0_letLeave_4 (v0 : Nat) (v1 : Int32) (k4 : Int32 → Int32 → Sg → Option (Int32 × Sg)) (v2 : Int32) (v3 : Int32) (σ : Sg) : Option (Int32 × Sg) :=
  if (σ (rf (rf v0 0) 1) 0) ≤ v3 then
  (gd (v2 = 0 ∨ v2 = 1) (some (v2, σ)))
  else
  (lt (-1 : Int32) fun v4_19 =>
  bd (fX0_isAtStation v0 v3 σ) fun r_23 s_23 =>
  if r_23 = 0 then
  (fX0_letLeave_70 v0 v1 v2 v3 v4_19 k4 s_23)
  else
  (gd (inR v3 (ln (rf v0 3))) <|
  bd (fX6_bringUpTo (rf (rf v0 3) (v3).toNatClampNeg) v1 (rf (rf v0 0) 2) s_23) fun r_43 s_43 =>
  bd (fX3_isForced (rf v0 0) v3 v1 s_43) fun r_52 s_52 =>
  if r_52 = 0 then
  (bd (fX0_whyNot v0 v3 v1 s_52) fun r_65 s_65 =>
  fX0_letLeave_68 v0 v1 v2 v3 r_65 k4 s_65)
  else
  (fX0_letLeave_68 v0 v1 v2 v3 (0 : Int32) k4 s_52)))
def fX0_letLeave (v0 : Nat) (v1 : Int32) (σ : Sg) : Option (Int32 × Sg) :=
  lt (0 : Int32) fun v2_1 =>
  lt (0 : Int32) fun v3_3 =>
  lq2 (fX0_letLeave_4 v0 v1) FU v2_1 v3_3 σ
def fX1_noteHead (v0 : Nat) (v1 : Int32) (v2 : Int32) (v3 : Int32) (v4 : Int32) (σ : Sg) : Option (Unit × Sg) :=
  lt ((1 : Int32) <<< (((v3 * (5 : Int32)) + v4) &&& 31)) fun v5_8 =>
  if ((σ v0 5) &&& v5_8) = 0 then
  (lt (wr σ v0 5 ((σ v0 5) ||| v5_8)) fun s_29 =>
  if (s_29 v0 6) = 0 then
  (lt (wr s_29 v0 7 v1) fun s_41 =>
  lt (wr s_41 v0 8 v2) fun s_46 =>
  lt (wr s_46 v0 9 v3) fun s_51 =>
  lt (wr s_51 v0 10 v4) fun s_57 =>
  lt (wr s_57 v0 6 ((s_57 v0 6) + (1 : Int32))) fun s_67 =>
  some ((), s_67))
  else
  (lt (wr s_29 v0 6 ((s_29 v0 6) + (1 : Int32))) fun s_67 =>
  some ((), s_67)))
  else
  (some ((), σ))
def fX0_noteHeads_91 (v0 : Nat) (v1 : Int32) (v2 : Int32) (v3 : Int32) (k2 : Int32 → Sg → Option (Unit × Sg)) (k20 : Int32 → Sg → Option (Unit × Sg)) (σ : Sg) : Option (Unit × Sg) :=
  lt (v3 + (1 : Int32)) fun v3_91 =>
  k20 v3_91 σ
def fX0_noteHeads_20 (v0 : Nat) (v1 : Int32) (v2 : Int32) (k2 : Int32 → Sg → Option (Unit × Sg)) (k20 : Int32 → Sg → Option (Unit × Sg)) (v3 : Int32) (σ : Sg) : Option (Unit × Sg) :=
  if (σ (rf (rf v0 0) 1) 0) ≤ v3 then
  (lt (v2 + (1 : Int32)) fun v2_97 =>
  k2 v2_97 σ)
  else
  (bd (fX0_isInSection v0 v2 σ) fun r_36 s_36 =>
  if r_36 = 0 then
  (fX0_noteHeads_91 v0 v1 v2 v3 k2 k20 s_36)
  else
  (gd (inR v2 (ln (rf v0 6))) <|
  gd (inR v3 (ln (rf v0 6))) <|
  if (s_36 (rf v0 6) (v2).toNatClampNeg) = (s_36 (rf v0 6) (v3).toNatClampNeg) then
  (gd (inR v2 (ln (rf v0 7))) <|
  gd (inR v3 (ln (rf v0 7))) <|
  if (s_36 (rf v0 7) (v2).toNatClampNeg) = (s_36 (rf v0 7) (v3).toNatClampNeg) then
  (fX0_noteHeads_91 v0 v1 v2 v3 k2 k20 s_36)
  else
  (gd (inR v2 (ln (rf v0 6))) <|
  bd (fX1_noteHead (rf v0 1) v1 ((s_36 (rf v0 6) (v2).toNatClampNeg) - (100 : Int32)) v2 v3 s_36) fun r_88 s_88 =>
  fX0_noteHeads_91 v0 v1 v2 v3 k2 k20 s_88))
  else
  (fX0_noteHeads_91 v0 v1 v2 v3 k2 k20 s_36)))
def fX0_noteHeads_2 (v0 : Nat) (v1 : Int32) (k2 : Int32 → Sg → Option (Unit × Sg)) (v2 : Int32) (σ : Sg) : Option (Unit × Sg) :=
  if (σ (rf (rf v0 0) 1) 0) ≤ v2 then
  (some ((), σ))
  else
  (lt (v2 + (1 : Int32)) fun v3_19 =>
  lq1 (fX0_noteHeads_20 v0 v1 v2 k2) FU v3_19 σ)
def fX0_noteHeads (v0 : Nat) (v1 : Int32) (σ : Sg) : Option (Unit × Sg) :=
  lt (0 : Int32) fun v2_1 =>
  lq1 (fX0_noteHeads_2 v0 v1) FU v2_1 σ
def fX1_notePlace (v0 : Nat) (v1 : Int32) (v2 : Int32) (v3 : Int32) (σ : Sg) : Option (Unit × Sg) :=
  gd (inR ((v1 * (501 : Int32)) + v2) (ln (rf v0 1))) <|
  lt (wr σ (rf v0 1) (((v1 * (501 : Int32)) + v2)).toNatClampNeg (vp_nar .short ((v3).toInt16.toInt32))) fun s_13 =>
  lt (wr s_13 v0 0 (v2 + (1 : Int32))) fun s_18 =>
  some ((), s_18)
def fX0_play_78 (v0 : Nat) (v4 : Int32) (v5 : Int32) (k31 : Int32 → Sg → Option (Unit × Sg)) (k78 : Int32 → Sg → Option (Unit × Sg)) (v6 : Int32) (σ : Sg) : Option (Unit × Sg) :=
  if (σ (rf (rf v0 0) 1) 0) ≤ v6 then
  (lt (v5 + (1 : Int32)) fun v5_117 =>
  k31 v5_117 σ)
  else
  (gd (inR v6 (ln (rf v0 6))) <|
  bd (fX1_notePlace (rf v0 1) v6 v5 (σ (rf v0 6) (v6).toNatClampNeg) σ) fun r_108 s_108 =>
  lt (v6 + (1 : Int32)) fun v6_111 =>
  k78 v6_111 s_108)
def fX0_play_75 (v0 : Nat) (v4 : Int32) (v5 : Int32) (k31 : Int32 → Sg → Option (Unit × Sg)) (σ : Sg) : Option (Unit × Sg) :=
  lt (0 : Int32) fun v6_76 =>
  lq1 (fX0_play_78 v0 v4 v5 k31) FU v6_76 σ
def fX0_play_31 (v0 : Nat) (v4 : Int32) (k31 : Int32 → Sg → Option (Unit × Sg)) (v5 : Int32) (σ : Sg) : Option (Unit × Sg) :=
  if (500 : Int32) < v5 then
  (some ((), σ))
  else
  (if (σ v0 14) = v4 then
  (some ((), σ))
  else
  (bd (fX0_letComeIn v0 v5 σ) fun r_51 s_51 =>
  bd (fX0_letAppear v0 v5 s_51) fun r_57 s_57 =>
  bd (fX0_letLeave v0 v5 s_57) fun r_63 s_63 =>
  if r_63 = 0 then
  (fX0_play_75 v0 v4 v5 k31 s_63)
  else
  (bd (fX0_noteHeads v0 v5 s_63) fun r_72 s_72 =>
  fX0_play_75 v0 v4 v5 k31 s_72)))
def fX0_play (v0 : Nat) (v1 : Int32) (v2 : Int32) (v3 : Int32) (σ : Sg) : Option (Unit × Sg) :=
  lt (wr σ v0 2 (0 : Int32)) fun s_2 =>
  bd (fX0_begin v0 v1 v2 v3 s_2) fun r_9 s_9 =>
  lt (((1 : Int32) <<< ((s_9 (rf (rf v0 0) 1) 0) &&& 31)) - (1 : Int32)) fun v4_26 =>
  lt (0 : Int32) fun v5_29 =>
  lq1 (fX0_play_31 v0 v4_26) FU v5_29 s_9
def fX0_played (v0 : Nat) (σ : Sg) : Option (Nat × Sg) :=
  if (σ v0 2) = 0 then
  (bd (fX0_play v0 (-1 : Int32) (-1 : Int32) (-1 : Int32) σ) fun r_11 s_11 =>
  lt (wr s_11 v0 2 (1 : Int32)) fun s_16 =>
  some ((rf v0 1), s_16))
  else
  (some ((rf v0 1), σ))
def fX1_placeBehind (v0 : Nat) (v1 : Int32) (v2 : Int32) (σ : Sg) : Option (Int32 × Sg) :=
  if (σ v0 0) ≤ v2 then
  (some ((300 : Int32), σ))
  else
  (gd (inR ((v1 * (501 : Int32)) + v2) (ln (rf v0 1))) <|
  some ((σ (rf v0 1) (((v1 * (501 : Int32)) + v2)).toNatClampNeg), σ))
def fX10_where (v0 : Nat) (v1 : Int32) (v2 : Int32) (σ : Sg) : Option (Int32 × Sg) :=
  bd (fX9_has (rf (rf v0 2) 1) v1 σ) fun r_8 s_8 =>
  if r_8 = 0 then
  (bd (fX10_finding v0 (-100001 : Int32) s_8) fun r_28 s_28 =>
  some (r_28, s_28))
  else
  (bd (fX10_isWithin v2 (0 : Int32) (500 : Int32) s_8) fun r_19 s_19 =>
  if r_19 = 0 then
  (bd (fX10_finding v0 (-100001 : Int32) s_19) fun r_28 s_28 =>
  some (r_28, s_28))
  else
  (bd (fX0_played (rf v0 1) s_19) fun r_36 s_36 =>
  bd (fX1_placeBehind r_36 v1 v2 s_36) fun r_41 s_41 =>
  some (r_41, s_41)))
def fX10_came (v0 : Nat) (v1 : Int32) (v2 : Int32) (σ : Sg) : Option (Int32 × Sg) :=
  bd (fX9_has (rf (rf v0 2) 1) v1 σ) fun r_8 s_8 =>
  if r_8 = 0 then
  (bd (fX10_finding v0 (-100001 : Int32) s_8) fun r_31 s_31 =>
  some (r_31, s_31))
  else
  (bd (fX8_hasStation (rf (rf v0 2) 0) v2 s_8) fun r_22 s_22 =>
  if r_22 = 0 then
  (bd (fX10_finding v0 (-100001 : Int32) s_22) fun r_31 s_31 =>
  some (r_31, s_31))
  else
  (bd (fX0_played (rf v0 1) s_22) fun r_39 s_39 =>
  gd (inR ((v1 * (7 : Int32)) + v2) (ln (rf r_39 3))) <|
  lt (s_39 (rf r_39 3) (((v1 * (7 : Int32)) + v2)).toNatClampNeg) fun v3_52 =>
  if v3_52 = (-1 : Int32) then
  (bd (fX10_finding v0 (-100006 : Int32) s_39) fun r_61 s_61 =>
  some (r_61, s_61))
  else
  (some (v3_52, s_39))))
def fX10_left (v0 : Nat) (v1 : Int32) (v2 : Int32) (σ : Sg) : Option (Int32 × Sg) :=
  bd (fX9_has (rf (rf v0 2) 1) v1 σ) fun r_8 s_8 =>
  if r_8 = 0 then
  (bd (fX10_finding v0 (-100001 : Int32) s_8) fun r_31 s_31 =>
  some (r_31, s_31))
  else
  (bd (fX8_hasStation (rf (rf v0 2) 0) v2 s_8) fun r_22 s_22 =>
  if r_22 = 0 then
  (bd (fX10_finding v0 (-100001 : Int32) s_22) fun r_31 s_31 =>
  some (r_31, s_31))
  else
  (bd (fX0_played (rf v0 1) s_22) fun r_39 s_39 =>
  gd (inR ((v1 * (7 : Int32)) + v2) (ln (rf r_39 4))) <|
  lt (s_39 (rf r_39 4) (((v1 * (7 : Int32)) + v2)).toNatClampNeg) fun v3_52 =>
  if v3_52 = (-1 : Int32) then
  (bd (fX10_finding v0 (-100006 : Int32) s_39) fun r_61 s_61 =>
  some (r_61, s_61))
  else
  (some (v3_52, s_39))))
def fX1_reasonIn (v0 : Nat) (v1 : Int32) (v2 : Int32) (σ : Sg) : Option (Int32 × Sg) :=
  if (σ v0 0) ≤ v2 then
  (some ((-1 : Int32), σ))
  else
  (gd (inR ((v1 * (501 : Int32)) + v2) (ln (rf v0 2))) <|
  some ((σ (rf v0 2) (((v1 * (501 : Int32)) + v2)).toNatClampNeg), σ))
def fX10_why (v0 : Nat) (v1 : Int32) (v2 : Int32) (σ : Sg) : Option (Int32 × Sg) :=
  bd (fX9_has (rf (rf v0 2) 1) v1 σ) fun r_8 s_8 =>
  if r_8 = 0 then
  (bd (fX10_finding v0 (-100001 : Int32) s_8) fun r_28 s_28 =>
  some (r_28, s_28))
  else
  (bd (fX10_isWithin v2 (0 : Int32) (500 : Int32) s_8) fun r_19 s_19 =>
  if r_19 = 0 then
  (bd (fX10_finding v0 (-100001 : Int32) s_19) fun r_28 s_28 =>
  some (r_28, s_28))
  else
  (bd (fX0_played (rf v0 1) s_19) fun r_36 s_36 =>
  bd (fX1_reasonIn r_36 v1 v2 s_36) fun r_41 s_41 =>
  lt r_41 fun v3_44 =>
  if v3_44 = (-1 : Int32) then
  (bd (fX10_finding v0 (-100006 : Int32) s_41) fun r_53 s_53 =>
  some (r_53, s_53))
  else
  (some (v3_44, s_41))))
def fX10_heads (v0 : Nat) (σ : Sg) : Option (Int32 × Sg) :=
  bd (fX0_played (rf v0 1) σ) fun r_4 s_4 =>
  some ((s_4 r_4 6), s_4)
def fX1_tellHead (v0 : Nat) (v1 : Int32) (σ : Sg) : Option (Int32 × Sg) :=
  if v1 = (0 : Int32) then
  (some ((σ v0 7), σ))
  else
  (if v1 = (1 : Int32) then
  (some ((σ v0 8), σ))
  else
  (if v1 = (2 : Int32) then
  (some ((σ v0 9), σ))
  else
  (some ((σ v0 10), σ))))
def fX10_head (v0 : Nat) (v1 : Int32) (σ : Sg) : Option (Int32 × Sg) :=
  bd (fX0_played (rf v0 1) σ) fun r_4 s_4 =>
  if (s_4 r_4 6) = 0 then
  (bd (fX10_finding v0 (-100006 : Int32) s_4) fun r_18 s_18 =>
  some (r_18, s_18))
  else
  (bd (fX10_isWithin v1 (0 : Int32) (3 : Int32) s_4) fun r_25 s_25 =>
  if r_25 = 0 then
  (bd (fX10_finding v0 (-100001 : Int32) s_25) fun r_34 s_34 =>
  some (r_34, s_34))
  else
  (bd (fX1_tellHead r_4 v1 s_25) fun r_40 s_40 =>
  some (r_40, s_40)))
def fX5_isAbout_37 (v0 : Nat) (v1 : Int32) (v2 : Int32) (v3 : Int32) (w0 : Int32) (σ : Sg) : Option (Int32 × Sg) :=
  lt w0 fun v4_37 =>
  gd (inR v1 (ln (rf v0 1))) <|
  if (σ (rf v0 1) (v1).toNatClampNeg) = 0 then
  (if v4_37 = 0 then
  (gd ((0 : Int32) = 0 ∨ (0 : Int32) = 1) (some ((0 : Int32), σ)))
  else
  (gd (inR v1 (ln (rf v0 3))) <|
  if (σ (rf v0 3) (v1).toNatClampNeg) = v2 then
  (gd ((1 : Int32) = 0 ∨ (1 : Int32) = 1) (some ((1 : Int32), σ)))
  else
  (gd (inR v1 (ln (rf v0 3))) <|
  if (σ (rf v0 3) (v1).toNatClampNeg) = v3 then
  (gd ((1 : Int32) = 0 ∨ (1 : Int32) = 1) (some ((1 : Int32), σ)))
  else
  (gd ((0 : Int32) = 0 ∨ (0 : Int32) = 1) (some ((0 : Int32), σ))))))
  else
  (gd (v4_37 = 0 ∨ v4_37 = 1) (some (v4_37, σ)))
def fX5_isAbout_32 (v0 : Nat) (v1 : Int32) (v2 : Int32) (v3 : Int32) (σ : Sg) : Option (Int32 × Sg) :=
  fX5_isAbout_37 v0 v1 v2 v3 (1 : Int32) σ
def fX5_isAbout (v0 : Nat) (v1 : Int32) (v2 : Int32) (v3 : Int32) (σ : Sg) : Option (Int32 × Sg) :=
  gd (inR v1 (ln (rf v0 1))) <|
  if (σ (rf v0 1) (v1).toNatClampNeg) = (4 : Int32) then
  (gd ((0 : Int32) = 0 ∨ (0 : Int32) = 1) (some ((0 : Int32), σ)))
  else
  (gd (inR v1 (ln (rf v0 2))) <|
  if (σ (rf v0 2) (v1).toNatClampNeg) = v2 then
  (fX5_isAbout_32 v0 v1 v2 v3 σ)
  else
  (gd (inR v1 (ln (rf v0 2))) <|
  if (σ (rf v0 2) (v1).toNatClampNeg) = v3 then
  (fX5_isAbout_32 v0 v1 v2 v3 σ)
  else
  (fX5_isAbout_37 v0 v1 v2 v3 (0 : Int32) σ)))
def fX5_firstHeldByOneOf_51 (v0 : Nat) (v1 : Int32) (v2 : Int32) (v4 : Int32) (v5 : Int32) (k18 : Int32 → Sg → Option (Int32 × Sg)) (σ : Sg) : Option (Int32 × Sg) :=
  lt (v5 + (1 : Int32)) fun v5_51 =>
  k18 v5_51 σ
def fX5_firstHeldByOneOf_18 (v0 : Nat) (v1 : Int32) (v2 : Int32) (v4 : Int32) (k18 : Int32 → Sg → Option (Int32 × Sg)) (v5 : Int32) (σ : Sg) : Option (Int32 × Sg) :=
  if (σ v0 0) ≤ v5 then
  (some ((12 : Int32), σ))
  else
  (if ((v4 >>> (v5 &&& 31)) &&& (1 : Int32)) = 0 then
  (fX5_firstHeldByOneOf_51 v0 v1 v2 v4 v5 k18 σ)
  else
  (bd (fX5_isAbout v0 v5 v1 v2 σ) fun r_42 s_42 =>
  if r_42 = 0 then
  (fX5_firstHeldByOneOf_51 v0 v1 v2 v4 v5 k18 s_42)
  else
  (some (v5, s_42))))
def fX5_firstHeldByOneOf (v0 : Nat) (v1 : Int32) (v2 : Int32) (v3 : Int32) (σ : Sg) : Option (Int32 × Sg) :=
  bd (fX5_heldBy v0 v1 v3 σ) fun r_3 s_3 =>
  bd (fX5_heldBy v0 v2 v3 s_3) fun r_9 s_9 =>
  lt (r_3 ^^^ r_9) fun v4_13 =>
  lt (0 : Int32) fun v5_16 =>
  lq1 (fX5_firstHeldByOneOf_18 v0 v1 v2 v4_13) FU v5_16 s_9
def fX10_cause (v0 : Nat) (σ : Sg) : Option (Int32 × Sg) :=
  bd (fX0_played (rf v0 1) σ) fun r_4 s_4 =>
  if (s_4 r_4 6) = 0 then
  (bd (fX10_finding v0 (-100006 : Int32) s_4) fun r_18 s_18 =>
  some (r_18, s_18))
  else
  (bd (fX5_firstHeldByOneOf (rf (rf v0 2) 2) (s_4 r_4 9) (s_4 r_4 10) (s_4 r_4 7) s_4) fun r_41 s_41 =>
  lt r_41 fun v2_44 =>
  if v2_44 = (12 : Int32) then
  (bd (fX10_finding v0 (-100006 : Int32) s_41) fun r_54 s_54 =>
  some (r_54, s_54))
  else
  (some (v2_44, s_41)))
def fX10_fouls (v0 : Nat) (σ : Sg) : Option (Int32 × Sg) :=
  bd (fX0_played (rf v0 1) σ) fun r_4 s_4 =>
  some ((s_4 r_4 11), s_4)
def fX10_delay (v0 : Nat) (σ : Sg) : Option (Int32 × Sg) :=
  bd (fX0_played (rf v0 1) σ) fun r_4 s_4 =>
  some ((s_4 r_4 12), s_4)
def fX4_lesserOf (v0 : Int32) (σ : Sg) : Option (Int32 × Sg) :=
  some (((v0 / (7 : Int32)) / (5 : Int32)), σ)
def fX4_greaterOf (v0 : Int32) (σ : Sg) : Option (Int32 × Sg) :=
  some (((v0 / (7 : Int32)) - (v0 / (7 : Int32)) / (5 : Int32) * (5 : Int32)), σ)
def fX4_stationOf (v0 : Int32) (σ : Sg) : Option (Int32 × Sg) :=
  some ((v0 - v0 / (7 : Int32) * (7 : Int32)), σ)
def fX4_canMeet (v0 : Nat) (v1 : Int32) (σ : Sg) : Option (Int32 × Sg) :=
  bd (fX4_lesserOf v1 σ) fun r_1 s_1 =>
  lt r_1 fun v2_4 =>
  bd (fX4_greaterOf v1 s_1) fun r_6 s_6 =>
  lt r_6 fun v3_9 =>
  if v3_9 ≤ v2_4 then
  (gd ((0 : Int32) = 0 ∨ (0 : Int32) = 1) (some ((0 : Int32), s_6)))
  else
  (bd (fX9_has (rf (rf v0 1) 1) v3_9 s_6) fun r_23 s_23 =>
  if r_23 = 0 then
  (gd ((0 : Int32) = 0 ∨ (0 : Int32) = 1) (some ((0 : Int32), s_23)))
  else
  (bd (fX9_areContrary (rf (rf v0 1) 1) v2_4 v3_9 s_23) fun r_38 s_38 =>
  if r_38 = 0 then
  (gd ((0 : Int32) = 0 ∨ (0 : Int32) = 1) (some ((0 : Int32), s_38)))
  else
  (bd (fX4_stationOf v1 s_38) fun r_52 s_52 =>
  bd (fX8_hasStation (rf (rf v0 1) 0) r_52 s_52) fun r_55 s_55 =>
  if r_55 = 0 then
  (gd ((0 : Int32) = 0 ∨ (0 : Int32) = 1) (some ((0 : Int32), s_55)))
  else
  (gd ((1 : Int32) = 0 ∨ (1 : Int32) = 1) (some ((1 : Int32), s_55))))))
def fX4_countMeets_25 (v0 : Nat) (v2 : Int32) (w0 : Int32) (w1 : Int32) (k4 : Int32 → Int32 → Sg → Option (Int32 × Sg)) (σ : Sg) : Option (Int32 × Sg) :=
  lt (w1 + w0) fun v1_26 =>
  lt (v2 + (1 : Int32)) fun v2_27 =>
  k4 v1_26 v2_27 σ
def fX4_countMeets_4 (v0 : Nat) (k4 : Int32 → Int32 → Sg → Option (Int32 × Sg)) (v1 : Int32) (v2 : Int32) (σ : Sg) : Option (Int32 × Sg) :=
  if (175 : Int32) ≤ v2 then
  (some (v1, σ))
  else
  (bd (fX4_canMeet v0 v2 σ) fun r_14 s_14 =>
  if r_14 = 0 then
  (fX4_countMeets_25 v0 v2 (0 : Int32) v1 k4 s_14)
  else
  (fX4_countMeets_25 v0 v2 (1 : Int32) v1 k4 s_14))
def fX4_countMeets (v0 : Nat) (σ : Sg) : Option (Int32 × Sg) :=
  lt (0 : Int32) fun v1_1 =>
  lt (0 : Int32) fun v2_3 =>
  lq2 (fX4_countMeets_4 v0) FU v1_1 v2_3 σ
def fX4_priceAt_33 (v0 : Nat) (v1 : Int32) (σ : Sg) : Option (Int32 × Sg) :=
  gd (inR v1 (ln (rf v0 2))) <|
  if (σ (rf v0 2) (v1).toNatClampNeg) = (-1 : Int32) then
  (bd (fX4_lesserOf v1 σ) fun r_48 s_48 =>
  bd (fX4_greaterOf v1 s_48) fun r_52 s_52 =>
  bd (fX4_stationOf v1 s_52) fun r_56 s_56 =>
  bd (fX0_play (rf v0 0) r_48 r_52 r_56 s_56) fun r_59 s_59 =>
  gd (inR v1 (ln (rf v0 2))) <|
  lt (wr s_59 (rf v0 2) (v1).toNatClampNeg (((100000 : Int32) * (s_59 (rf (rf v0 0) 1) 6)) + (s_59 (rf (rf v0 0) 1) 12))) fun s_91 =>
  gd (inR v1 (ln (rf v0 2))) <|
  some ((s_91 (rf v0 2) (v1).toNatClampNeg), s_91))
  else
  (gd (inR v1 (ln (rf v0 2))) <|
  some ((σ (rf v0 2) (v1).toNatClampNeg), σ))
def fX4_priceAt (v0 : Nat) (v1 : Int32) (σ : Sg) : Option (Int32 × Sg) :=
  if v1 < 0 then
  (some ((0 : Int32), σ))
  else
  (if v1 < (175 : Int32) then
  (if (σ v0 3) = 0 then
  (bd (fJ7_fill_53178 (rf v0 2) (-1 : Int32) σ) fun r_25 s_25 =>
  lt (wr s_25 v0 3 (1 : Int32)) fun s_30 =>
  fX4_priceAt_33 v0 v1 s_30)
  else
  (fX4_priceAt_33 v0 v1 σ))
  else
  (some ((0 : Int32), σ)))
def fX4_findBest_43 (v0 : Nat) (v1 : Int32) (v2 : Int32) (v3 : Int32) (k6 : Int32 → Int32 → Int32 → Sg → Option (Int32 × Sg)) (σ : Sg) : Option (Int32 × Sg) :=
  lt (v3 + (1 : Int32)) fun v3_43 =>
  k6 v1 v2 v3_43 σ
def fX4_findBest_35 (v0 : Nat) (v3 : Int32) (k6 : Int32 → Int32 → Int32 → Sg → Option (Int32 × Sg)) (σ : Sg) : Option (Int32 × Sg) :=
  lt v3 fun v1_36 =>
  bd (fX4_priceAt v0 v3 σ) fun r_39 s_39 =>
  lt r_39 fun v2_42 =>
  fX4_findBest_43 v0 v1_36 v2_42 v3 k6 s_39
def fX4_findBest_6 (v0 : Nat) (k6 : Int32 → Int32 → Int32 → Sg → Option (Int32 × Sg)) (v1 : Int32) (v2 : Int32) (v3 : Int32) (σ : Sg) : Option (Int32 × Sg) :=
  if (175 : Int32) ≤ v3 then
  (some (v1, σ))
  else
  (bd (fX4_canMeet v0 v3 σ) fun r_15 s_15 =>
  if r_15 = 0 then
  (fX4_findBest_43 v0 v1 v2 v3 k6 s_15)
  else
  (if v1 = (-1 : Int32) then
  (fX4_findBest_35 v0 v3 k6 s_15)
  else
  (bd (fX4_priceAt v0 v3 s_15) fun r_28 s_28 =>
  if v2 ≤ r_28 then
  (fX4_findBest_43 v0 v1 v2 v3 k6 s_28)
  else
  (fX4_findBest_35 v0 v3 k6 s_28))))
def fX4_findBest (v0 : Nat) (σ : Sg) : Option (Int32 × Sg) :=
  lt (-1 : Int32) fun v1_1 =>
  lt (0 : Int32) fun v2_3 =>
  lt (0 : Int32) fun v3_5 =>
  lq3 (fX4_findBest_6 v0) FU v1_1 v2_3 v3_5 σ
def fX10_best (v0 : Nat) (v1 : Int32) (σ : Sg) : Option (Int32 × Sg) :=
  bd (fX4_countMeets (rf v0 0) σ) fun r_4 s_4 =>
  if r_4 = 0 then
  (bd (fX10_finding v0 (-100006 : Int32) s_4) fun r_13 s_13 =>
  some (r_13, s_13))
  else
  (bd (fX10_isWithin v1 (0 : Int32) (3 : Int32) s_4) fun r_20 s_20 =>
  if r_20 = 0 then
  (bd (fX10_finding v0 (-100001 : Int32) s_20) fun r_29 s_29 =>
  some (r_29, s_29))
  else
  (bd (fX4_findBest (rf v0 0) s_20) fun r_37 s_37 =>
  lt r_37 fun v2_40 =>
  if v1 = (0 : Int32) then
  (bd (fX4_lesserOf v2_40 s_37) fun r_69 s_69 =>
  some (r_69, s_69))
  else
  (if v1 = (1 : Int32) then
  (bd (fX4_greaterOf v2_40 s_37) fun r_74 s_74 =>
  some (r_74, s_74))
  else
  (if v1 = (2 : Int32) then
  (bd (fX4_stationOf v2_40 s_37) fun r_79 s_79 =>
  some (r_79, s_79))
  else
  (bd (fX4_priceAt (rf v0 0) v2_40 s_37) fun r_88 s_88 =>
  some (r_88, s_88))))))
def fX4_placeOf (v0 : Int32) (v1 : Int32) (v2 : Int32) (σ : Sg) : Option (Int32 × Sg) :=
  some ((((((if v1 < v0 then v1 else v0) * (5 : Int32)) + (if v0 < v1 then v1 else v0)) * (7 : Int32)) + v2), σ)
def fX10_price (v0 : Nat) (v1 : Int32) (v2 : Int32) (v3 : Int32) (σ : Sg) : Option (Int32 × Sg) :=
  bd (fX10_refusalOfMeet v0 v1 v2 v3 σ) fun r_4 s_4 =>
  lt r_4 fun v4_7 =>
  if v4_7 = 0 then
  (bd (fX4_placeOf v1 v2 v3 s_4) fun r_28 s_28 =>
  bd (fX4_priceAt (rf v0 0) r_28 s_28) fun r_31 s_31 =>
  some (r_31, s_31))
  else
  (bd (fX10_finding v0 v4_7 s_4) fun r_17 s_17 =>
  some (r_17, s_17))
def fX10_isSheet (v0 : Int32) (σ : Sg) : Option (Int32 × Sg) :=
  bd (fX10_isWithin v0 (0 : Int32) (3 : Int32) σ) fun r_3 s_3 =>
  gd (r_3 = 0 ∨ r_3 = 1) (some (r_3, s_3))
def fX7_isMissing (v0 : Nat) (σ : Sg) : Option (Int32 × Sg) :=
  if (σ v0 0) = 0 then
  (gd ((1 : Int32) = 0 ∨ (1 : Int32) = 1) (some ((1 : Int32), σ)))
  else
  (gd ((0 : Int32) = 0 ∨ (0 : Int32) = 1) (some ((0 : Int32), σ)))
def fX7_mask (v0 : Nat) (σ : Sg) : Option (Int32 × Sg) :=
  if (σ v0 0) = (32 : Int32) then
  (some ((-1 : Int32), σ))
  else
  (some ((((1 : Int32) <<< ((σ v0 0) &&& 31)) - (1 : Int32)), σ))
def fX4_firstWrong_54 (v0 : Nat) (v1 : Nat) (v2 : Int32) (v3 : Int32) (k4 : Int32 → Int32 → Sg → Option (Int32 × Sg)) (σ : Sg) : Option (Int32 × Sg) :=
  lt (v3 + (1 : Int32)) fun v3_54 =>
  k4 v2 v3_54 σ
def fX4_firstWrong_4 (v0 : Nat) (v1 : Nat) (k4 : Int32 → Int32 → Sg → Option (Int32 × Sg)) (v2 : Int32) (v3 : Int32) (σ : Sg) : Option (Int32 × Sg) :=
  if (175 : Int32) ≤ v3 then
  (some ((-1 : Int32), σ))
  else
  (if (σ v1 1) ≤ v2 then
  (some ((-1 : Int32), σ))
  else
  (bd (fX4_canMeet v0 v3 σ) fun r_21 s_21 =>
  if r_21 = 0 then
  (fX4_firstWrong_54 v0 v1 v2 v3 k4 s_21)
  else
  (gd (inR v2 (ln (rf v1 2))) <|
  bd (fX4_priceAt v0 v3 s_21) fun r_38 s_38 =>
  bd (fX7_mask v1 s_38) fun r_42 s_42 =>
  if (s_21 (rf v1 2) (v2).toNatClampNeg) = (r_38 &&& r_42) then
  (lt (v2 + (1 : Int32)) fun v2_51 =>
  fX4_firstWrong_54 v0 v1 v2_51 v3 k4 s_42)
  else
  (some (v2, s_42)))))
def fX4_firstWrong (v0 : Nat) (v1 : Nat) (σ : Sg) : Option (Int32 × Sg) :=
  lt (0 : Int32) fun v2_1 =>
  lt (0 : Int32) fun v3_3 =>
  lq2 (fX4_firstWrong_4 v0 v1) FU v2_1 v3_3 σ
def fX10_proves_20 (v0 : Nat) (v1 : Int32) (v2 : Int32) (v3 : Int32) (v4 : Int32) (w0 : Int32) (σ : Sg) : Option (Int32 × Sg) :=
  lt w0 fun v5_20 =>
  if v5_20 = 0 then
  (gd (inR v4 (ln (rf v0 4))) <|
  bd (fX7_isMissing (rf (rf v0 4) (v4).toNatClampNeg) σ) fun r_41 s_41 =>
  if r_41 = 0 then
  (bd (fX4_findBest (rf v0 0) s_41) fun r_58 s_58 =>
  bd (fX4_placeOf v1 v2 v3 s_58) fun r_64 s_64 =>
  if r_58 = r_64 then
  (bd (fX4_countMeets (rf v0 0) s_64) fun r_81 s_81 =>
  lt r_81 fun v6_84 =>
  gd (inR v4 (ln (rf v0 4))) <|
  if (s_81 (rf (rf v0 4) (v4).toNatClampNeg) 1) = v6_84 then
  (gd (inR v4 (ln (rf v0 4))) <|
  bd (fX4_firstWrong (rf v0 0) (rf (rf v0 4) (v4).toNatClampNeg) s_81) fun r_112 s_112 =>
  some (r_112, s_112))
  else
  (some (v6_84, s_81)))
  else
  (bd (fX10_finding v0 (-100004 : Int32) s_64) fun r_73 s_73 =>
  some (r_73, s_73)))
  else
  (bd (fX10_finding v0 (-100002 : Int32) s_41) fun r_50 s_50 =>
  some (r_50, s_50)))
  else
  (bd (fX10_finding v0 v5_20 σ) fun r_30 s_30 =>
  some (r_30, s_30))
def fX10_proves (v0 : Nat) (v1 : Int32) (v2 : Int32) (v3 : Int32) (v4 : Int32) (σ : Sg) : Option (Int32 × Sg) :=
  bd (fX10_isSheet v4 σ) fun r_2 s_2 =>
  if r_2 = 0 then
  (fX10_proves_20 v0 v1 v2 v3 v4 (-100001 : Int32) s_2)
  else
  (bd (fX10_refusalOfMeet v0 v1 v2 v3 s_2) fun r_12 s_12 =>
  fX10_proves_20 v0 v1 v2 v3 v4 r_12 s_12)
def fX7_areBits (v0 : Int32) (σ : Sg) : Option (Int32 × Sg) :=
  if v0 = 0 then
  (gd ((1 : Int32) = 0 ∨ (1 : Int32) = 1) (some ((1 : Int32), σ)))
  else
  (if v0 = (8 : Int32) then
  (gd ((1 : Int32) = 0 ∨ (1 : Int32) = 1) (some ((1 : Int32), σ)))
  else
  (if v0 = (16 : Int32) then
  (gd ((1 : Int32) = 0 ∨ (1 : Int32) = 1) (some ((1 : Int32), σ)))
  else
  (if v0 = (32 : Int32) then
  (gd ((1 : Int32) = 0 ∨ (1 : Int32) = 1) (some ((1 : Int32), σ)))
  else
  (gd ((0 : Int32) = 0 ∨ (0 : Int32) = 1) (some ((0 : Int32), σ))))))
def fX7_clear (v0 : Nat) (v1 : Int32) (v2 : Int32) (σ : Sg) : Option (Unit × Sg) :=
  lt (wr σ v0 0 v1) fun s_2 =>
  if v1 = 0 then
  (lt (wr s_2 v0 1 (0 : Int32)) fun s_15 =>
  bd (fJ7_fill_53178 (rf v0 2) (0 : Int32) s_15) fun r_23 s_23 =>
  some ((), s_23))
  else
  (lt (wr s_2 v0 1 v2) fun s_15 =>
  bd (fJ7_fill_53178 (rf v0 2) (0 : Int32) s_15) fun r_23 s_23 =>
  some ((), s_23))
def fX10_sheet (v0 : Nat) (v1 : Int32) (v2 : Int32) (v3 : Int32) (σ : Sg) : Option (Int32 × Sg) :=
  bd (fX10_isSheet v1 σ) fun r_1 s_1 =>
  if r_1 = 0 then
  (bd (fX10_finding v0 (-100001 : Int32) s_1) fun r_17 s_17 =>
  some (r_17, s_17))
  else
  (bd (fX7_areBits v2 s_1) fun r_8 s_8 =>
  if r_8 = 0 then
  (bd (fX10_finding v0 (-100001 : Int32) s_8) fun r_17 s_17 =>
  some (r_17, s_17))
  else
  (if 0 ≤ v3 then
  (if v3 ≤ (60 : Int32) then
  (gd (inR v1 (ln (rf v0 4))) <|
  bd (fX7_clear (rf (rf v0 4) (v1).toNatClampNeg) v2 v3 s_8) fun r_53 s_53 =>
  gd (inR v1 (ln (rf v0 4))) <|
  some ((s_53 (rf (rf v0 4) (v1).toNatClampNeg) 1), s_53))
  else
  (bd (fX10_finding v0 (-100001 : Int32) s_8) fun r_41 s_41 =>
  some (r_41, s_41)))
  else
  (bd (fX10_finding v0 (-100003 : Int32) s_8) fun r_28 s_28 =>
  some (r_28, s_28))))
def fX10_put (v0 : Nat) (v1 : Int32) (v2 : Int32) (v3 : Int32) (σ : Sg) : Option (Int32 × Sg) :=
  bd (fX10_isSheet v1 σ) fun r_1 s_1 =>
  if r_1 = 0 then
  (bd (fX10_finding v0 (-100001 : Int32) s_1) fun r_10 s_10 =>
  some (r_10, s_10))
  else
  (gd (inR v1 (ln (rf v0 4))) <|
  bd (fX7_isMissing (rf (rf v0 4) (v1).toNatClampNeg) s_1) fun r_20 s_20 =>
  if r_20 = 0 then
  (gd (inR v1 (ln (rf v0 4))) <|
  bd (fX10_isWithin v2 (0 : Int32) ((s_20 (rf (rf v0 4) (v1).toNatClampNeg) 1) - (1 : Int32)) s_20) fun r_46 s_46 =>
  if r_46 = 0 then
  (bd (fX10_finding v0 (-100001 : Int32) s_46) fun r_55 s_55 =>
  some (r_55, s_55))
  else
  (gd (inR v1 (ln (rf v0 4))) <|
  gd (inR v1 (ln (rf v0 4))) <|
  bd (fX7_mask (rf (rf v0 4) (v1).toNatClampNeg) s_46) fun r_76 s_76 =>
  gd (inR v2 (ln (rf (rf (rf v0 4) (v1).toNatClampNeg) 2))) <|
  lt (wr s_76 (rf (rf (rf v0 4) (v1).toNatClampNeg) 2) (v2).toNatClampNeg (v3 &&& r_76)) fun s_80 =>
  some ((0 : Int32), s_80)))
  else
  (bd (fX10_finding v0 (-100002 : Int32) s_20) fun r_29 s_29 =>
  some (r_29, s_29)))
def fX7_hasSpan (v0 : Nat) (v1 : Int32) (v2 : Int32) (σ : Sg) : Option (Int32 × Sg) :=
  if v1 < 0 then
  (gd ((0 : Int32) = 0 ∨ (0 : Int32) = 1) (some ((0 : Int32), σ)))
  else
  (if v2 < 0 then
  (gd ((0 : Int32) = 0 ∨ (0 : Int32) = 1) (some ((0 : Int32), σ)))
  else
  (if (σ v0 1) < v2 then
  (gd ((0 : Int32) = 0 ∨ (0 : Int32) = 1) (some ((0 : Int32), σ)))
  else
  (if ((σ v0 1) - v2) < v1 then
  (gd ((0 : Int32) = 0 ∨ (0 : Int32) = 1) (some ((0 : Int32), σ)))
  else
  (gd ((1 : Int32) = 0 ∨ (1 : Int32) = 1) (some ((1 : Int32), σ))))))
def fX10_copy (v0 : Nat) (v1 : Int32) (v2 : Int32) (v3 : Int32) (v4 : Int32) (v5 : Int32) (σ : Sg) : Option (Int32 × Sg) :=
  bd (fX10_isSheet v1 σ) fun r_1 s_1 =>
  if r_1 = 0 then
  (bd (fX10_finding v0 (-100001 : Int32) s_1) fun r_17 s_17 =>
  some (r_17, s_17))
  else
  (bd (fX10_isSheet v3 s_1) fun r_8 s_8 =>
  if r_8 = 0 then
  (bd (fX10_finding v0 (-100001 : Int32) s_8) fun r_17 s_17 =>
  some (r_17, s_17))
  else
  (gd (inR v1 (ln (rf v0 4))) <|
  bd (fX7_isMissing (rf (rf v0 4) (v1).toNatClampNeg) s_8) fun r_27 s_27 =>
  if r_27 = 0 then
  (gd (inR v3 (ln (rf v0 4))) <|
  bd (fX7_isMissing (rf (rf v0 4) (v3).toNatClampNeg) s_27) fun r_39 s_39 =>
  if r_39 = 0 then
  (gd (inR v1 (ln (rf v0 4))) <|
  gd (inR v3 (ln (rf v0 4))) <|
  if (s_39 (rf (rf v0 4) (v1).toNatClampNeg) 0) = (s_39 (rf (rf v0 4) (v3).toNatClampNeg) 0) then
  (gd (inR v1 (ln (rf v0 4))) <|
  bd (fX7_hasSpan (rf (rf v0 4) (v1).toNatClampNeg) v2 v5 s_39) fun r_89 s_89 =>
  if r_89 = 0 then
  (bd (fX10_finding v0 (-100001 : Int32) s_89) fun r_114 s_114 =>
  some (r_114, s_114))
  else
  (gd (inR v3 (ln (rf v0 4))) <|
  bd (fX7_hasSpan (rf (rf v0 4) (v3).toNatClampNeg) v4 v5 s_89) fun r_105 s_105 =>
  if r_105 = 0 then
  (bd (fX10_finding v0 (-100001 : Int32) s_105) fun r_114 s_114 =>
  some (r_114, s_114))
  else
  (gd (inR v1 (ln (rf v0 4))) <|
  gd (inR v3 (ln (rf v0 4))) <|
  gd (cpR v2 v4 v5 (ln (rf (rf (rf v0 4) (v1).toNatClampNeg) 2)) (ln (rf (rf (rf v0 4) (v3).toNatClampNeg) 2))) <|
  lt (cpy s_105 (rf (rf (rf v0 4) (v1).toNatClampNeg) 2) (rf (rf (rf v0 4) (v3).toNatClampNeg) 2) (v2).toNatClampNeg (v4).toNatClampNeg (v5).toNatClampNeg) fun s_141 =>
  some (v5, s_141))))
  else
  (bd (fX10_finding v0 (-100004 : Int32) s_39) fun r_76 s_76 =>
  some (r_76, s_76)))
  else
  (bd (fX10_finding v0 (-100002 : Int32) s_39) fun r_48 s_48 =>
  some (r_48, s_48)))
  else
  (bd (fX10_finding v0 (-100002 : Int32) s_27) fun r_48 s_48 =>
  some (r_48, s_48))))
def fX10_grades_58 (v0 : Nat) (v2 : Nat) (v3 : Int32) (k58 : Int32 → Sg → Option (Int32 × Sg)) (v4 : Int32) (σ : Sg) : Option (Int32 × Sg) :=
  if v3 ≤ v4 then
  (bd (fX10_keepForUndo v0 σ) fun r_91 s_91 =>
  gd (cpR (0 : Int32) (0 : Int32) v3 (ln (rf v2 2)) (ln (rf (rf (rf v0 2) 0) 2))) <|
  lt (cpy s_91 (rf v2 2) (rf (rf (rf v0 2) 0) 2) ((0 : Int32)).toNatClampNeg ((0 : Int32)).toNatClampNeg (v3).toNatClampNeg) fun s_111 =>
  some (v3, s_111))
  else
  (gd (inR v4 (ln (rf v2 2))) <|
  bd (fX8_areMinutes (σ (rf v2 2) (v4).toNatClampNeg) σ) fun r_71 s_71 =>
  if r_71 = 0 then
  (bd (fX10_finding v0 (-100001 : Int32) s_71) fun r_80 s_80 =>
  some (r_80, s_80))
  else
  (lt (v4 + (1 : Int32)) fun v4_84 =>
  k58 v4_84 s_71))
def fX10_grades (v0 : Nat) (v1 : Int32) (σ : Sg) : Option (Int32 × Sg) :=
  bd (fX10_isSheet v1 σ) fun r_1 s_1 =>
  if r_1 = 0 then
  (bd (fX10_finding v0 (-100001 : Int32) s_1) fun r_10 s_10 =>
  some (r_10, s_10))
  else
  (gd (inR v1 (ln (rf v0 4))) <|
  bd (fX7_isMissing (rf (rf v0 4) (v1).toNatClampNeg) s_1) fun r_22 s_22 =>
  if r_22 = 0 then
  (lt (if ((s_22 (rf (rf v0 2) 0) 0) - (1 : Int32)) < (s_22 (rf (rf v0 4) (v1).toNatClampNeg) 1) then ((s_22 (rf (rf v0 2) 0) 0) - (1 : Int32)) else (s_22 (rf (rf v0 4) (v1).toNatClampNeg) 1)) fun v3_54 =>
  lt (0 : Int32) fun v4_56 =>
  lq1 (fX10_grades_58 v0 (rf (rf v0 4) (v1).toNatClampNeg) v3_54) FU v4_56 s_22)
  else
  (bd (fX10_finding v0 (-100002 : Int32) s_22) fun r_31 s_31 =>
  some (r_31, s_31)))
def fX2_giveBack (v0 : Nat) (v1 : Nat) (σ : Sg) : Option (Unit × Sg) :=
  if (σ v0 2) = 0 then
  (some ((), σ))
  else
  (lt (wr σ v0 1 ((((σ v0 1) + (16 : Int32)) - (1 : Int32)) - (((σ v0 1) + (16 : Int32)) - (1 : Int32)) / (16 : Int32) * (16 : Int32))) fun s_21 =>
  lt (wr s_21 v0 2 ((s_21 v0 2) - (1 : Int32))) fun s_31 =>
  gd (inR (s_31 v0 1) (ln (rf v0 0))) <|
  bd (fX3_takeFrom v1 (rf (rf v0 0) ((s_31 v0 1)).toNatClampNeg) s_31) fun r_44 s_44 =>
  some ((), s_44))
def fX10_undo (v0 : Nat) (σ : Sg) : Option (Int32 × Sg) :=
  if (σ (rf v0 3) 2) = 0 then
  (bd (fX10_finding v0 (-100006 : Int32) σ) fun r_13 s_13 =>
  some (r_13, s_13))
  else
  (bd (fX2_giveBack (rf v0 3) (rf v0 2) σ) fun r_25 s_25 =>
  bd (fX10_forgetTheDay v0 s_25) fun r_29 s_29 =>
  some ((s_29 (rf v0 3) 2), s_29))
def fX10_all (v0 : Nat) (v1 : Int32) (σ : Sg) : Option (Int32 × Sg) :=
  if v1 = (0 : Int32) then
  (some ((σ (rf (rf v0 2) 0) 0), σ))
  else
  (if v1 = (1 : Int32) then
  (some ((σ (rf (rf v0 2) 1) 0), σ))
  else
  (if v1 = (2 : Int32) then
  (some ((σ (rf (rf v0 2) 2) 0), σ))
  else
  (if v1 = (3 : Int32) then
  (some ((σ (rf v0 2) 3), σ))
  else
  (if v1 = (4 : Int32) then
  (some ((σ v0 5), σ))
  else
  (bd (fX10_finding v0 (-100001 : Int32) σ) fun r_85 s_85 =>
  some (r_85, s_85))))))
