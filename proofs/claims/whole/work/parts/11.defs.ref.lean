def fX11_in (v0 : Int32) (v1 : Int32) (v2 : Int32) (σ : Sg) : Option (Int32 × Sg) :=
  if v0 < v1 then
  (gd ((0 : Int32) = 0 ∨ (0 : Int32) = 1) (some ((0 : Int32), σ)))
  else
  (if v2 < v0 then
  (gd ((0 : Int32) = 0 ∨ (0 : Int32) = 1) (some ((0 : Int32), σ)))
  else
  (gd ((1 : Int32) = 0 ∨ (1 : Int32) = 1) (some ((1 : Int32), σ))))
def fX11_finds (v0 : Nat) (v1 : Int32) (σ : Sg) : Option (Int32 × Sg) :=
  lt (wr σ v0 4 ((σ v0 4) + (1 : Int32))) fun s_7 =>
  some (v1, s_7)
def fX11_keep_7 (v0 : Nat) (k7 : Int32 → Sg → Option (Unit × Sg)) (v1 : Int32) (σ : Sg) : Option (Unit × Sg) :=
  if (174 : Int32) ≤ v1 then
  (lt (wr σ v0 2 (((σ v0 2) + (1 : Int32)) - ((σ v0 2) + (1 : Int32)) / (16 : Int32) * (16 : Int32))) fun s_51 =>
  if (16 : Int32) ≤ (s_51 v0 3) then
  (lt (wr s_51 v0 3 (16 : Int32)) fun s_75 =>
  some ((), s_75))
  else
  (lt (wr s_51 v0 3 ((s_51 v0 3) + (1 : Int32))) fun s_75 =>
  some ((), s_75)))
  else
  (gd (inR v1 (ln (rf v0 0))) <|
  gd (inR (((174 : Int32) * (σ v0 2)) + v1) (ln (rf v0 1))) <|
  lt (wr σ (rf v0 1) ((((174 : Int32) * (σ v0 2)) + v1)).toNatClampNeg (σ (rf v0 0) (v1).toNatClampNeg)) fun s_34 =>
  lt (v1 + (1 : Int32)) fun v1_35 =>
  k7 v1_35 s_34)
def fX11_keep (v0 : Nat) (σ : Sg) : Option (Unit × Sg) :=
  lt (wr σ v0 9 (0 : Int32)) fun s_2 =>
  lt (0 : Int32) fun v1_6 =>
  lq1 (fX11_keep_7 v0) FU v1_6 s_2
def fX11_undo_47 (v0 : Nat) (k47 : Int32 → Sg → Option (Int32 × Sg)) (v1 : Int32) (σ : Sg) : Option (Int32 × Sg) :=
  if (174 : Int32) ≤ v1 then
  (some ((σ v0 3), σ))
  else
  (gd (inR (((174 : Int32) * (σ v0 2)) + v1) (ln (rf v0 1))) <|
  gd (inR v1 (ln (rf v0 0))) <|
  lt (wr σ (rf v0 0) (v1).toNatClampNeg (σ (rf v0 1) ((((174 : Int32) * (σ v0 2)) + v1)).toNatClampNeg)) fun s_74 =>
  lt (v1 + (1 : Int32)) fun v1_75 =>
  k47 v1_75 s_74)
def fX11_undo (v0 : Nat) (σ : Sg) : Option (Int32 × Sg) :=
  if (σ v0 3) = 0 then
  (bd (fX11_finds v0 (-100006 : Int32) σ) fun r_10 s_10 =>
  some (r_10, s_10))
  else
  (lt (wr σ v0 9 (0 : Int32)) fun s_16 =>
  lt (wr s_16 v0 2 ((((s_16 v0 2) + (16 : Int32)) - (1 : Int32)) - (((s_16 v0 2) + (16 : Int32)) - (1 : Int32)) / (16 : Int32) * (16 : Int32))) fun s_32 =>
  lt (wr s_32 v0 3 ((s_32 v0 3) - (1 : Int32))) fun s_42 =>
  lt (0 : Int32) fun v1_46 =>
  lq1 (fX11_undo_47 v0) FU v1_46 s_42)
def fX11_becomes (v0 : Nat) (v1 : Int32) (v2 : Int32) (σ : Sg) : Option (Int32 × Sg) :=
  bd (fX11_keep v0 σ) fun r_1 s_1 =>
  gd (inR v1 (ln (rf v0 0))) <|
  lt (s_1 (rf v0 0) (v1).toNatClampNeg) fun v3_10 =>
  gd (inR v1 (ln (rf v0 0))) <|
  lt (wr s_1 (rf v0 0) (v1).toNatClampNeg v2) fun s_17 =>
  some (v3_10, s_17)
def fX11_isStation (v0 : Nat) (v1 : Int32) (σ : Sg) : Option (Int32 × Sg) :=
  gd (inR (0 : Int32) (ln (rf v0 0))) <|
  bd (fX11_in v1 (0 : Int32) ((σ (rf v0 0) ((0 : Int32)).toNatClampNeg) - (1 : Int32)) σ) fun r_10 s_10 =>
  gd (r_10 = 0 ∨ r_10 = 1) (some (r_10, s_10))
def fX11_isTrain (v0 : Nat) (v1 : Int32) (σ : Sg) : Option (Int32 × Sg) :=
  gd (inR (14 : Int32) (ln (rf v0 0))) <|
  bd (fX11_in v1 (0 : Int32) ((σ (rf v0 0) ((14 : Int32)).toNatClampNeg) - (1 : Int32)) σ) fun r_11 s_11 =>
  gd (r_11 = 0 ∨ r_11 = 1) (some (r_11, s_11))
def fX11_isOrder (v0 : Nat) (v1 : Int32) (σ : Sg) : Option (Int32 × Sg) :=
  gd (inR (40 : Int32) (ln (rf v0 0))) <|
  bd (fX11_in v1 (0 : Int32) ((σ (rf v0 0) ((40 : Int32)).toNatClampNeg) - (1 : Int32)) σ) fun r_11 s_11 =>
  gd (r_11 = 0 ∨ r_11 = 1) (some (r_11, s_11))
def fX11_isMinute (v0 : Int32) (σ : Sg) : Option (Int32 × Sg) :=
  bd (fX11_in v0 (0 : Int32) (500 : Int32) σ) fun r_5 s_5 =>
  gd (r_5 = 0 ∨ r_5 = 1) (some (r_5, s_5))
def fX11_kindOf (v0 : Nat) (v1 : Int32) (σ : Sg) : Option (Int32 × Sg) :=
  gd (inR ((15 : Int32) + ((5 : Int32) * v1)) (ln (rf v0 0))) <|
  some ((σ (rf v0 0) (((15 : Int32) + ((5 : Int32) * v1))).toNatClampNeg), σ)
def fX11_fromOf (v0 : Nat) (v1 : Int32) (σ : Sg) : Option (Int32 × Sg) :=
  gd (inR (((15 : Int32) + ((5 : Int32) * v1)) + (1 : Int32)) (ln (rf v0 0))) <|
  some ((σ (rf v0 0) ((((15 : Int32) + ((5 : Int32) * v1)) + (1 : Int32))).toNatClampNeg), σ)
def fX11_toOf (v0 : Nat) (v1 : Int32) (σ : Sg) : Option (Int32 × Sg) :=
  gd (inR (((15 : Int32) + ((5 : Int32) * v1)) + (2 : Int32)) (ln (rf v0 0))) <|
  some ((σ (rf v0 0) ((((15 : Int32) + ((5 : Int32) * v1)) + (2 : Int32))).toNatClampNeg), σ)
def fX11_timeOf (v0 : Nat) (v1 : Int32) (σ : Sg) : Option (Int32 × Sg) :=
  gd (inR (((15 : Int32) + ((5 : Int32) * v1)) + (4 : Int32)) (ln (rf v0 0))) <|
  some ((σ (rf v0 0) ((((15 : Int32) + ((5 : Int32) * v1)) + (4 : Int32))).toNatClampNeg), σ)
def fX11_wayOf (v0 : Nat) (v1 : Int32) (σ : Sg) : Option (Int32 × Sg) :=
  bd (fX11_toOf v0 v1 σ) fun r_2 s_2 =>
  bd (fX11_fromOf v0 v1 s_2) fun r_7 s_7 =>
  if r_2 ≤ r_7 then
  (some ((1 : Int32), s_7))
  else
  (some ((0 : Int32), s_7))
def fX11_stationOf (v0 : Nat) (v1 : Int32) (σ : Sg) : Option (Int32 × Sg) :=
  gd (inR (((41 : Int32) + ((5 : Int32) * v1)) + (3 : Int32)) (ln (rf v0 0))) <|
  some ((σ (rf v0 0) ((((41 : Int32) + ((5 : Int32) * v1)) + (3 : Int32))).toNatClampNeg), σ)
def fX11_stations_63 (v0 : Nat) (v1 : Int32) (k63 : Int32 → Sg → Option (Int32 × Sg)) (v2 : Int32) (σ : Sg) : Option (Int32 × Sg) :=
  gd (inR (40 : Int32) (ln (rf v0 0))) <|
  if (σ (rf v0 0) ((40 : Int32)).toNatClampNeg) ≤ v2 then
  (bd (fX11_becomes v0 (0 : Int32) v1 σ) fun r_99 s_99 =>
  some (r_99, s_99))
  else
  (bd (fX11_stationOf v0 v2 σ) fun r_76 s_76 =>
  if r_76 < v1 then
  (lt (v2 + (1 : Int32)) fun v2_90 =>
  k63 v2_90 s_76)
  else
  (bd (fX11_finds v0 (-100007 : Int32) s_76) fun r_86 s_86 =>
  some (r_86, s_86)))
def fX11_stations_19 (v0 : Nat) (v1 : Int32) (k19 : Int32 → Sg → Option (Int32 × Sg)) (v2 : Int32) (σ : Sg) : Option (Int32 × Sg) :=
  gd (inR (14 : Int32) (ln (rf v0 0))) <|
  if (σ (rf v0 0) ((14 : Int32)).toNatClampNeg) ≤ v2 then
  (lt (0 : Int32) fun v2_62 =>
  lq1 (fX11_stations_63 v0 v1) FU v2_62 σ)
  else
  (bd (fX11_fromOf v0 v2 σ) fun r_32 s_32 =>
  if v1 ≤ r_32 then
  (bd (fX11_finds v0 (-100007 : Int32) s_32) fun r_51 s_51 =>
  some (r_51, s_51))
  else
  (bd (fX11_toOf v0 v2 s_32) fun r_41 s_41 =>
  if r_41 < v1 then
  (lt (v2 + (1 : Int32)) fun v2_55 =>
  k19 v2_55 s_41)
  else
  (bd (fX11_finds v0 (-100007 : Int32) s_41) fun r_51 s_51 =>
  some (r_51, s_51))))
def fX11_stations (v0 : Nat) (v1 : Int32) (σ : Sg) : Option (Int32 × Sg) :=
  bd (fX11_in v1 (2 : Int32) (7 : Int32) σ) fun r_4 s_4 =>
  if r_4 = 0 then
  (bd (fX11_finds v0 (-100001 : Int32) s_4) fun r_13 s_13 =>
  some (r_13, s_13))
  else
  (lt (0 : Int32) fun v2_18 =>
  lq1 (fX11_stations_19 v0 v1) FU v2_18 s_4)
def fX11_siding (v0 : Nat) (v1 : Int32) (v2 : Int32) (σ : Sg) : Option (Int32 × Sg) :=
  bd (fX11_isStation v0 v1 σ) fun r_2 s_2 =>
  if r_2 = 0 then
  (bd (fX11_finds v0 (-100001 : Int32) s_2) fun r_32 s_32 =>
  some (r_32, s_32))
  else
  (bd (fX11_in v2 (0 : Int32) (30 : Int32) s_2) fun r_12 s_12 =>
  if r_12 = 0 then
  (bd (fX11_finds v0 (-100001 : Int32) s_12) fun r_32 s_32 =>
  some (r_32, s_32))
  else
  (bd (fX11_becomes v0 ((1 : Int32) + v1) v2 s_12) fun r_23 s_23 =>
  some (r_23, s_23)))
def fX11_section (v0 : Nat) (v1 : Int32) (v2 : Int32) (σ : Sg) : Option (Int32 × Sg) :=
  gd (inR (0 : Int32) (ln (rf v0 0))) <|
  bd (fX11_in v1 (0 : Int32) ((σ (rf v0 0) ((0 : Int32)).toNatClampNeg) - (2 : Int32)) σ) fun r_10 s_10 =>
  if r_10 = 0 then
  (bd (fX11_finds v0 (-100001 : Int32) s_10) fun r_41 s_41 =>
  some (r_41, s_41))
  else
  (bd (fX11_in v2 (1 : Int32) (30 : Int32) s_10) fun r_20 s_20 =>
  if r_20 = 0 then
  (bd (fX11_finds v0 (-100001 : Int32) s_20) fun r_41 s_41 =>
  some (r_41, s_41))
  else
  (bd (fX11_becomes v0 ((8 : Int32) + v1) v2 s_20) fun r_32 s_32 =>
  some (r_32, s_32)))
def fX11_train (v0 : Nat) (v1 : Int32) (v2 : Int32) (v3 : Int32) (v4 : Int32) (v5 : Int32) (σ : Sg) : Option (Int32 × Sg) :=
  bd (fX11_in v1 (0 : Int32) (3 : Int32) σ) fun r_3 s_3 =>
  if r_3 = 0 then
  (bd (fX11_finds v0 (-100001 : Int32) s_3) fun r_51 s_51 =>
  some (r_51, s_51))
  else
  (bd (fX11_isStation v0 v2 s_3) fun r_11 s_11 =>
  if r_11 = 0 then
  (bd (fX11_finds v0 (-100001 : Int32) s_11) fun r_51 s_51 =>
  some (r_51, s_51))
  else
  (bd (fX11_isStation v0 v3 s_11) fun r_19 s_19 =>
  if r_19 = 0 then
  (bd (fX11_finds v0 (-100001 : Int32) s_19) fun r_51 s_51 =>
  some (r_51, s_51))
  else
  (bd (fX11_in v4 (1 : Int32) (30 : Int32) s_19) fun r_30 s_30 =>
  if r_30 = 0 then
  (bd (fX11_finds v0 (-100001 : Int32) s_30) fun r_51 s_51 =>
  some (r_51, s_51))
  else
  (bd (fX11_in v5 (0 : Int32) (300 : Int32) s_30) fun r_42 s_42 =>
  if r_42 = 0 then
  (bd (fX11_finds v0 (-100001 : Int32) s_42) fun r_51 s_51 =>
  some (r_51, s_51))
  else
  (if v2 = v3 then
  (bd (fX11_finds v0 (-100003 : Int32) s_42) fun r_63 s_63 =>
  some (r_63, s_63))
  else
  (gd (inR (14 : Int32) (ln (rf v0 0))) <|
  lt (s_42 (rf v0 0) ((14 : Int32)).toNatClampNeg) fun v6_74 =>
  if v6_74 = (5 : Int32) then
  (bd (fX11_finds v0 (-100005 : Int32) s_42) fun r_85 s_85 =>
  some (r_85, s_85))
  else
  (bd (fX11_keep v0 s_42) fun r_90 s_90 =>
  gd (inR ((15 : Int32) + ((5 : Int32) * v6_74)) (ln (rf v0 0))) <|
  lt (wr s_90 (rf v0 0) (((15 : Int32) + ((5 : Int32) * v6_74))).toNatClampNeg v1) fun s_105 =>
  gd (inR (((15 : Int32) + ((5 : Int32) * v6_74)) + (1 : Int32)) (ln (rf v0 0))) <|
  lt (wr s_105 (rf v0 0) ((((15 : Int32) + ((5 : Int32) * v6_74)) + (1 : Int32))).toNatClampNeg v2) fun s_120 =>
  gd (inR (((15 : Int32) + ((5 : Int32) * v6_74)) + (2 : Int32)) (ln (rf v0 0))) <|
  lt (wr s_120 (rf v0 0) ((((15 : Int32) + ((5 : Int32) * v6_74)) + (2 : Int32))).toNatClampNeg v3) fun s_135 =>
  gd (inR (((15 : Int32) + ((5 : Int32) * v6_74)) + (3 : Int32)) (ln (rf v0 0))) <|
  lt (wr s_135 (rf v0 0) ((((15 : Int32) + ((5 : Int32) * v6_74)) + (3 : Int32))).toNatClampNeg v4) fun s_151 =>
  gd (inR (((15 : Int32) + ((5 : Int32) * v6_74)) + (4 : Int32)) (ln (rf v0 0))) <|
  lt (wr s_151 (rf v0 0) ((((15 : Int32) + ((5 : Int32) * v6_74)) + (4 : Int32))).toNatClampNeg v5) fun s_167 =>
  gd (inR (14 : Int32) (ln (rf v0 0))) <|
  gd (inR (14 : Int32) (ln (rf v0 0))) <|
  lt (wr s_167 (rf v0 0) ((14 : Int32)).toNatClampNeg ((s_167 (rf v0 0) ((14 : Int32)).toNatClampNeg) + (1 : Int32))) fun s_178 =>
  some (v6_74, s_178))))))))
def fX11_as (v0 : Nat) (v1 : Int32) (v2 : Int32) (σ : Sg) : Option (Int32 × Sg) :=
  bd (fX11_isTrain v0 v1 σ) fun r_2 s_2 =>
  if r_2 = 0 then
  (bd (fX11_finds v0 (-100001 : Int32) s_2) fun r_20 s_20 =>
  some (r_20, s_20))
  else
  (bd (fX11_in v2 (0 : Int32) (3 : Int32) s_2) fun r_11 s_11 =>
  if r_11 = 0 then
  (bd (fX11_finds v0 (-100001 : Int32) s_11) fun r_20 s_20 =>
  some (r_20, s_20))
  else
  (if v2 = 0 then
  (some (v1, s_11))
  else
  (bd (fX11_kindOf v0 v1 s_11) fun r_30 s_30 =>
  if r_30 = v2 then
  (some (v1, s_30))
  else
  (if v2 = (1 : Int32) then
  (bd (fX11_kindOf v0 v1 s_30) fun r_44 s_44 =>
  if r_44 = (2 : Int32) then
  (some (v1, s_44))
  else
  (bd (fX11_finds v0 (-100004 : Int32) s_44) fun r_58 s_58 =>
  some (r_58, s_58)))
  else
  (bd (fX11_finds v0 (-100004 : Int32) s_30) fun r_58 s_58 =>
  some (r_58, s_58))))))
def fX11_of (v0 : Nat) (v1 : Int32) (v2 : Int32) (σ : Sg) : Option (Int32 × Sg) :=
  bd (fX11_isTrain v0 v1 σ) fun r_2 s_2 =>
  if r_2 = 0 then
  (bd (fX11_finds v0 (-100001 : Int32) s_2) fun r_20 s_20 =>
  some (r_20, s_20))
  else
  (bd (fX11_in v2 (0 : Int32) (5 : Int32) s_2) fun r_11 s_11 =>
  if r_11 = 0 then
  (bd (fX11_finds v0 (-100001 : Int32) s_11) fun r_20 s_20 =>
  some (r_20, s_20))
  else
  (if v2 = (5 : Int32) then
  (bd (fX11_wayOf v0 v1 s_11) fun r_31 s_31 =>
  some (r_31, s_31))
  else
  (gd (inR (((15 : Int32) + ((5 : Int32) * v1)) + v2) (ln (rf v0 0))) <|
  some ((s_11 (rf v0 0) ((((15 : Int32) + ((5 : Int32) * v1)) + v2)).toNatClampNeg), s_11))))
def fX11_time (v0 : Nat) (v1 : Int32) (v2 : Int32) (σ : Sg) : Option (Int32 × Sg) :=
  bd (fX11_isTrain v0 v1 σ) fun r_2 s_2 =>
  if r_2 = 0 then
  (bd (fX11_finds v0 (-100001 : Int32) s_2) fun r_38 s_38 =>
  some (r_38, s_38))
  else
  (bd (fX11_in v2 (0 : Int32) (300 : Int32) s_2) fun r_13 s_13 =>
  if r_13 = 0 then
  (bd (fX11_finds v0 (-100001 : Int32) s_13) fun r_38 s_38 =>
  some (r_38, s_38))
  else
  (bd (fX11_becomes v0 (((15 : Int32) + ((5 : Int32) * v1)) + (4 : Int32)) v2 s_13) fun r_29 s_29 =>
  some (r_29, s_29)))
def fX11_between_26 (v0 : Nat) (v1 : Int32) (v2 : Int32) (v3 : Int32) (v4 : Int32) (w0 : Int32) (w1 : Int32) (k14 : Int32 → Int32 → Sg → Option (Int32 × Sg)) (σ : Sg) : Option (Int32 × Sg) :=
  if w0 ≤ w1 then
  (some (v3, σ))
  else
  (gd (inR ((8 : Int32) + v4) (ln (rf v0 0))) <|
  lt (v3 + (σ (rf v0 0) (((8 : Int32) + v4)).toNatClampNeg)) fun v3_41 =>
  lt (v4 + (1 : Int32)) fun v4_42 =>
  k14 v3_41 v4_42 σ)
def fX11_between_14 (v0 : Nat) (v1 : Int32) (v2 : Int32) (k14 : Int32 → Int32 → Sg → Option (Int32 × Sg)) (v3 : Int32) (v4 : Int32) (σ : Sg) : Option (Int32 × Sg) :=
  if v2 ≤ v1 then
  (fX11_between_26 v0 v1 v2 v3 v4 v1 v4 k14 σ)
  else
  (fX11_between_26 v0 v1 v2 v3 v4 v2 v4 k14 σ)
def fX11_between_12 (v0 : Nat) (v1 : Int32) (v2 : Int32) (v3 : Int32) (w0 : Int32) (σ : Sg) : Option (Int32 × Sg) :=
  lt w0 fun v4_12 =>
  lq2 (fX11_between_14 v0 v1 v2) FU v3 v4_12 σ
def fX11_between (v0 : Nat) (v1 : Int32) (v2 : Int32) (σ : Sg) : Option (Int32 × Sg) :=
  lt (0 : Int32) fun v3_1 =>
  if v2 ≤ v1 then
  (fX11_between_12 v0 v1 v2 v3_1 v2 σ)
  else
  (fX11_between_12 v0 v1 v2 v3_1 v1 σ)
def fX11_isOnWay (v0 : Nat) (v1 : Int32) (v2 : Int32) (σ : Sg) : Option (Int32 × Sg) :=
  bd (fX11_wayOf v0 v1 σ) fun r_2 s_2 =>
  if r_2 = 0 then
  (bd (fX11_fromOf v0 v1 s_2) fun r_11 s_11 =>
  bd (fX11_toOf v0 v1 s_11) fun r_16 s_16 =>
  bd (fX11_in v2 r_11 r_16 s_16) fun r_19 s_19 =>
  gd (r_19 = 0 ∨ r_19 = 1) (some (r_19, s_19)))
  else
  (bd (fX11_toOf v0 v1 s_2) fun r_28 s_28 =>
  bd (fX11_fromOf v0 v1 s_28) fun r_33 s_33 =>
  bd (fX11_in v2 r_28 r_33 s_33) fun r_36 s_36 =>
  gd (r_36 = 0 ∨ r_36 = 1) (some (r_36, s_36)))
def fX11_dueAt (v0 : Nat) (v1 : Int32) (v2 : Int32) (σ : Sg) : Option (Int32 × Sg) :=
  bd (fX11_timeOf v0 v1 σ) fun r_2 s_2 =>
  bd (fX11_fromOf v0 v1 s_2) fun r_8 s_8 =>
  bd (fX11_between v0 r_8 v2 s_8) fun r_12 s_12 =>
  some ((r_2 + r_12), s_12)
def fX11_due (v0 : Nat) (v1 : Int32) (v2 : Int32) (σ : Sg) : Option (Int32 × Sg) :=
  bd (fX11_isTrain v0 v1 σ) fun r_2 s_2 =>
  if r_2 = 0 then
  (bd (fX11_finds v0 (-100001 : Int32) s_2) fun r_19 s_19 =>
  some (r_19, s_19))
  else
  (bd (fX11_isStation v0 v2 s_2) fun r_10 s_10 =>
  if r_10 = 0 then
  (bd (fX11_finds v0 (-100001 : Int32) s_10) fun r_19 s_19 =>
  some (r_19, s_19))
  else
  (bd (fX11_isOnWay v0 v1 v2 s_10) fun r_26 s_26 =>
  if r_26 = 0 then
  (bd (fX11_finds v0 (-100006 : Int32) s_26) fun r_44 s_44 =>
  some (r_44, s_44))
  else
  (bd (fX11_dueAt v0 v1 v2 s_26) fun r_35 s_35 =>
  some (r_35, s_35))))
def fX11_rankOf (v0 : Nat) (v1 : Int32) (σ : Sg) : Option (Int32 × Sg) :=
  bd (fX11_kindOf v0 v1 σ) fun r_2 s_2 =>
  if r_2 = (3 : Int32) then
  (some ((0 : Int32), s_2))
  else
  (bd (fX11_kindOf v0 v1 s_2) fun r_15 s_15 =>
  some (r_15, s_15))
def fX11_isOver (v0 : Nat) (v1 : Int32) (v2 : Int32) (v3 : Int32) (σ : Sg) : Option (Int32 × Sg) :=
  bd (fX11_rankOf v0 v1 σ) fun r_2 s_2 =>
  bd (fX11_rankOf v0 v3 s_2) fun r_7 s_7 =>
  if r_7 < r_2 then
  (gd ((1 : Int32) = 0 ∨ (1 : Int32) = 1) (some ((1 : Int32), s_7)))
  else
  (bd (fX11_rankOf v0 v1 s_7) fun r_15 s_15 =>
  bd (fX11_rankOf v0 v3 s_15) fun r_20 s_20 =>
  if r_15 = r_20 then
  (if v2 = 0 then
  (gd ((1 : Int32) = 0 ∨ (1 : Int32) = 1) (some ((1 : Int32), s_20)))
  else
  (gd ((0 : Int32) = 0 ∨ (0 : Int32) = 1) (some ((0 : Int32), s_20))))
  else
  (gd ((0 : Int32) = 0 ∨ (0 : Int32) = 1) (some ((0 : Int32), s_20))))
def fX11_over (v0 : Nat) (v1 : Int32) (v2 : Int32) (σ : Sg) : Option (Int32 × Sg) :=
  bd (fX11_isTrain v0 v1 σ) fun r_2 s_2 =>
  if r_2 = 0 then
  (bd (fX11_finds v0 (-100001 : Int32) s_2) fun r_19 s_19 =>
  some (r_19, s_19))
  else
  (bd (fX11_isTrain v0 v2 s_2) fun r_10 s_10 =>
  if r_10 = 0 then
  (bd (fX11_finds v0 (-100001 : Int32) s_10) fun r_19 s_19 =>
  some (r_19, s_19))
  else
  (bd (fX11_wayOf v0 v1 s_10) fun r_25 s_25 =>
  bd (fX11_wayOf v0 v2 s_25) fun r_30 s_30 =>
  if r_25 = r_30 then
  (bd (fX11_finds v0 (-100003 : Int32) s_30) fun r_39 s_39 =>
  some (r_39, s_39))
  else
  (bd (fX11_wayOf v0 v1 s_30) fun r_47 s_47 =>
  bd (fX11_isOver v0 v1 r_47 v2 s_47) fun r_51 s_51 =>
  if r_51 = 0 then
  (some ((0 : Int32), s_51))
  else
  (some ((1 : Int32), s_51)))))
def fX11_formOf (v0 : Nat) (v1 : Int32) (σ : Sg) : Option (Int32 × Sg) :=
  gd (inR ((41 : Int32) + ((5 : Int32) * v1)) (ln (rf v0 0))) <|
  some ((σ (rf v0 0) (((41 : Int32) + ((5 : Int32) * v1))).toNatClampNeg), σ)
def fX11_trainOf (v0 : Nat) (v1 : Int32) (σ : Sg) : Option (Int32 × Sg) :=
  gd (inR (((41 : Int32) + ((5 : Int32) * v1)) + (1 : Int32)) (ln (rf v0 0))) <|
  some ((σ (rf v0 0) ((((41 : Int32) + ((5 : Int32) * v1)) + (1 : Int32))).toNatClampNeg), σ)
def fX11_otherOf (v0 : Nat) (v1 : Int32) (σ : Sg) : Option (Int32 × Sg) :=
  gd (inR (((41 : Int32) + ((5 : Int32) * v1)) + (2 : Int32)) (ln (rf v0 0))) <|
  some ((σ (rf v0 0) ((((41 : Int32) + ((5 : Int32) * v1)) + (2 : Int32))).toNatClampNeg), σ)
def fX11_numberOf (v0 : Nat) (v1 : Int32) (σ : Sg) : Option (Int32 × Sg) :=
  gd (inR (((41 : Int32) + ((5 : Int32) * v1)) + (4 : Int32)) (ln (rf v0 0))) <|
  some ((σ (rf v0 0) ((((41 : Int32) + ((5 : Int32) * v1)) + (4 : Int32))).toNatClampNeg), σ)
def fX11_ordered_105 (v0 : Nat) (v6 : Int32) (k105 : Int32 → Sg → Option (Int32 × Sg)) (v7 : Int32) (σ : Sg) : Option (Int32 × Sg) :=
  if (5 : Int32) ≤ v7 then
  (gd (inR (40 : Int32) (ln (rf v0 0))) <|
  gd (inR (40 : Int32) (ln (rf v0 0))) <|
  lt (wr σ (rf v0 0) ((40 : Int32)).toNatClampNeg ((σ (rf v0 0) ((40 : Int32)).toNatClampNeg) + (1 : Int32))) fun s_143 =>
  some (v6, s_143))
  else
  (gd (inR (((101 : Int32) + ((5 : Int32) * v6)) + v7) (ln (rf v0 0))) <|
  lt (wr σ (rf v0 0) ((((101 : Int32) + ((5 : Int32) * v6)) + v7)).toNatClampNeg (-1 : Int32)) fun s_126 =>
  lt (v7 + (1 : Int32)) fun v7_127 =>
  k105 v7_127 s_126)
def fX11_ordered (v0 : Nat) (v1 : Int32) (v2 : Int32) (v3 : Int32) (v4 : Int32) (v5 : Int32) (σ : Sg) : Option (Int32 × Sg) :=
  gd (inR (40 : Int32) (ln (rf v0 0))) <|
  lt (σ (rf v0 0) ((40 : Int32)).toNatClampNeg) fun v6_7 =>
  if v6_7 = (12 : Int32) then
  (bd (fX11_finds v0 (-100005 : Int32) σ) fun r_19 s_19 =>
  some (r_19, s_19))
  else
  (bd (fX11_keep v0 σ) fun r_24 s_24 =>
  gd (inR ((41 : Int32) + ((5 : Int32) * v6_7)) (ln (rf v0 0))) <|
  lt (wr s_24 (rf v0 0) (((41 : Int32) + ((5 : Int32) * v6_7))).toNatClampNeg v1) fun s_39 =>
  gd (inR (((41 : Int32) + ((5 : Int32) * v6_7)) + (1 : Int32)) (ln (rf v0 0))) <|
  lt (wr s_39 (rf v0 0) ((((41 : Int32) + ((5 : Int32) * v6_7)) + (1 : Int32))).toNatClampNeg v2) fun s_54 =>
  gd (inR (((41 : Int32) + ((5 : Int32) * v6_7)) + (2 : Int32)) (ln (rf v0 0))) <|
  lt (wr s_54 (rf v0 0) ((((41 : Int32) + ((5 : Int32) * v6_7)) + (2 : Int32))).toNatClampNeg v3) fun s_69 =>
  gd (inR (((41 : Int32) + ((5 : Int32) * v6_7)) + (3 : Int32)) (ln (rf v0 0))) <|
  lt (wr s_69 (rf v0 0) ((((41 : Int32) + ((5 : Int32) * v6_7)) + (3 : Int32))).toNatClampNeg v4) fun s_85 =>
  gd (inR (((41 : Int32) + ((5 : Int32) * v6_7)) + (4 : Int32)) (ln (rf v0 0))) <|
  lt (wr s_85 (rf v0 0) ((((41 : Int32) + ((5 : Int32) * v6_7)) + (4 : Int32))).toNatClampNeg v5) fun s_101 =>
  lt (0 : Int32) fun v7_103 =>
  lq1 (fX11_ordered_105 v0 v6_7) FU v7_103 s_101)
def fX11_meet (v0 : Nat) (v1 : Int32) (v2 : Int32) (v3 : Int32) (σ : Sg) : Option (Int32 × Sg) :=
  bd (fX11_isTrain v0 v1 σ) fun r_2 s_2 =>
  if r_2 = 0 then
  (bd (fX11_finds v0 (-100001 : Int32) s_2) fun r_27 s_27 =>
  some (r_27, s_27))
  else
  (bd (fX11_isTrain v0 v2 s_2) fun r_10 s_10 =>
  if r_10 = 0 then
  (bd (fX11_finds v0 (-100001 : Int32) s_10) fun r_27 s_27 =>
  some (r_27, s_27))
  else
  (bd (fX11_isStation v0 v3 s_10) fun r_18 s_18 =>
  if r_18 = 0 then
  (bd (fX11_finds v0 (-100001 : Int32) s_18) fun r_27 s_27 =>
  some (r_27, s_27))
  else
  (bd (fX11_wayOf v0 v1 s_18) fun r_33 s_33 =>
  bd (fX11_wayOf v0 v2 s_33) fun r_38 s_38 =>
  if r_33 = r_38 then
  (bd (fX11_finds v0 (-100003 : Int32) s_38) fun r_47 s_47 =>
  some (r_47, s_47))
  else
  (bd (fX11_ordered v0 (0 : Int32) v1 v2 v3 (0 : Int32) s_38) fun r_59 s_59 =>
  some (r_59, s_59)))))
def fX11_late (v0 : Nat) (v1 : Int32) (v2 : Int32) (σ : Sg) : Option (Int32 × Sg) :=
  bd (fX11_isTrain v0 v1 σ) fun r_2 s_2 =>
  if r_2 = 0 then
  (bd (fX11_finds v0 (-100001 : Int32) s_2) fun r_33 s_33 =>
  some (r_33, s_33))
  else
  (bd (fX11_in v2 (1 : Int32) (120 : Int32) s_2) fun r_12 s_12 =>
  if r_12 = 0 then
  (bd (fX11_finds v0 (-100001 : Int32) s_12) fun r_33 s_33 =>
  some (r_33, s_33))
  else
  (bd (fX11_ordered v0 (1 : Int32) v1 (-1 : Int32) (-1 : Int32) v2 s_12) fun r_24 s_24 =>
  some (r_24, s_24)))
def fX11_wait (v0 : Nat) (v1 : Int32) (v2 : Int32) (v3 : Int32) (σ : Sg) : Option (Int32 × Sg) :=
  bd (fX11_isTrain v0 v1 σ) fun r_2 s_2 =>
  if r_2 = 0 then
  (bd (fX11_finds v0 (-100001 : Int32) s_2) fun r_42 s_42 =>
  some (r_42, s_42))
  else
  (bd (fX11_isStation v0 v2 s_2) fun r_10 s_10 =>
  if r_10 = 0 then
  (bd (fX11_finds v0 (-100001 : Int32) s_10) fun r_42 s_42 =>
  some (r_42, s_42))
  else
  (bd (fX11_in v3 (0 : Int32) (400 : Int32) s_10) fun r_21 s_21 =>
  if r_21 = 0 then
  (bd (fX11_finds v0 (-100001 : Int32) s_21) fun r_42 s_42 =>
  some (r_42, s_42))
  else
  (bd (fX11_ordered v0 (2 : Int32) v1 (-1 : Int32) v2 v3 s_21) fun r_33 s_33 =>
  some (r_33, s_33))))
def fX11_run (v0 : Nat) (v1 : Int32) (v2 : Int32) (σ : Sg) : Option (Int32 × Sg) :=
  bd (fX11_isTrain v0 v1 σ) fun r_2 s_2 =>
  if r_2 = 0 then
  (bd (fX11_finds v0 (-100001 : Int32) s_2) fun r_34 s_34 =>
  some (r_34, s_34))
  else
  (bd (fX11_in v2 (0 : Int32) (400 : Int32) s_2) fun r_13 s_13 =>
  if r_13 = 0 then
  (bd (fX11_finds v0 (-100001 : Int32) s_13) fun r_34 s_34 =>
  some (r_34, s_34))
  else
  (bd (fX11_ordered v0 (3 : Int32) v1 (-1 : Int32) (-1 : Int32) v2 s_13) fun r_25 s_25 =>
  some (r_25, s_25)))
def fX11_annul (v0 : Nat) (v1 : Int32) (σ : Sg) : Option (Int32 × Sg) :=
  bd (fX11_isOrder v0 v1 σ) fun r_2 s_2 =>
  if r_2 = 0 then
  (bd (fX11_finds v0 (-100001 : Int32) s_2) fun r_23 s_23 =>
  some (r_23, s_23))
  else
  (bd (fX11_ordered v0 (4 : Int32) v1 (-1 : Int32) (-1 : Int32) (0 : Int32) s_2) fun r_14 s_14 =>
  some (r_14, s_14))
def fX11_hand (v0 : Nat) (v1 : Int32) (v2 : Int32) (v3 : Int32) (σ : Sg) : Option (Int32 × Sg) :=
  bd (fX11_isOrder v0 v1 σ) fun r_2 s_2 =>
  if r_2 = 0 then
  (bd (fX11_finds v0 (-100001 : Int32) s_2) fun r_30 s_30 =>
  some (r_30, s_30))
  else
  (bd (fX11_isTrain v0 v2 s_2) fun r_10 s_10 =>
  if r_10 = 0 then
  (bd (fX11_finds v0 (-100001 : Int32) s_10) fun r_30 s_30 =>
  some (r_30, s_30))
  else
  (bd (fX11_in v3 (0 : Int32) (400 : Int32) s_10) fun r_21 s_21 =>
  if r_21 = 0 then
  (bd (fX11_finds v0 (-100001 : Int32) s_21) fun r_30 s_30 =>
  some (r_30, s_30))
  else
  (gd (inR (((101 : Int32) + ((5 : Int32) * v1)) + v2) (ln (rf v0 0))) <|
  lt (s_21 (rf v0 0) ((((101 : Int32) + ((5 : Int32) * v1)) + v2)).toNatClampNeg) fun v4_47 =>
  if v4_47 < 0 then
  (bd (fX11_becomes v0 (((101 : Int32) + ((5 : Int32) * v1)) + v2) v3 s_21) fun r_75 s_75 =>
  some (r_75, s_75))
  else
  (if v3 ≤ v4_47 then
  (bd (fX11_becomes v0 (((101 : Int32) + ((5 : Int32) * v1)) + v2) v3 s_21) fun r_75 s_75 =>
  some (r_75, s_75))
  else
  (bd (fX11_becomes v0 (((101 : Int32) + ((5 : Int32) * v1)) + v2) v4_47 s_21) fun r_75 s_75 =>
  some (r_75, s_75))))))
def fX11_findHeld_104 (v0 : Nat) (v1 : Int32) (v2 : Int32) (v3 : Int32) (v6 : Int32) (w0 : Int32) (k10 : Int32 → Sg → Option (Unit × Sg)) (k52 : Int32 → Int32 → Sg → Option (Unit × Sg)) (σ : Sg) : Option (Unit × Sg) :=
  lt w0 fun v5_104 =>
  lt (v6 + (1 : Int32)) fun v6_106 =>
  k52 v5_104 v6_106 σ
def fX11_findHeld_99 (v0 : Nat) (v1 : Int32) (v2 : Int32) (v3 : Int32) (v6 : Int32) (k10 : Int32 → Sg → Option (Unit × Sg)) (k52 : Int32 → Int32 → Sg → Option (Unit × Sg)) (σ : Sg) : Option (Unit × Sg) :=
  fX11_findHeld_104 v0 v1 v2 v3 v6 (1 : Int32) k10 k52 σ
def fX11_findHeld_103 (v0 : Nat) (v1 : Int32) (v2 : Int32) (v3 : Int32) (v6 : Int32) (k10 : Int32 → Sg → Option (Unit × Sg)) (k52 : Int32 → Int32 → Sg → Option (Unit × Sg)) (σ : Sg) : Option (Unit × Sg) :=
  fX11_findHeld_104 v0 v1 v2 v3 v6 (0 : Int32) k10 k52 σ
def fX11_findHeld_52 (v0 : Nat) (v1 : Int32) (v2 : Int32) (v3 : Int32) (k10 : Int32 → Sg → Option (Unit × Sg)) (k52 : Int32 → Int32 → Sg → Option (Unit × Sg)) (v5 : Int32) (v6 : Int32) (σ : Sg) : Option (Unit × Sg) :=
  gd (inR (40 : Int32) (ln (rf v0 0))) <|
  if (σ (rf v0 0) ((40 : Int32)).toNatClampNeg) ≤ v6 then
  (gd (inR v3 (ln (rf v0 10))) <|
  lt (wr σ (rf v0 10) (v3).toNatClampNeg (vp_nar .boolean v5)) fun s_119 =>
  lt (v3 + (-1 : Int32)) fun v3_120 =>
  k10 v3_120 s_119)
  else
  (if v5 = 0 then
  (fX11_findHeld_103 v0 v1 v2 v3 v6 k10 k52 σ)
  else
  (gd (inR v6 (ln (rf v0 10))) <|
  if (σ (rf v0 10) (v6).toNatClampNeg) = 0 then
  (fX11_findHeld_99 v0 v1 v2 v3 v6 k10 k52 σ)
  else
  (bd (fX11_formOf v0 v6 σ) fun r_82 s_82 =>
  if r_82 = (4 : Int32) then
  (bd (fX11_trainOf v0 v6 s_82) fun r_92 s_92 =>
  if r_92 = v3 then
  (fX11_findHeld_103 v0 v1 v2 v3 v6 k10 k52 s_92)
  else
  (fX11_findHeld_99 v0 v1 v2 v3 v6 k10 k52 s_92))
  else
  (fX11_findHeld_99 v0 v1 v2 v3 v6 k10 k52 s_82))))
def fX11_findHeld_45 (v0 : Nat) (v1 : Int32) (v2 : Int32) (v3 : Int32) (w0 : Int32) (k10 : Int32 → Sg → Option (Unit × Sg)) (σ : Sg) : Option (Unit × Sg) :=
  lt w0 fun v5_45 =>
  lt (v3 + (1 : Int32)) fun v6_50 =>
  lq2 (fX11_findHeld_52 v0 v1 v2 v3 k10) FU v5_45 v6_50 σ
def fX11_findHeld_44 (v0 : Nat) (v1 : Int32) (v2 : Int32) (v3 : Int32) (k10 : Int32 → Sg → Option (Unit × Sg)) (σ : Sg) : Option (Unit × Sg) :=
  fX11_findHeld_45 v0 v1 v2 v3 (0 : Int32) k10 σ
def fX11_findHeld_10 (v0 : Nat) (v1 : Int32) (v2 : Int32) (k10 : Int32 → Sg → Option (Unit × Sg)) (v3 : Int32) (σ : Sg) : Option (Unit × Sg) :=
  if v3 < 0 then
  (some ((), σ))
  else
  (gd (inR (((101 : Int32) + ((5 : Int32) * v3)) + v1) (ln (rf v0 0))) <|
  lt (σ (rf v0 0) ((((101 : Int32) + ((5 : Int32) * v3)) + v1)).toNatClampNeg) fun v4_27 =>
  if v4_27 < 0 then
  (fX11_findHeld_44 v0 v1 v2 v3 k10 σ)
  else
  (if v2 < v4_27 then
  (fX11_findHeld_44 v0 v1 v2 v3 k10 σ)
  else
  (fX11_findHeld_45 v0 v1 v2 v3 (1 : Int32) k10 σ)))
def fX11_findHeld (v0 : Nat) (v1 : Int32) (v2 : Int32) (σ : Sg) : Option (Unit × Sg) :=
  gd (inR (40 : Int32) (ln (rf v0 0))) <|
  lt ((σ (rf v0 0) ((40 : Int32)).toNatClampNeg) - (1 : Int32)) fun v3_9 =>
  lq1 (fX11_findHeld_10 v0 v1 v2) FU v3_9 σ
def fX11_holds (v0 : Nat) (v1 : Int32) (v2 : Int32) (v3 : Int32) (σ : Sg) : Option (Int32 × Sg) :=
  bd (fX11_isTrain v0 v1 σ) fun r_2 s_2 =>
  if r_2 = 0 then
  (bd (fX11_finds v0 (-100001 : Int32) s_2) fun r_26 s_26 =>
  some (r_26, s_26))
  else
  (bd (fX11_isOrder v0 v2 s_2) fun r_10 s_10 =>
  if r_10 = 0 then
  (bd (fX11_finds v0 (-100001 : Int32) s_10) fun r_26 s_26 =>
  some (r_26, s_26))
  else
  (bd (fX11_isMinute v3 s_10) fun r_17 s_17 =>
  if r_17 = 0 then
  (bd (fX11_finds v0 (-100001 : Int32) s_17) fun r_26 s_26 =>
  some (r_26, s_26))
  else
  (bd (fX11_findHeld v0 v1 v3 s_17) fun r_33 s_33 =>
  gd (inR v2 (ln (rf v0 10))) <|
  if (s_33 (rf v0 10) (v2).toNatClampNeg) = 0 then
  (some ((0 : Int32), s_33))
  else
  (some ((1 : Int32), s_33)))))
def fX11_order_80 (v0 : Nat) (v1 : Int32) (v4 : Int32) (w0 : Int32) (w1 : Int32) (k48 : Int32 → Int32 → Sg → Option (Int32 × Sg)) (σ : Sg) : Option (Int32 × Sg) :=
  lt (w1 ||| w0) fun v3_81 =>
  lt (v4 + (1 : Int32)) fun v4_82 =>
  k48 v3_81 v4_82 σ
def fX11_order_48 (v0 : Nat) (v1 : Int32) (k48 : Int32 → Int32 → Sg → Option (Int32 × Sg)) (v3 : Int32) (v4 : Int32) (σ : Sg) : Option (Int32 × Sg) :=
  if (5 : Int32) ≤ v4 then
  (some (v3, σ))
  else
  (gd (inR (((101 : Int32) + ((5 : Int32) * v1)) + v4) (ln (rf v0 0))) <|
  if (σ (rf v0 0) ((((101 : Int32) + ((5 : Int32) * v1)) + v4)).toNatClampNeg) < 0 then
  (fX11_order_80 v0 v1 v4 (0 : Int32) v3 k48 σ)
  else
  (fX11_order_80 v0 v1 v4 ((1 : Int32) <<< (v4 &&& 31)) v3 k48 σ))
def fX11_order (v0 : Nat) (v1 : Int32) (v2 : Int32) (σ : Sg) : Option (Int32 × Sg) :=
  bd (fX11_isOrder v0 v1 σ) fun r_2 s_2 =>
  if r_2 = 0 then
  (bd (fX11_finds v0 (-100001 : Int32) s_2) fun r_20 s_20 =>
  some (r_20, s_20))
  else
  (bd (fX11_in v2 (0 : Int32) (5 : Int32) s_2) fun r_11 s_11 =>
  if r_11 = 0 then
  (bd (fX11_finds v0 (-100001 : Int32) s_11) fun r_20 s_20 =>
  some (r_20, s_20))
  else
  (if (5 : Int32) ≤ v2 then
  (lt (0 : Int32) fun v3_44 =>
  lt (0 : Int32) fun v4_46 =>
  lq2 (fX11_order_48 v0 v1) FU v3_44 v4_46 s_11)
  else
  (gd (inR (((41 : Int32) + ((5 : Int32) * v1)) + v2) (ln (rf v0 0))) <|
  some ((s_11 (rf v0 0) ((((41 : Int32) + ((5 : Int32) * v1)) + v2)).toNatClampNeg), s_11))))
def fX11_force (v0 : Nat) (v1 : Int32) (v2 : Int32) (σ : Sg) : Option (Int32 × Sg) :=
  bd (fX11_isTrain v0 v1 σ) fun r_2 s_2 =>
  if r_2 = 0 then
  (bd (fX11_finds v0 (-100001 : Int32) s_2) fun r_18 s_18 =>
  some (r_18, s_18))
  else
  (bd (fX11_isMinute v2 s_2) fun r_9 s_9 =>
  if r_9 = 0 then
  (bd (fX11_finds v0 (-100001 : Int32) s_9) fun r_18 s_18 =>
  some (r_18, s_18))
  else
  (gd (inR (161 : Int32) (ln (rf v0 0))) <|
  if (s_9 (rf v0 0) ((161 : Int32)).toNatClampNeg) = (6 : Int32) then
  (bd (fX11_finds v0 (-100005 : Int32) s_9) fun r_38 s_38 =>
  some (r_38, s_38))
  else
  (bd (fX11_keep v0 s_9) fun r_43 s_43 =>
  gd (inR (161 : Int32) (ln (rf v0 0))) <|
  gd (inR ((162 : Int32) + ((2 : Int32) * (s_43 (rf v0 0) ((161 : Int32)).toNatClampNeg))) (ln (rf v0 0))) <|
  lt (wr s_43 (rf v0 0) (((162 : Int32) + ((2 : Int32) * (s_43 (rf v0 0) ((161 : Int32)).toNatClampNeg)))).toNatClampNeg v1) fun s_65 =>
  gd (inR (161 : Int32) (ln (rf v0 0))) <|
  gd (inR (((162 : Int32) + ((2 : Int32) * (s_65 (rf v0 0) ((161 : Int32)).toNatClampNeg))) + (1 : Int32)) (ln (rf v0 0))) <|
  lt (wr s_65 (rf v0 0) ((((162 : Int32) + ((2 : Int32) * (s_65 (rf v0 0) ((161 : Int32)).toNatClampNeg))) + (1 : Int32))).toNatClampNeg v2) fun s_87 =>
  gd (inR (161 : Int32) (ln (rf v0 0))) <|
  gd (inR (161 : Int32) (ln (rf v0 0))) <|
  lt (wr s_87 (rf v0 0) ((161 : Int32)).toNatClampNeg ((s_87 (rf v0 0) ((161 : Int32)).toNatClampNeg) + (1 : Int32))) fun s_99 =>
  gd (inR (161 : Int32) (ln (rf v0 0))) <|
  some ((s_99 (rf v0 0) ((161 : Int32)).toNatClampNeg), s_99))))
def fX11_isForced_50 (v0 : Nat) (v1 : Int32) (v2 : Int32) (v3 : Int32) (k2 : Int32 → Sg → Option (Int32 × Sg)) (σ : Sg) : Option (Int32 × Sg) :=
  lt (v3 + (1 : Int32)) fun v3_50 =>
  k2 v3_50 σ
def fX11_isForced_2 (v0 : Nat) (v1 : Int32) (v2 : Int32) (k2 : Int32 → Sg → Option (Int32 × Sg)) (v3 : Int32) (σ : Sg) : Option (Int32 × Sg) :=
  gd (inR (161 : Int32) (ln (rf v0 0))) <|
  if (σ (rf v0 0) ((161 : Int32)).toNatClampNeg) ≤ v3 then
  (gd ((0 : Int32) = 0 ∨ (0 : Int32) = 1) (some ((0 : Int32), σ)))
  else
  (gd (inR ((162 : Int32) + ((2 : Int32) * v3)) (ln (rf v0 0))) <|
  if (σ (rf v0 0) (((162 : Int32) + ((2 : Int32) * v3))).toNatClampNeg) = v1 then
  (gd (inR (((162 : Int32) + ((2 : Int32) * v3)) + (1 : Int32)) (ln (rf v0 0))) <|
  if (σ (rf v0 0) ((((162 : Int32) + ((2 : Int32) * v3)) + (1 : Int32))).toNatClampNeg) = v2 then
  (gd ((1 : Int32) = 0 ∨ (1 : Int32) = 1) (some ((1 : Int32), σ)))
  else
  (fX11_isForced_50 v0 v1 v2 v3 k2 σ))
  else
  (fX11_isForced_50 v0 v1 v2 v3 k2 σ))
def fX11_isForced (v0 : Nat) (v1 : Int32) (v2 : Int32) (σ : Sg) : Option (Int32 × Sg) :=
  lt (0 : Int32) fun v3_1 =>
  lq1 (fX11_isForced_2 v0 v1 v2) FU v3_1 σ
def fX11_begin_65 (v0 : Nat) (v1 : Int32) (w0 : Int32) (w1 : Int32) (w2 : Nat) (k2 : Int32 → Sg → Option (Unit × Sg)) (σ : Sg) : Option (Unit × Sg) :=
  gd (inR w1 (ln w2)) <|
  lt (wr σ w2 (w1).toNatClampNeg w0) fun s_65 =>
  gd (inR v1 (ln (rf v0 21))) <|
  lt (wr s_65 (rf v0 21) (v1).toNatClampNeg (vp_nar .boolean (0 : Int32))) fun s_72 =>
  gd (inR v1 (ln (rf v0 15))) <|
  lt (wr s_72 (rf v0 15) (v1).toNatClampNeg (-1 : Int32)) fun s_79 =>
  lt (v1 + (1 : Int32)) fun v1_80 =>
  k2 v1_80 s_79
def fX11_begin_39 (v0 : Nat) (v1 : Int32) (w0 : Int32) (w1 : Int32) (w2 : Nat) (k2 : Int32 → Sg → Option (Unit × Sg)) (σ : Sg) : Option (Unit × Sg) :=
  gd (inR w1 (ln w2)) <|
  lt (wr σ w2 (w1).toNatClampNeg w0) fun s_39 =>
  gd (inR (14 : Int32) (ln (rf v0 0))) <|
  if (s_39 (rf v0 0) ((14 : Int32)).toNatClampNeg) ≤ v1 then
  (fX11_begin_65 v0 v1 (0 : Int32) v1 (rf v0 13) k2 s_39)
  else
  (bd (fX11_wayOf v0 v1 s_39) fun r_58 s_58 =>
  fX11_begin_65 v0 v1 r_58 v1 (rf v0 13) k2 s_58)
def fX11_begin_152 (v0 : Nat) (k152 : Int32 → Sg → Option (Unit × Sg)) (v1 : Int32) (σ : Sg) : Option (Unit × Sg) :=
  if (25 : Int32) ≤ v1 then
  (lt (wr σ v0 25 (0 : Int32)) fun s_173 =>
  lt (wr s_173 v0 31 (0 : Int32)) fun s_178 =>
  some ((), s_178))
  else
  (gd (inR v1 (ln (rf v0 24))) <|
  lt (wr σ (rf v0 24) (v1).toNatClampNeg (vp_nar .boolean (0 : Int32))) fun s_164 =>
  lt (v1 + (1 : Int32)) fun v1_165 =>
  k152 v1_165 s_164)
def fX11_begin_130 (v0 : Nat) (k130 : Int32 → Sg → Option (Unit × Sg)) (v1 : Int32) (σ : Sg) : Option (Unit × Sg) :=
  if (14 : Int32) ≤ v1 then
  (lt (0 : Int32) fun v1_151 =>
  lq1 (fX11_begin_152 v0) FU v1_151 σ)
  else
  (gd (inR v1 (ln (rf v0 18))) <|
  lt (wr σ (rf v0 18) (v1).toNatClampNeg (-100 : Int32)) fun s_143 =>
  lt (v1 + (1 : Int32)) fun v1_144 =>
  k130 v1_144 s_143)
def fX11_begin_88 (v0 : Nat) (k88 : Int32 → Sg → Option (Unit × Sg)) (v1 : Int32) (σ : Sg) : Option (Unit × Sg) :=
  if (35 : Int32) ≤ v1 then
  (lt (0 : Int32) fun v1_129 =>
  lq1 (fX11_begin_130 v0) FU v1_129 σ)
  else
  (gd (inR v1 (ln (rf v0 16))) <|
  lt (wr σ (rf v0 16) (v1).toNatClampNeg (-1 : Int32)) fun s_100 =>
  gd (inR v1 (ln (rf v0 17))) <|
  lt (wr s_100 (rf v0 17) (v1).toNatClampNeg (-1 : Int32)) fun s_107 =>
  gd (inR v1 (ln (rf v0 22))) <|
  lt (wr s_107 (rf v0 22) (v1).toNatClampNeg (vp_nar .boolean (0 : Int32))) fun s_114 =>
  gd (inR v1 (ln (rf v0 23))) <|
  lt (wr s_114 (rf v0 23) (v1).toNatClampNeg (vp_nar .boolean (0 : Int32))) fun s_121 =>
  lt (v1 + (1 : Int32)) fun v1_122 =>
  k88 v1_122 s_121)
def fX11_begin_2 (v0 : Nat) (k2 : Int32 → Sg → Option (Unit × Sg)) (v1 : Int32) (σ : Sg) : Option (Unit × Sg) :=
  if (5 : Int32) ≤ v1 then
  (lt (0 : Int32) fun v1_87 =>
  lq1 (fX11_begin_88 v0) FU v1_87 σ)
  else
  (gd (inR v1 (ln (rf v0 11))) <|
  lt (wr σ (rf v0 11) (v1).toNatClampNeg (0 : Int32)) fun s_13 =>
  gd (inR (14 : Int32) (ln (rf v0 0))) <|
  if (s_13 (rf v0 0) ((14 : Int32)).toNatClampNeg) ≤ v1 then
  (fX11_begin_39 v0 v1 (0 : Int32) v1 (rf v0 12) k2 s_13)
  else
  (bd (fX11_fromOf v0 v1 s_13) fun r_32 s_32 =>
  fX11_begin_39 v0 v1 r_32 v1 (rf v0 12) k2 s_32))
def fX11_begin (v0 : Nat) (σ : Sg) : Option (Unit × Sg) :=
  lt (0 : Int32) fun v1_1 =>
  lq1 (fX11_begin_2 v0) FU v1_1 σ
def fX11_isAt (v0 : Nat) (v1 : Int32) (v2 : Int32) (v3 : Int32) (σ : Sg) : Option (Unit × Sg) :=
  gd (inR v1 (ln (rf v0 11))) <|
  lt (wr σ (rf v0 11) (v1).toNatClampNeg (1 : Int32)) fun s_6 =>
  gd (inR v1 (ln (rf v0 12))) <|
  lt (wr s_6 (rf v0 12) (v1).toNatClampNeg v2) fun s_13 =>
  gd (inR (((7 : Int32) * v1) + v2) (ln (rf v0 22))) <|
  lt (wr s_13 (rf v0 22) ((((7 : Int32) * v1) + v2)).toNatClampNeg (vp_nar .boolean (1 : Int32))) fun s_25 =>
  gd (inR (((7 : Int32) * v1) + v2) (ln (rf v0 23))) <|
  lt (wr s_25 (rf v0 23) ((((7 : Int32) * v1) + v2)).toNatClampNeg (vp_nar .boolean (1 : Int32))) fun s_37 =>
  gd (inR (((7 : Int32) * v1) + v2) (ln (rf v0 16))) <|
  if 0 ≤ (s_37 (rf v0 16) ((((7 : Int32) * v1) + v2)).toNatClampNeg) then
  (some ((), s_37))
  else
  (gd (inR (((7 : Int32) * v1) + v2) (ln (rf v0 16))) <|
  lt (wr s_37 (rf v0 16) ((((7 : Int32) * v1) + v2)).toNatClampNeg v3) fun s_63 =>
  some ((), s_63))
def fX11_lengthFits (v0 : Nat) (v1 : Int32) (v2 : Int32) (σ : Sg) : Option (Int32 × Sg) :=
  gd (inR (((15 : Int32) + ((5 : Int32) * v1)) + (3 : Int32)) (ln (rf v0 0))) <|
  gd (inR ((1 : Int32) + v2) (ln (rf v0 0))) <|
  if (σ (rf v0 0) (((1 : Int32) + v2)).toNatClampNeg) < (σ (rf v0 0) ((((15 : Int32) + ((5 : Int32) * v1)) + (3 : Int32))).toNatClampNeg) then
  (gd ((0 : Int32) = 0 ∨ (0 : Int32) = 1) (some ((0 : Int32), σ)))
  else
  (gd ((1 : Int32) = 0 ∨ (1 : Int32) = 1) (some ((1 : Int32), σ)))
def fX11_comesIn_90 (v0 : Nat) (v1 : Int32) (v2 : Int32) (σ : Sg) : Option (Unit × Sg) :=
  gd (inR v1 (ln (rf v0 11))) <|
  lt (wr σ (rf v0 11) (v1).toNatClampNeg (3 : Int32)) fun s_96 =>
  gd (inR v1 (ln (rf v0 15))) <|
  lt (wr s_96 (rf v0 15) (v1).toNatClampNeg v2) fun s_103 =>
  some ((), s_103)
def fX11_comesIn_163 (v0 : Nat) (v1 : Int32) (v3 : Int32) (v5 : Int32) (w0 : Int32) (w1 : Int32) (w2 : Nat) (k134 : Int32 → Sg → Option (Unit × Sg)) (σ : Sg) : Option (Unit × Sg) :=
  gd (inR w1 (ln w2)) <|
  lt (wr σ w2 (w1).toNatClampNeg (vp_nar .boolean w0)) fun s_163 =>
  lt (v5 + (1 : Int32)) fun v5_164 =>
  k134 v5_164 s_163
def fX11_comesIn_252 (v0 : Nat) (v1 : Int32) (v3 : Int32) (v5 : Int32) (v6 : Int32) (v7 : Int32) (k184 : Int32 → Int32 → Int32 → Sg → Option (Unit × Sg)) (σ : Sg) : Option (Unit × Sg) :=
  lt (v7 + (1 : Int32)) fun v7_252 =>
  k184 v5 v6 v7_252 σ
def fX11_comesIn_250 (v0 : Nat) (v1 : Int32) (v3 : Int32) (v5 : Int32) (v7 : Int32) (w0 : Int32) (k184 : Int32 → Int32 → Int32 → Sg → Option (Unit × Sg)) (σ : Sg) : Option (Unit × Sg) :=
  lt w0 fun v6_250 =>
  fX11_comesIn_252 v0 v1 v3 v5 v6_250 v7 k184 σ
def fX11_comesIn_245 (v0 : Nat) (v1 : Int32) (v3 : Int32) (v5 : Int32) (v7 : Int32) (k184 : Int32 → Int32 → Int32 → Sg → Option (Unit × Sg)) (σ : Sg) : Option (Unit × Sg) :=
  fX11_comesIn_250 v0 v1 v3 v5 v7 (1 : Int32) k184 σ
def fX11_comesIn_184 (v0 : Nat) (v1 : Int32) (v3 : Int32) (k184 : Int32 → Int32 → Int32 → Sg → Option (Unit × Sg)) (v5 : Int32) (v6 : Int32) (v7 : Int32) (σ : Sg) : Option (Unit × Sg) :=
  gd (inR (14 : Int32) (ln (rf v0 0))) <|
  if (σ (rf v0 0) ((14 : Int32)).toNatClampNeg) ≤ v7 then
  (if (1 : Int32) < v5 then
  (lt (wr σ v0 31 ((σ v0 31) + (1 : Int32))) fun s_286 =>
  some ((), s_286))
  else
  (if v5 = (1 : Int32) then
  (if v6 = 0 then
  (lt (wr σ v0 31 ((σ v0 31) + (1 : Int32))) fun s_286 =>
  some ((), s_286))
  else
  (lt (wr σ v0 31 ((σ v0 31) + (0 : Int32))) fun s_286 =>
  some ((), s_286)))
  else
  (lt (wr σ v0 31 ((σ v0 31) + (0 : Int32))) fun s_286 =>
  some ((), s_286))))
  else
  (if v7 = v1 then
  (fX11_comesIn_252 v0 v1 v3 v5 v6 v7 k184 σ)
  else
  (gd (inR v7 (ln (rf v0 11))) <|
  if (σ (rf v0 11) (v7).toNatClampNeg) = (1 : Int32) then
  (gd (inR v7 (ln (rf v0 12))) <|
  if (σ (rf v0 12) (v7).toNatClampNeg) = v3 then
  (lt (v5 + (1 : Int32)) fun v5_227 =>
  if v6 = 0 then
  (bd (fX11_lengthFits v0 v7 v3 σ) fun r_239 s_239 =>
  if r_239 = 0 then
  (fX11_comesIn_250 v0 v1 v3 v5_227 v7 (0 : Int32) k184 s_239)
  else
  (fX11_comesIn_245 v0 v1 v3 v5_227 v7 k184 s_239))
  else
  (fX11_comesIn_245 v0 v1 v3 v5_227 v7 k184 σ))
  else
  (fX11_comesIn_252 v0 v1 v3 v5 v6 v7 k184 σ))
  else
  (fX11_comesIn_252 v0 v1 v3 v5 v6 v7 k184 σ)))
def fX11_comesIn_170 (v0 : Nat) (v1 : Int32) (v3 : Int32) (σ : Sg) : Option (Unit × Sg) :=
  lt (0 : Int32) fun v5_171 =>
  bd (fX11_lengthFits v0 v1 v3 σ) fun r_176 s_176 =>
  lt r_176 fun v6_179 =>
  lt (0 : Int32) fun v7_182 =>
  lq3 (fX11_comesIn_184 v0 v1 v3) FU v5_171 v6_179 v7_182 s_176
def fX11_comesIn_134 (v0 : Nat) (v1 : Int32) (v3 : Int32) (k134 : Int32 → Sg → Option (Unit × Sg)) (v5 : Int32) (σ : Sg) : Option (Unit × Sg) :=
  if (7 : Int32) ≤ v5 then
  (fX11_comesIn_170 v0 v1 v3 σ)
  else
  (if v5 = v3 then
  (fX11_comesIn_163 v0 v1 v3 v5 (1 : Int32) (((7 : Int32) * v1) + v5) (rf v0 23) k134 σ)
  else
  (fX11_comesIn_163 v0 v1 v3 v5 (0 : Int32) (((7 : Int32) * v1) + v5) (rf v0 23) k134 σ))
def fX11_comesIn_105 (v0 : Nat) (v1 : Int32) (v3 : Int32) (v4 : Int32) (σ : Sg) : Option (Unit × Sg) :=
  if v4 = 0 then
  (fX11_comesIn_170 v0 v1 v3 σ)
  else
  (gd (inR v1 (ln (rf v0 21))) <|
  lt (wr σ (rf v0 21) (v1).toNatClampNeg (vp_nar .boolean (1 : Int32))) fun s_116 =>
  gd (inR v1 (ln (rf v0 13))) <|
  gd (inR v1 (ln (rf v0 13))) <|
  lt (wr s_116 (rf v0 13) (v1).toNatClampNeg ((1 : Int32) - (s_116 (rf v0 13) (v1).toNatClampNeg))) fun s_130 =>
  lt (0 : Int32) fun v5_132 =>
  lq1 (fX11_comesIn_134 v0 v1 v3) FU v5_132 s_130)
def fX11_comesIn_65 (v0 : Nat) (v1 : Int32) (v2 : Int32) (v3 : Int32) (w0 : Int32) (σ : Sg) : Option (Unit × Sg) :=
  lt w0 fun v4_65 =>
  if v4_65 = 0 then
  (fX11_comesIn_105 v0 v1 v3 v4_65 σ)
  else
  (gd (inR v1 (ln (rf v0 21))) <|
  if (σ (rf v0 21) (v1).toNatClampNeg) = 0 then
  (bd (fX11_kindOf v0 v1 σ) fun r_83 s_83 =>
  if r_83 = (3 : Int32) then
  (fX11_comesIn_105 v0 v1 v3 v4_65 s_83)
  else
  (fX11_comesIn_90 v0 v1 v2 s_83))
  else
  (fX11_comesIn_90 v0 v1 v2 σ))
def fX11_comesIn_57 (v0 : Nat) (v1 : Int32) (v2 : Int32) (v3 : Int32) (w0 : Int32) (w1 : Int32) (σ : Sg) : Option (Unit × Sg) :=
  if w1 = w0 then
  (fX11_comesIn_65 v0 v1 v2 v3 (1 : Int32) σ)
  else
  (fX11_comesIn_65 v0 v1 v2 v3 (0 : Int32) σ)
def fX11_comesIn_26 (v0 : Nat) (v1 : Int32) (v2 : Int32) (w0 : Int32) (σ : Sg) : Option (Unit × Sg) :=
  lt w0 fun v3_26 =>
  bd (fX11_isAt v0 v1 v3_26 v2 σ) fun r_31 s_31 =>
  gd (inR v1 (ln (rf v0 21))) <|
  if (s_31 (rf v0 21) (v1).toNatClampNeg) = 0 then
  (bd (fX11_toOf v0 v1 s_31) fun r_54 s_54 =>
  fX11_comesIn_57 v0 v1 v2 v3_26 r_54 v3_26 s_54)
  else
  (bd (fX11_fromOf v0 v1 s_31) fun r_46 s_46 =>
  fX11_comesIn_57 v0 v1 v2 v3_26 r_46 v3_26 s_46)
def fX11_comesIn (v0 : Nat) (v1 : Int32) (v2 : Int32) (σ : Sg) : Option (Unit × Sg) :=
  gd (inR v1 (ln (rf v0 13))) <|
  if (σ (rf v0 13) (v1).toNatClampNeg) = 0 then
  (gd (inR v1 (ln (rf v0 12))) <|
  fX11_comesIn_26 v0 v1 v2 ((σ (rf v0 12) (v1).toNatClampNeg) + (1 : Int32)) σ)
  else
  (gd (inR v1 (ln (rf v0 12))) <|
  fX11_comesIn_26 v0 v1 v2 (σ (rf v0 12) (v1).toNatClampNeg) σ)
def fX11_lates_52 (v0 : Nat) (v1 : Int32) (v3 : Int32) (w0 : Int32) (w1 : Int32) (k4 : Int32 → Int32 → Sg → Option (Int32 × Sg)) (σ : Sg) : Option (Int32 × Sg) :=
  lt (w1 + w0) fun v2_53 =>
  lt (v3 + (1 : Int32)) fun v3_54 =>
  k4 v2_53 v3_54 σ
def fX11_lates_51 (v0 : Nat) (v1 : Int32) (v3 : Int32) (w0 : Int32) (k4 : Int32 → Int32 → Sg → Option (Int32 × Sg)) (σ : Sg) : Option (Int32 × Sg) :=
  fX11_lates_52 v0 v1 v3 (0 : Int32) w0 k4 σ
def fX11_lates_4 (v0 : Nat) (v1 : Int32) (k4 : Int32 → Int32 → Sg → Option (Int32 × Sg)) (v2 : Int32) (v3 : Int32) (σ : Sg) : Option (Int32 × Sg) :=
  gd (inR (40 : Int32) (ln (rf v0 0))) <|
  if (σ (rf v0 0) ((40 : Int32)).toNatClampNeg) ≤ v3 then
  (some (v2, σ))
  else
  (gd (inR v3 (ln (rf v0 10))) <|
  if (σ (rf v0 10) (v3).toNatClampNeg) = 0 then
  (fX11_lates_51 v0 v1 v3 v2 k4 σ)
  else
  (bd (fX11_formOf v0 v3 σ) fun r_27 s_27 =>
  if r_27 = (1 : Int32) then
  (bd (fX11_trainOf v0 v3 s_27) fun r_36 s_36 =>
  if r_36 = v1 then
  (bd (fX11_numberOf v0 v3 s_36) fun r_45 s_45 =>
  fX11_lates_52 v0 v1 v3 r_45 v2 k4 s_45)
  else
  (fX11_lates_51 v0 v1 v3 v2 k4 s_36))
  else
  (fX11_lates_51 v0 v1 v3 v2 k4 s_27)))
def fX11_lates (v0 : Nat) (v1 : Int32) (σ : Sg) : Option (Int32 × Sg) :=
  lt (0 : Int32) fun v2_1 =>
  lt (0 : Int32) fun v3_3 =>
  lq2 (fX11_lates_4 v0 v1) FU v2_1 v3_3 σ
def fX11_hasMeet_35 (v0 : Nat) (v1 : Int32) (v2 : Int32) (v3 : Int32) (σ : Sg) : Option (Int32 × Sg) :=
  bd (fX11_trainOf v0 v1 σ) fun r_37 s_37 =>
  if r_37 = v3 then
  (bd (fX11_otherOf v0 v1 s_37) fun r_46 s_46 =>
  if r_46 = v2 then
  (gd ((1 : Int32) = 0 ∨ (1 : Int32) = 1) (some ((1 : Int32), s_46)))
  else
  (gd ((0 : Int32) = 0 ∨ (0 : Int32) = 1) (some ((0 : Int32), s_46))))
  else
  (gd ((0 : Int32) = 0 ∨ (0 : Int32) = 1) (some ((0 : Int32), s_37)))
def fX11_hasMeet (v0 : Nat) (v1 : Int32) (v2 : Int32) (v3 : Int32) (σ : Sg) : Option (Int32 × Sg) :=
  gd (inR v1 (ln (rf v0 10))) <|
  if (σ (rf v0 10) (v1).toNatClampNeg) = 0 then
  (gd ((0 : Int32) = 0 ∨ (0 : Int32) = 1) (some ((0 : Int32), σ)))
  else
  (bd (fX11_formOf v0 v1 σ) fun r_11 s_11 =>
  if r_11 = 0 then
  (bd (fX11_trainOf v0 v1 s_11) fun r_19 s_19 =>
  if r_19 = v2 then
  (bd (fX11_otherOf v0 v1 s_19) fun r_28 s_28 =>
  if r_28 = v3 then
  (gd ((1 : Int32) = 0 ∨ (1 : Int32) = 1) (some ((1 : Int32), s_28)))
  else
  (fX11_hasMeet_35 v0 v1 v2 v3 s_28))
  else
  (fX11_hasMeet_35 v0 v1 v2 v3 s_19))
  else
  (gd ((0 : Int32) = 0 ∨ (0 : Int32) = 1) (some ((0 : Int32), s_11))))
def fX11_isMore_16 (v0 : Nat) (v1 : Int32) (v2 : Int32) (σ : Sg) : Option (Int32 × Sg) :=
  if (σ v0 32) = v2 then
  (if (σ v0 33) = v1 then
  (gd ((1 : Int32) = 0 ∨ (1 : Int32) = 1) (some ((1 : Int32), σ)))
  else
  (gd ((0 : Int32) = 0 ∨ (0 : Int32) = 1) (some ((0 : Int32), σ))))
  else
  (gd ((0 : Int32) = 0 ∨ (0 : Int32) = 1) (some ((0 : Int32), σ)))
def fX11_isMore (v0 : Nat) (v1 : Int32) (v2 : Int32) (σ : Sg) : Option (Int32 × Sg) :=
  if (σ v0 32) = v1 then
  (if (σ v0 33) = v2 then
  (gd ((1 : Int32) = 0 ∨ (1 : Int32) = 1) (some ((1 : Int32), σ)))
  else
  (fX11_isMore_16 v0 v1 v2 σ))
  else
  (fX11_isMore_16 v0 v1 v2 σ)
def fX11_mayByTime_18 (v0 : Nat) (v1 : Int32) (v2 : Int32) (σ : Sg) : Option (Int32 × Sg) :=
  gd (inR v1 (ln (rf v0 12))) <|
  bd (fX11_dueAt v0 v1 (σ (rf v0 12) (v1).toNatClampNeg) σ) fun r_27 s_27 =>
  bd (fX11_lates v0 v1 s_27) fun r_32 s_32 =>
  if v2 < (r_27 + r_32) then
  (gd ((0 : Int32) = 0 ∨ (0 : Int32) = 1) (some ((0 : Int32), s_32)))
  else
  (gd ((1 : Int32) = 0 ∨ (1 : Int32) = 1) (some ((1 : Int32), s_32)))
def fX11_mayByTime_96 (v0 : Nat) (v1 : Int32) (v2 : Int32) (v3 : Int32) (k47 : Int32 → Sg → Option (Int32 × Sg)) (σ : Sg) : Option (Int32 × Sg) :=
  lt (v3 + (1 : Int32)) fun v3_96 =>
  k47 v3_96 σ
def fX11_mayByTime_47 (v0 : Nat) (v1 : Int32) (v2 : Int32) (k47 : Int32 → Sg → Option (Int32 × Sg)) (v3 : Int32) (σ : Sg) : Option (Int32 × Sg) :=
  gd (inR (40 : Int32) (ln (rf v0 0))) <|
  if (σ (rf v0 0) ((40 : Int32)).toNatClampNeg) ≤ v3 then
  (gd ((0 : Int32) = 0 ∨ (0 : Int32) = 1) (some ((0 : Int32), σ)))
  else
  (gd (inR v3 (ln (rf v0 10))) <|
  if (σ (rf v0 10) (v3).toNatClampNeg) = 0 then
  (fX11_mayByTime_96 v0 v1 v2 v3 k47 σ)
  else
  (bd (fX11_formOf v0 v3 σ) fun r_69 s_69 =>
  if r_69 = (3 : Int32) then
  (bd (fX11_trainOf v0 v3 s_69) fun r_78 s_78 =>
  if r_78 = v1 then
  (bd (fX11_numberOf v0 v3 s_78) fun r_87 s_87 =>
  if v2 < r_87 then
  (fX11_mayByTime_96 v0 v1 v2 v3 k47 s_87)
  else
  (gd ((1 : Int32) = 0 ∨ (1 : Int32) = 1) (some ((1 : Int32), s_87))))
  else
  (fX11_mayByTime_96 v0 v1 v2 v3 k47 s_78))
  else
  (fX11_mayByTime_96 v0 v1 v2 v3 k47 s_69)))
def fX11_mayByTime (v0 : Nat) (v1 : Int32) (v2 : Int32) (σ : Sg) : Option (Int32 × Sg) :=
  bd (fX11_kindOf v0 v1 σ) fun r_2 s_2 =>
  if r_2 = (1 : Int32) then
  (fX11_mayByTime_18 v0 v1 v2 s_2)
  else
  (bd (fX11_kindOf v0 v1 s_2) fun r_11 s_11 =>
  if r_11 = (2 : Int32) then
  (fX11_mayByTime_18 v0 v1 v2 s_11)
  else
  (lt (0 : Int32) fun v3_46 =>
  lq1 (fX11_mayByTime_47 v0 v1 v2) FU v3_46 s_11))
def fX11_mayByWaits_65 (v0 : Nat) (v1 : Int32) (v2 : Int32) (v3 : Int32) (k2 : Int32 → Sg → Option (Int32 × Sg)) (σ : Sg) : Option (Int32 × Sg) :=
  lt (v3 + (1 : Int32)) fun v3_65 =>
  k2 v3_65 σ
def fX11_mayByWaits_2 (v0 : Nat) (v1 : Int32) (v2 : Int32) (k2 : Int32 → Sg → Option (Int32 × Sg)) (v3 : Int32) (σ : Sg) : Option (Int32 × Sg) :=
  gd (inR (40 : Int32) (ln (rf v0 0))) <|
  if (σ (rf v0 0) ((40 : Int32)).toNatClampNeg) ≤ v3 then
  (gd ((1 : Int32) = 0 ∨ (1 : Int32) = 1) (some ((1 : Int32), σ)))
  else
  (gd (inR v3 (ln (rf v0 10))) <|
  if (σ (rf v0 10) (v3).toNatClampNeg) = 0 then
  (fX11_mayByWaits_65 v0 v1 v2 v3 k2 σ)
  else
  (bd (fX11_formOf v0 v3 σ) fun r_24 s_24 =>
  if r_24 = (2 : Int32) then
  (bd (fX11_trainOf v0 v3 s_24) fun r_33 s_33 =>
  if r_33 = v1 then
  (bd (fX11_stationOf v0 v3 s_33) fun r_42 s_42 =>
  gd (inR v1 (ln (rf v0 12))) <|
  if r_42 = (s_42 (rf v0 12) (v1).toNatClampNeg) then
  (bd (fX11_numberOf v0 v3 s_42) fun r_56 s_56 =>
  if r_56 ≤ v2 then
  (fX11_mayByWaits_65 v0 v1 v2 v3 k2 s_56)
  else
  (gd ((0 : Int32) = 0 ∨ (0 : Int32) = 1) (some ((0 : Int32), s_56))))
  else
  (fX11_mayByWaits_65 v0 v1 v2 v3 k2 s_42))
  else
  (fX11_mayByWaits_65 v0 v1 v2 v3 k2 s_33))
  else
  (fX11_mayByWaits_65 v0 v1 v2 v3 k2 s_24)))
def fX11_mayByWaits (v0 : Nat) (v1 : Int32) (v2 : Int32) (σ : Sg) : Option (Int32 × Sg) :=
  lt (0 : Int32) fun v3_1 =>
  lq1 (fX11_mayByWaits_2 v0 v1 v2) FU v3_1 σ
def fX11_isMet (v0 : Nat) (v1 : Int32) (v2 : Int32) (σ : Sg) : Option (Int32 × Sg) :=
  gd (inR v1 (ln (rf v0 11))) <|
  if (σ (rf v0 11) (v1).toNatClampNeg) = (3 : Int32) then
  (gd ((1 : Int32) = 0 ∨ (1 : Int32) = 1) (some ((1 : Int32), σ)))
  else
  (gd (inR (((7 : Int32) * v1) + v2) (ln (rf v0 22))) <|
  if (σ (rf v0 22) ((((7 : Int32) * v1) + v2)).toNatClampNeg) = 0 then
  (gd ((0 : Int32) = 0 ∨ (0 : Int32) = 1) (some ((0 : Int32), σ)))
  else
  (gd ((1 : Int32) = 0 ∨ (1 : Int32) = 1) (some ((1 : Int32), σ))))
def fX11_mayByMeets_74 (v0 : Nat) (v1 : Int32) (v2 : Int32) (v3 : Int32) (k2 : Int32 → Sg → Option (Int32 × Sg)) (k37 : Int32 → Sg → Option (Int32 × Sg)) (σ : Sg) : Option (Int32 × Sg) :=
  lt (v3 + (1 : Int32)) fun v3_74 =>
  k37 v3_74 σ
def fX11_mayByMeets_104 (v0 : Nat) (v1 : Int32) (v2 : Int32) (k2 : Int32 → Sg → Option (Int32 × Sg)) (σ : Sg) : Option (Int32 × Sg) :=
  lt (v2 + (1 : Int32)) fun v2_104 =>
  k2 v2_104 σ
def fX11_mayByMeets_37 (v0 : Nat) (v1 : Int32) (v2 : Int32) (k2 : Int32 → Sg → Option (Int32 × Sg)) (k37 : Int32 → Sg → Option (Int32 × Sg)) (v3 : Int32) (σ : Sg) : Option (Int32 × Sg) :=
  gd (inR (40 : Int32) (ln (rf v0 0))) <|
  if (σ (rf v0 0) ((40 : Int32)).toNatClampNeg) ≤ v3 then
  (bd (fX11_isMore v0 v1 v2 σ) fun r_83 s_83 =>
  if r_83 = 0 then
  (fX11_mayByMeets_104 v0 v1 v2 k2 s_83)
  else
  (gd (inR v1 (ln (rf v0 12))) <|
  if (s_83 v0 34) = (s_83 (rf v0 12) (v1).toNatClampNeg) then
  (gd ((0 : Int32) = 0 ∨ (0 : Int32) = 1) (some ((0 : Int32), s_83)))
  else
  (fX11_mayByMeets_104 v0 v1 v2 k2 s_83)))
  else
  (bd (fX11_hasMeet v0 v3 v1 v2 σ) fun r_52 s_52 =>
  if r_52 = 0 then
  (fX11_mayByMeets_74 v0 v1 v2 v3 k2 k37 s_52)
  else
  (bd (fX11_stationOf v0 v3 s_52) fun r_60 s_60 =>
  gd (inR v1 (ln (rf v0 12))) <|
  if r_60 = (s_60 (rf v0 12) (v1).toNatClampNeg) then
  (gd ((0 : Int32) = 0 ∨ (0 : Int32) = 1) (some ((0 : Int32), s_60)))
  else
  (fX11_mayByMeets_74 v0 v1 v2 v3 k2 k37 s_60)))
def fX11_mayByMeets_2 (v0 : Nat) (v1 : Int32) (k2 : Int32 → Sg → Option (Int32 × Sg)) (v2 : Int32) (σ : Sg) : Option (Int32 × Sg) :=
  gd (inR (14 : Int32) (ln (rf v0 0))) <|
  if (σ (rf v0 0) ((14 : Int32)).toNatClampNeg) ≤ v2 then
  (gd ((1 : Int32) = 0 ∨ (1 : Int32) = 1) (some ((1 : Int32), σ)))
  else
  (if v2 = v1 then
  (fX11_mayByMeets_104 v0 v1 v2 k2 σ)
  else
  (gd (inR v1 (ln (rf v0 12))) <|
  bd (fX11_isMet v0 v2 (σ (rf v0 12) (v1).toNatClampNeg) σ) fun r_26 s_26 =>
  if r_26 = 0 then
  (lt (0 : Int32) fun v3_36 =>
  lq1 (fX11_mayByMeets_37 v0 v1 v2 k2) FU v3_36 s_26)
  else
  (fX11_mayByMeets_104 v0 v1 v2 k2 s_26)))
def fX11_mayByMeets (v0 : Nat) (v1 : Int32) (σ : Sg) : Option (Int32 × Sg) :=
  lt (0 : Int32) fun v2_1 =>
  lq1 (fX11_mayByMeets_2 v0 v1) FU v2_1 σ
def fX11_isBehind (v0 : Nat) (v1 : Int32) (v2 : Int32) (σ : Sg) : Option (Int32 × Sg) :=
  gd (inR v1 (ln (rf v0 13))) <|
  if (σ (rf v0 13) (v1).toNatClampNeg) = 0 then
  (gd (inR v1 (ln (rf v0 12))) <|
  if v2 ≤ (σ (rf v0 12) (v1).toNatClampNeg) then
  (gd ((0 : Int32) = 0 ∨ (0 : Int32) = 1) (some ((0 : Int32), σ)))
  else
  (gd ((1 : Int32) = 0 ∨ (1 : Int32) = 1) (some ((1 : Int32), σ))))
  else
  (gd (inR v1 (ln (rf v0 12))) <|
  if (σ (rf v0 12) (v1).toNatClampNeg) ≤ v2 then
  (gd ((0 : Int32) = 0 ∨ (0 : Int32) = 1) (some ((0 : Int32), σ)))
  else
  (gd ((1 : Int32) = 0 ∨ (1 : Int32) = 1) (some ((1 : Int32), σ))))
def fX11_sectionAhead (v0 : Nat) (v1 : Int32) (σ : Sg) : Option (Int32 × Sg) :=
  gd (inR v1 (ln (rf v0 13))) <|
  if (σ (rf v0 13) (v1).toNatClampNeg) = 0 then
  (gd (inR v1 (ln (rf v0 12))) <|
  some ((σ (rf v0 12) (v1).toNatClampNeg), σ))
  else
  (gd (inR v1 (ln (rf v0 12))) <|
  some (((σ (rf v0 12) (v1).toNatClampNeg) - (1 : Int32)), σ))
def fX11_goesOver (v0 : Nat) (v1 : Int32) (v2 : Int32) (σ : Sg) : Option (Int32 × Sg) :=
  bd (fX11_wayOf v0 v1 σ) fun r_2 s_2 =>
  if r_2 = 0 then
  (bd (fX11_fromOf v0 v1 s_2) fun r_11 s_11 =>
  bd (fX11_toOf v0 v1 s_11) fun r_16 s_16 =>
  bd (fX11_in v2 r_11 (r_16 - (1 : Int32)) s_16) fun r_21 s_21 =>
  gd (r_21 = 0 ∨ r_21 = 1) (some (r_21, s_21)))
  else
  (bd (fX11_toOf v0 v1 s_2) fun r_30 s_30 =>
  bd (fX11_fromOf v0 v1 s_30) fun r_35 s_35 =>
  bd (fX11_in v2 r_30 (r_35 - (1 : Int32)) s_35) fun r_40 s_40 =>
  gd (r_40 = 0 ∨ r_40 = 1) (some (r_40, s_40)))
def fX11_mayAgainst_120 (v0 : Nat) (v1 : Int32) (v2 : Int32) (v3 : Int32) (v4 : Int32) (v5 : Int32) (k81 : Int32 → Sg → Option (Int32 × Sg)) (σ : Sg) : Option (Int32 × Sg) :=
  lt (v5 + (1 : Int32)) fun v5_120 =>
  k81 v5_120 σ
def fX11_mayAgainst_197 (v0 : Nat) (v2 : Int32) (v3 : Int32) (v4 : Int32) (v5 : Int32) (σ : Sg) : Option (Int32 × Sg) :=
  gd (inR ((8 : Int32) + v4) (ln (rf v0 0))) <|
  bd (fX11_dueAt v0 v2 v5 σ) fun r_215 s_215 =>
  bd (fX11_lates v0 v2 s_215) fun r_220 s_220 =>
  if (r_215 + r_220) < ((v3 + (σ (rf v0 0) (((8 : Int32) + v4)).toNatClampNeg)) + (5 : Int32)) then
  (gd ((0 : Int32) = 0 ∨ (0 : Int32) = 1) (some ((0 : Int32), s_220)))
  else
  (gd ((1 : Int32) = 0 ∨ (1 : Int32) = 1) (some ((1 : Int32), s_220)))
def fX11_mayAgainst_177 (v0 : Nat) (v2 : Int32) (v3 : Int32) (v4 : Int32) (w0 : Int32) (σ : Sg) : Option (Int32 × Sg) :=
  lt w0 fun v5_177 =>
  bd (fX11_kindOf v0 v2 σ) fun r_181 s_181 =>
  if r_181 = (1 : Int32) then
  (fX11_mayAgainst_197 v0 v2 v3 v4 v5_177 s_181)
  else
  (bd (fX11_kindOf v0 v2 s_181) fun r_190 s_190 =>
  if r_190 = (2 : Int32) then
  (fX11_mayAgainst_197 v0 v2 v3 v4 v5_177 s_190)
  else
  (gd ((0 : Int32) = 0 ∨ (0 : Int32) = 1) (some ((0 : Int32), s_190))))
def fX11_mayAgainst_149 (v0 : Nat) (v1 : Int32) (v2 : Int32) (v3 : Int32) (v4 : Int32) (σ : Sg) : Option (Int32 × Sg) :=
  gd (inR v1 (ln (rf v0 13))) <|
  if (σ (rf v0 13) (v1).toNatClampNeg) = 0 then
  (gd (inR v1 (ln (rf v0 12))) <|
  fX11_mayAgainst_177 v0 v2 v3 v4 ((σ (rf v0 12) (v1).toNatClampNeg) + (1 : Int32)) σ)
  else
  (gd (inR v1 (ln (rf v0 12))) <|
  fX11_mayAgainst_177 v0 v2 v3 v4 ((σ (rf v0 12) (v1).toNatClampNeg) - (1 : Int32)) σ)
def fX11_mayAgainst_81 (v0 : Nat) (v1 : Int32) (v2 : Int32) (v3 : Int32) (v4 : Int32) (k81 : Int32 → Sg → Option (Int32 × Sg)) (v5 : Int32) (σ : Sg) : Option (Int32 × Sg) :=
  gd (inR (40 : Int32) (ln (rf v0 0))) <|
  if (σ (rf v0 0) ((40 : Int32)).toNatClampNeg) ≤ v5 then
  (bd (fX11_isMore v0 v1 v2 σ) fun r_129 s_129 =>
  if r_129 = 0 then
  (fX11_mayAgainst_149 v0 v1 v2 v3 v4 s_129)
  else
  (bd (fX11_isBehind v0 v1 (s_129 v0 34) s_129) fun r_141 s_141 =>
  if r_141 = 0 then
  (fX11_mayAgainst_149 v0 v1 v2 v3 v4 s_141)
  else
  (gd ((1 : Int32) = 0 ∨ (1 : Int32) = 1) (some ((1 : Int32), s_141)))))
  else
  (bd (fX11_hasMeet v0 v5 v1 v2 σ) fun r_98 s_98 =>
  if r_98 = 0 then
  (fX11_mayAgainst_120 v0 v1 v2 v3 v4 v5 k81 s_98)
  else
  (bd (fX11_stationOf v0 v5 s_98) fun r_109 s_109 =>
  bd (fX11_isBehind v0 v1 r_109 s_109) fun r_112 s_112 =>
  if r_112 = 0 then
  (fX11_mayAgainst_120 v0 v1 v2 v3 v4 v5 k81 s_112)
  else
  (gd ((1 : Int32) = 0 ∨ (1 : Int32) = 1) (some ((1 : Int32), s_112)))))
def fX11_mayAgainst (v0 : Nat) (v1 : Int32) (v2 : Int32) (v3 : Int32) (σ : Sg) : Option (Int32 × Sg) :=
  bd (fX11_sectionAhead v0 v1 σ) fun r_2 s_2 =>
  lt r_2 fun v4_5 =>
  gd (inR v2 (ln (rf v0 13))) <|
  gd (inR v1 (ln (rf v0 13))) <|
  if (s_2 (rf v0 13) (v2).toNatClampNeg) = (s_2 (rf v0 13) (v1).toNatClampNeg) then
  (gd ((1 : Int32) = 0 ∨ (1 : Int32) = 1) (some ((1 : Int32), s_2)))
  else
  (gd (inR v2 (ln (rf v0 11))) <|
  if (s_2 (rf v0 11) (v2).toNatClampNeg) = (3 : Int32) then
  (gd ((1 : Int32) = 0 ∨ (1 : Int32) = 1) (some ((1 : Int32), s_2)))
  else
  (bd (fX11_goesOver v0 v2 v4_5 s_2) fun r_36 s_36 =>
  if r_36 = 0 then
  (gd ((1 : Int32) = 0 ∨ (1 : Int32) = 1) (some ((1 : Int32), s_36)))
  else
  (gd (inR v1 (ln (rf v0 12))) <|
  gd (inR (((7 : Int32) * v2) + (s_36 (rf v0 12) (v1).toNatClampNeg)) (ln (rf v0 23))) <|
  if (s_36 (rf v0 23) ((((7 : Int32) * v2) + (s_36 (rf v0 12) (v1).toNatClampNeg))).toNatClampNeg) = 0 then
  (gd (inR v2 (ln (rf v0 13))) <|
  bd (fX11_isOver v0 v2 (s_36 (rf v0 13) (v2).toNatClampNeg) v1 s_36) fun r_70 s_70 =>
  if r_70 = 0 then
  (gd ((1 : Int32) = 0 ∨ (1 : Int32) = 1) (some ((1 : Int32), s_70)))
  else
  (lt (0 : Int32) fun v5_79 =>
  lq1 (fX11_mayAgainst_81 v0 v1 v2 v3 v4_5) FU v5_79 s_70))
  else
  (gd ((1 : Int32) = 0 ∨ (1 : Int32) = 1) (some ((1 : Int32), s_36))))))
def fX11_whyNot_68 (v0 : Nat) (v1 : Int32) (v2 : Int32) (v3 : Int32) (k40 : Int32 → Sg → Option (Int32 × Sg)) (σ : Sg) : Option (Int32 × Sg) :=
  lt (v3 + (1 : Int32)) fun v3_68 =>
  k40 v3_68 σ
def fX11_whyNot_40 (v0 : Nat) (v1 : Int32) (v2 : Int32) (k40 : Int32 → Sg → Option (Int32 × Sg)) (v3 : Int32) (σ : Sg) : Option (Int32 × Sg) :=
  gd (inR (14 : Int32) (ln (rf v0 0))) <|
  if (σ (rf v0 0) ((14 : Int32)).toNatClampNeg) ≤ v3 then
  (gd (inR v1 (ln (rf v0 13))) <|
  gd (inR v1 (ln (rf v0 12))) <|
  gd (inR (((7 : Int32) * (σ (rf v0 13) (v1).toNatClampNeg)) + (σ (rf v0 12) (v1).toNatClampNeg)) (ln (rf v0 18))) <|
  if (10 : Int32) ≤ (v2 - (σ (rf v0 18) ((((7 : Int32) * (σ (rf v0 13) (v1).toNatClampNeg)) + (σ (rf v0 12) (v1).toNatClampNeg))).toNatClampNeg)) then
  (some ((0 : Int32), σ))
  else
  (some ((5 : Int32), σ)))
  else
  (if v3 = v1 then
  (fX11_whyNot_68 v0 v1 v2 v3 k40 σ)
  else
  (bd (fX11_mayAgainst v0 v1 v3 v2 σ) fun r_60 s_60 =>
  if r_60 = 0 then
  (some ((4 : Int32), s_60))
  else
  (fX11_whyNot_68 v0 v1 v2 v3 k40 s_60)))
def fX11_whyNot (v0 : Nat) (v1 : Int32) (v2 : Int32) (σ : Sg) : Option (Int32 × Sg) :=
  bd (fX11_findHeld v0 v1 v2 σ) fun r_3 s_3 =>
  bd (fX11_mayByTime v0 v1 v2 s_3) fun r_9 s_9 =>
  if r_9 = 0 then
  (some ((1 : Int32), s_9))
  else
  (bd (fX11_mayByWaits v0 v1 v2 s_9) fun r_20 s_20 =>
  if r_20 = 0 then
  (some ((2 : Int32), s_20))
  else
  (bd (fX11_mayByMeets v0 v1 s_20) fun r_30 s_30 =>
  if r_30 = 0 then
  (some ((3 : Int32), s_30))
  else
  (lt (0 : Int32) fun v3_39 =>
  lq1 (fX11_whyNot_40 v0 v1 v2) FU v3_39 s_30)))
def fX11_goes_58 (v0 : Nat) (v1 : Int32) (v2 : Int32) (σ : Sg) : Option (Unit × Sg) :=
  bd (fX11_sectionAhead v0 v1 σ) fun r_65 s_65 =>
  gd (inR v1 (ln (rf v0 12))) <|
  lt (wr s_65 (rf v0 12) (v1).toNatClampNeg r_65) fun s_68 =>
  gd (inR v1 (ln (rf v0 11))) <|
  lt (wr s_68 (rf v0 11) (v1).toNatClampNeg (2 : Int32)) fun s_75 =>
  gd (inR v1 (ln (rf v0 14))) <|
  lt (wr s_75 (rf v0 14) (v1).toNatClampNeg v2) fun s_82 =>
  some ((), s_82)
def fX11_goes (v0 : Nat) (v1 : Int32) (v2 : Int32) (σ : Sg) : Option (Unit × Sg) :=
  gd (inR v1 (ln (rf v0 13))) <|
  gd (inR v1 (ln (rf v0 12))) <|
  gd (inR (((7 : Int32) * (σ (rf v0 13) (v1).toNatClampNeg)) + (σ (rf v0 12) (v1).toNatClampNeg)) (ln (rf v0 18))) <|
  lt (wr σ (rf v0 18) ((((7 : Int32) * (σ (rf v0 13) (v1).toNatClampNeg)) + (σ (rf v0 12) (v1).toNatClampNeg))).toNatClampNeg v2) fun s_21 =>
  gd (inR v1 (ln (rf v0 12))) <|
  gd (inR (((7 : Int32) * v1) + (s_21 (rf v0 12) (v1).toNatClampNeg)) (ln (rf v0 17))) <|
  if 0 ≤ (s_21 (rf v0 17) ((((7 : Int32) * v1) + (s_21 (rf v0 12) (v1).toNatClampNeg))).toNatClampNeg) then
  (fX11_goes_58 v0 v1 v2 s_21)
  else
  (gd (inR v1 (ln (rf v0 12))) <|
  gd (inR (((7 : Int32) * v1) + (s_21 (rf v0 12) (v1).toNatClampNeg)) (ln (rf v0 17))) <|
  lt (wr s_21 (rf v0 17) ((((7 : Int32) * v1) + (s_21 (rf v0 12) (v1).toNatClampNeg))).toNatClampNeg v2) fun s_57 =>
  fX11_goes_58 v0 v1 v2 s_57)
def fX11_looksAtHeads_181 (v0 : Nat) (v1 : Int32) (v2 : Int32) (v3 : Int32) (k2 : Int32 → Sg → Option (Unit × Sg)) (k17 : Int32 → Sg → Option (Unit × Sg)) (σ : Sg) : Option (Unit × Sg) :=
  lt (v3 + (1 : Int32)) fun v3_181 =>
  k17 v3_181 σ
def fX11_looksAtHeads_171 (v0 : Nat) (v1 : Int32) (v2 : Int32) (v3 : Int32) (k2 : Int32 → Sg → Option (Unit × Sg)) (k17 : Int32 → Sg → Option (Unit × Sg)) (σ : Sg) : Option (Unit × Sg) :=
  lt (wr σ v0 25 ((σ v0 25) + (1 : Int32))) fun s_178 =>
  fX11_looksAtHeads_181 v0 v1 v2 v3 k2 k17 s_178
def fX11_looksAtHeads_168 (v0 : Nat) (v1 : Int32) (v2 : Int32) (v3 : Int32) (w0 : Int32) (w1 : Nat) (k2 : Int32 → Sg → Option (Unit × Sg)) (k17 : Int32 → Sg → Option (Unit × Sg)) (σ : Sg) : Option (Unit × Sg) :=
  lt (wr σ w1 30 w0) fun s_168 =>
  fX11_looksAtHeads_171 v0 v1 v2 v3 k2 k17 s_168
def fX11_looksAtHeads_17 (v0 : Nat) (v1 : Int32) (v2 : Int32) (k2 : Int32 → Sg → Option (Unit × Sg)) (k17 : Int32 → Sg → Option (Unit × Sg)) (v3 : Int32) (σ : Sg) : Option (Unit × Sg) :=
  gd (inR (14 : Int32) (ln (rf v0 0))) <|
  if (σ (rf v0 0) ((14 : Int32)).toNatClampNeg) ≤ v3 then
  (lt (v2 + (1 : Int32)) fun v2_187 =>
  k2 v2_187 σ)
  else
  (gd (inR v2 (ln (rf v0 11))) <|
  if (σ (rf v0 11) (v2).toNatClampNeg) = (2 : Int32) then
  (gd (inR v3 (ln (rf v0 11))) <|
  if (σ (rf v0 11) (v3).toNatClampNeg) = (2 : Int32) then
  (gd (inR v2 (ln (rf v0 12))) <|
  gd (inR v3 (ln (rf v0 12))) <|
  if (σ (rf v0 12) (v2).toNatClampNeg) = (σ (rf v0 12) (v3).toNatClampNeg) then
  (gd (inR v2 (ln (rf v0 13))) <|
  gd (inR v3 (ln (rf v0 13))) <|
  if (σ (rf v0 13) (v2).toNatClampNeg) = (σ (rf v0 13) (v3).toNatClampNeg) then
  (fX11_looksAtHeads_181 v0 v1 v2 v3 k2 k17 σ)
  else
  (gd (inR (((5 : Int32) * v2) + v3) (ln (rf v0 24))) <|
  if (σ (rf v0 24) ((((5 : Int32) * v2) + v3)).toNatClampNeg) = 0 then
  (gd (inR (((5 : Int32) * v2) + v3) (ln (rf v0 24))) <|
  lt (wr σ (rf v0 24) ((((5 : Int32) * v2) + v3)).toNatClampNeg (vp_nar .boolean (1 : Int32))) fun s_104 =>
  if (s_104 v0 25) = 0 then
  (lt (wr s_104 v0 26 v1) fun s_114 =>
  gd (inR v2 (ln (rf v0 12))) <|
  lt (wr s_114 v0 27 (s_114 (rf v0 12) (v2).toNatClampNeg)) fun s_124 =>
  lt (wr s_124 v0 28 v2) fun s_129 =>
  lt (wr s_129 v0 29 v3) fun s_134 =>
  gd (inR v2 (ln (rf v0 14))) <|
  gd (inR v3 (ln (rf v0 14))) <|
  if (s_134 (rf v0 14) (v2).toNatClampNeg) ≤ (s_134 (rf v0 14) (v3).toNatClampNeg) then
  (gd (inR v3 (ln (rf v0 14))) <|
  fX11_looksAtHeads_168 v0 v1 v2 v3 (s_134 (rf v0 14) (v3).toNatClampNeg) v0 k2 k17 s_134)
  else
  (gd (inR v2 (ln (rf v0 14))) <|
  fX11_looksAtHeads_168 v0 v1 v2 v3 (s_134 (rf v0 14) (v2).toNatClampNeg) v0 k2 k17 s_134))
  else
  (fX11_looksAtHeads_171 v0 v1 v2 v3 k2 k17 s_104))
  else
  (fX11_looksAtHeads_181 v0 v1 v2 v3 k2 k17 σ)))
  else
  (fX11_looksAtHeads_181 v0 v1 v2 v3 k2 k17 σ))
  else
  (fX11_looksAtHeads_181 v0 v1 v2 v3 k2 k17 σ))
  else
  (fX11_looksAtHeads_181 v0 v1 v2 v3 k2 k17 σ))
def fX11_looksAtHeads_2 (v0 : Nat) (v1 : Int32) (k2 : Int32 → Sg → Option (Unit × Sg)) (v2 : Int32) (σ : Sg) : Option (Unit × Sg) :=
  gd (inR (14 : Int32) (ln (rf v0 0))) <|
  if (σ (rf v0 0) ((14 : Int32)).toNatClampNeg) ≤ v2 then
  (some ((), σ))
  else
  (lt (v2 + (1 : Int32)) fun v3_16 =>
  lq1 (fX11_looksAtHeads_17 v0 v1 v2 k2) FU v3_16 σ)
def fX11_looksAtHeads (v0 : Nat) (v1 : Int32) (σ : Sg) : Option (Unit × Sg) :=
  lt (0 : Int32) fun v2_1 =>
  lq1 (fX11_looksAtHeads_2 v0 v1) FU v2_1 σ
def fX11_runs_67 (v0 : Nat) (v1 : Int32) (v2 : Int32) (k6 : Int32 → Sg → Option (Unit × Sg)) (k15 : Int32 → Sg → Option (Unit × Sg)) (σ : Sg) : Option (Unit × Sg) :=
  lt (v2 + (1 : Int32)) fun v2_67 =>
  k15 v2_67 σ
def fX11_runs_115 (v0 : Nat) (v1 : Int32) (v2 : Int32) (k6 : Int32 → Sg → Option (Unit × Sg)) (k75 : Int32 → Sg → Option (Unit × Sg)) (σ : Sg) : Option (Unit × Sg) :=
  lt (v2 + (1 : Int32)) fun v2_115 =>
  k75 v2_115 σ
def fX11_runs_203 (v0 : Nat) (v1 : Int32) (v2 : Int32) (k6 : Int32 → Sg → Option (Unit × Sg)) (k123 : Int32 → Sg → Option (Unit × Sg)) (σ : Sg) : Option (Unit × Sg) :=
  lt (v2 + (1 : Int32)) fun v2_203 =>
  k123 v2_203 σ
def fX11_runs_187 (v0 : Nat) (v1 : Int32) (v2 : Int32) (v3 : Int32) (w0 : Int32) (w1 : Int32) (w2 : Nat) (k6 : Int32 → Sg → Option (Unit × Sg)) (k123 : Int32 → Sg → Option (Unit × Sg)) (σ : Sg) : Option (Unit × Sg) :=
  gd (inR w1 (ln w2)) <|
  lt (wr σ w2 (w1).toNatClampNeg w0) fun s_187 =>
  gd (inR v3 (ln (rf v0 20))) <|
  if (s_187 (rf v0 20) (v3).toNatClampNeg) = 0 then
  (bd (fX11_goes v0 v2 v1 s_187) fun r_200 s_200 =>
  fX11_runs_203 v0 v1 v2 k6 k123 s_200)
  else
  (fX11_runs_203 v0 v1 v2 k6 k123 s_187)
def fX11_runs_297 (v0 : Nat) (v1 : Int32) (v2 : Int32) (w0 : Int32) (w1 : Int32) (w2 : Nat) (k6 : Int32 → Sg → Option (Unit × Sg)) (k216 : Int32 → Sg → Option (Unit × Sg)) (σ : Sg) : Option (Unit × Sg) :=
  gd (inR w1 (ln w2)) <|
  lt (wr σ w2 (w1).toNatClampNeg w0) fun s_297 =>
  lt (v2 + (1 : Int32)) fun v2_298 =>
  k216 v2_298 s_297
def fX11_runs_216 (v0 : Nat) (v1 : Int32) (k6 : Int32 → Sg → Option (Unit × Sg)) (k216 : Int32 → Sg → Option (Unit × Sg)) (v2 : Int32) (σ : Sg) : Option (Unit × Sg) :=
  gd (inR (14 : Int32) (ln (rf v0 0))) <|
  if (σ (rf v0 0) ((14 : Int32)).toNatClampNeg) ≤ v2 then
  (lt (v1 + (1 : Int32)) fun v1_304 =>
  k6 v1_304 σ)
  else
  (gd (inR v2 (ln (rf v0 11))) <|
  if (σ (rf v0 11) (v2).toNatClampNeg) = 0 then
  (fX11_runs_297 v0 v1 v2 (200 : Int32) (((501 : Int32) * v2) + v1) (rf v0 19) k6 k216 σ)
  else
  (gd (inR v2 (ln (rf v0 11))) <|
  if (σ (rf v0 11) (v2).toNatClampNeg) = (3 : Int32) then
  (fX11_runs_297 v0 v1 v2 (300 : Int32) (((501 : Int32) * v2) + v1) (rf v0 19) k6 k216 σ)
  else
  (gd (inR v2 (ln (rf v0 11))) <|
  if (σ (rf v0 11) (v2).toNatClampNeg) = (2 : Int32) then
  (gd (inR v2 (ln (rf v0 12))) <|
  fX11_runs_297 v0 v1 v2 ((100 : Int32) + (σ (rf v0 12) (v2).toNatClampNeg)) (((501 : Int32) * v2) + v1) (rf v0 19) k6 k216 σ)
  else
  (gd (inR v2 (ln (rf v0 12))) <|
  fX11_runs_297 v0 v1 v2 (σ (rf v0 12) (v2).toNatClampNeg) (((501 : Int32) * v2) + v1) (rf v0 19) k6 k216 σ))))
def fX11_runs_123 (v0 : Nat) (v1 : Int32) (k6 : Int32 → Sg → Option (Unit × Sg)) (k123 : Int32 → Sg → Option (Unit × Sg)) (v2 : Int32) (σ : Sg) : Option (Unit × Sg) :=
  gd (inR (14 : Int32) (ln (rf v0 0))) <|
  if (σ (rf v0 0) ((14 : Int32)).toNatClampNeg) ≤ v2 then
  (bd (fX11_looksAtHeads v0 v1 σ) fun r_211 s_211 =>
  lt (0 : Int32) fun v2_215 =>
  lq1 (fX11_runs_216 v0 v1 k6) FU v2_215 s_211)
  else
  (lt (((501 : Int32) * v2) + v1) fun v3_141 =>
  gd (inR v3_141 (ln (rf v0 20))) <|
  lt (wr σ (rf v0 20) (v3_141).toNatClampNeg (-100006 : Int32)) fun s_149 =>
  gd (inR v2 (ln (rf v0 11))) <|
  if (s_149 (rf v0 11) (v2).toNatClampNeg) = (1 : Int32) then
  (bd (fX11_isForced v0 v2 v1 s_149) fun r_171 s_171 =>
  if r_171 = 0 then
  (bd (fX11_whyNot v0 v2 v1 s_171) fun r_184 s_184 =>
  fX11_runs_187 v0 v1 v2 v3_141 r_184 v3_141 (rf v0 20) k6 k123 s_184)
  else
  (fX11_runs_187 v0 v1 v2 v3_141 (0 : Int32) v3_141 (rf v0 20) k6 k123 s_171))
  else
  (fX11_runs_203 v0 v1 v2 k6 k123 s_149))
def fX11_runs_75 (v0 : Nat) (v1 : Int32) (k6 : Int32 → Sg → Option (Unit × Sg)) (k75 : Int32 → Sg → Option (Unit × Sg)) (v2 : Int32) (σ : Sg) : Option (Unit × Sg) :=
  gd (inR (14 : Int32) (ln (rf v0 0))) <|
  if (σ (rf v0 0) ((14 : Int32)).toNatClampNeg) ≤ v2 then
  (lt (0 : Int32) fun v2_122 =>
  lq1 (fX11_runs_123 v0 v1 k6) FU v2_122 σ)
  else
  (gd (inR v2 (ln (rf v0 11))) <|
  if (σ (rf v0 11) (v2).toNatClampNeg) = 0 then
  (bd (fX11_timeOf v0 v2 σ) fun r_98 s_98 =>
  if v1 = r_98 then
  (bd (fX11_fromOf v0 v2 s_98) fun r_108 s_108 =>
  bd (fX11_isAt v0 v2 r_108 v1 s_108) fun r_112 s_112 =>
  fX11_runs_115 v0 v1 v2 k6 k75 s_112)
  else
  (fX11_runs_115 v0 v1 v2 k6 k75 s_98))
  else
  (fX11_runs_115 v0 v1 v2 k6 k75 σ))
def fX11_runs_15 (v0 : Nat) (v1 : Int32) (k6 : Int32 → Sg → Option (Unit × Sg)) (k15 : Int32 → Sg → Option (Unit × Sg)) (v2 : Int32) (σ : Sg) : Option (Unit × Sg) :=
  gd (inR (14 : Int32) (ln (rf v0 0))) <|
  if (σ (rf v0 0) ((14 : Int32)).toNatClampNeg) ≤ v2 then
  (lt (0 : Int32) fun v2_74 =>
  lq1 (fX11_runs_75 v0 v1 k6) FU v2_74 σ)
  else
  (gd (inR v2 (ln (rf v0 11))) <|
  if (σ (rf v0 11) (v2).toNatClampNeg) = (2 : Int32) then
  (gd (inR v2 (ln (rf v0 14))) <|
  gd (inR v2 (ln (rf v0 12))) <|
  gd (inR ((8 : Int32) + (σ (rf v0 12) (v2).toNatClampNeg)) (ln (rf v0 0))) <|
  if v1 = ((σ (rf v0 14) (v2).toNatClampNeg) + (σ (rf v0 0) (((8 : Int32) + (σ (rf v0 12) (v2).toNatClampNeg))).toNatClampNeg)) then
  (bd (fX11_comesIn v0 v2 v1 σ) fun r_64 s_64 =>
  fX11_runs_67 v0 v1 v2 k6 k15 s_64)
  else
  (fX11_runs_67 v0 v1 v2 k6 k15 σ))
  else
  (fX11_runs_67 v0 v1 v2 k6 k15 σ))
def fX11_runs_6 (v0 : Nat) (k6 : Int32 → Sg → Option (Unit × Sg)) (v1 : Int32) (σ : Sg) : Option (Unit × Sg) :=
  if (500 : Int32) < v1 then
  (some ((), σ))
  else
  (lt (0 : Int32) fun v2_14 =>
  lq1 (fX11_runs_15 v0 v1 k6) FU v2_14 σ)
def fX11_runs (v0 : Nat) (σ : Sg) : Option (Unit × Sg) :=
  bd (fX11_begin v0 σ) fun r_1 s_1 =>
  lt (0 : Int32) fun v1_5 =>
  lq1 (fX11_runs_6 v0) FU v1_5 s_1
def fX11_runsAsItIs (v0 : Nat) (σ : Sg) : Option (Unit × Sg) :=
  if (σ v0 9) = 0 then
  (lt (wr σ v0 32 (-1 : Int32)) fun s_10 =>
  lt (wr s_10 v0 33 (-1 : Int32)) fun s_15 =>
  lt (wr s_15 v0 34 (-1 : Int32)) fun s_20 =>
  bd (fX11_runs v0 s_20) fun r_24 s_24 =>
  lt (wr s_24 v0 9 (1 : Int32)) fun s_29 =>
  some ((), s_29))
  else
  (some ((), σ))
def fX11_where (v0 : Nat) (v1 : Int32) (v2 : Int32) (σ : Sg) : Option (Int32 × Sg) :=
  bd (fX11_isTrain v0 v1 σ) fun r_2 s_2 =>
  if r_2 = 0 then
  (bd (fX11_finds v0 (-100001 : Int32) s_2) fun r_18 s_18 =>
  some (r_18, s_18))
  else
  (bd (fX11_isMinute v2 s_2) fun r_9 s_9 =>
  if r_9 = 0 then
  (bd (fX11_finds v0 (-100001 : Int32) s_9) fun r_18 s_18 =>
  some (r_18, s_18))
  else
  (bd (fX11_runsAsItIs v0 s_9) fun r_23 s_23 =>
  gd (inR (((501 : Int32) * v1) + v2) (ln (rf v0 19))) <|
  some ((s_23 (rf v0 19) ((((501 : Int32) * v1) + v2)).toNatClampNeg), s_23)))
def fX11_came (v0 : Nat) (v1 : Int32) (v2 : Int32) (σ : Sg) : Option (Int32 × Sg) :=
  bd (fX11_isTrain v0 v1 σ) fun r_2 s_2 =>
  if r_2 = 0 then
  (bd (fX11_finds v0 (-100001 : Int32) s_2) fun r_19 s_19 =>
  some (r_19, s_19))
  else
  (bd (fX11_isStation v0 v2 s_2) fun r_10 s_10 =>
  if r_10 = 0 then
  (bd (fX11_finds v0 (-100001 : Int32) s_10) fun r_19 s_19 =>
  some (r_19, s_19))
  else
  (bd (fX11_runsAsItIs v0 s_10) fun r_24 s_24 =>
  gd (inR (((7 : Int32) * v1) + v2) (ln (rf v0 16))) <|
  if 0 ≤ (s_24 (rf v0 16) ((((7 : Int32) * v1) + v2)).toNatClampNeg) then
  (gd (inR (((7 : Int32) * v1) + v2) (ln (rf v0 16))) <|
  some ((s_24 (rf v0 16) ((((7 : Int32) * v1) + v2)).toNatClampNeg), s_24))
  else
  (bd (fX11_finds v0 (-100006 : Int32) s_24) fun r_44 s_44 =>
  some (r_44, s_44))))
def fX11_left (v0 : Nat) (v1 : Int32) (v2 : Int32) (σ : Sg) : Option (Int32 × Sg) :=
  bd (fX11_isTrain v0 v1 σ) fun r_2 s_2 =>
  if r_2 = 0 then
  (bd (fX11_finds v0 (-100001 : Int32) s_2) fun r_19 s_19 =>
  some (r_19, s_19))
  else
  (bd (fX11_isStation v0 v2 s_2) fun r_10 s_10 =>
  if r_10 = 0 then
  (bd (fX11_finds v0 (-100001 : Int32) s_10) fun r_19 s_19 =>
  some (r_19, s_19))
  else
  (bd (fX11_runsAsItIs v0 s_10) fun r_24 s_24 =>
  gd (inR (((7 : Int32) * v1) + v2) (ln (rf v0 17))) <|
  if 0 ≤ (s_24 (rf v0 17) ((((7 : Int32) * v1) + v2)).toNatClampNeg) then
  (gd (inR (((7 : Int32) * v1) + v2) (ln (rf v0 17))) <|
  some ((s_24 (rf v0 17) ((((7 : Int32) * v1) + v2)).toNatClampNeg), s_24))
  else
  (bd (fX11_finds v0 (-100006 : Int32) s_24) fun r_44 s_44 =>
  some (r_44, s_44))))
def fX11_why (v0 : Nat) (v1 : Int32) (v2 : Int32) (σ : Sg) : Option (Int32 × Sg) :=
  bd (fX11_isTrain v0 v1 σ) fun r_2 s_2 =>
  if r_2 = 0 then
  (bd (fX11_finds v0 (-100001 : Int32) s_2) fun r_18 s_18 =>
  some (r_18, s_18))
  else
  (bd (fX11_isMinute v2 s_2) fun r_9 s_9 =>
  if r_9 = 0 then
  (bd (fX11_finds v0 (-100001 : Int32) s_9) fun r_18 s_18 =>
  some (r_18, s_18))
  else
  (bd (fX11_runsAsItIs v0 s_9) fun r_23 s_23 =>
  gd (inR (((501 : Int32) * v1) + v2) (ln (rf v0 20))) <|
  lt (s_23 (rf v0 20) ((((501 : Int32) * v1) + v2)).toNatClampNeg) fun v3_38 =>
  if v3_38 = (-100006 : Int32) then
  (bd (fX11_finds v0 (-100006 : Int32) s_23) fun r_48 s_48 =>
  some (r_48, s_48))
  else
  (some (v3_38, s_23))))
def fX11_heads (v0 : Nat) (σ : Sg) : Option (Int32 × Sg) :=
  bd (fX11_runsAsItIs v0 σ) fun r_1 s_1 =>
  some ((s_1 v0 25), s_1)
def fX11_head (v0 : Nat) (v1 : Int32) (σ : Sg) : Option (Int32 × Sg) :=
  bd (fX11_runsAsItIs v0 σ) fun r_1 s_1 =>
  if (s_1 v0 25) = 0 then
  (bd (fX11_finds v0 (-100006 : Int32) s_1) fun r_14 s_14 =>
  some (r_14, s_14))
  else
  (if v1 = (0 : Int32) then
  (some ((s_1 v0 26), s_1))
  else
  (if v1 = (1 : Int32) then
  (some ((s_1 v0 27), s_1))
  else
  (if v1 = (2 : Int32) then
  (some ((s_1 v0 28), s_1))
  else
  (if v1 = (3 : Int32) then
  (some ((s_1 v0 29), s_1))
  else
  (bd (fX11_finds v0 (-100001 : Int32) s_1) fun r_71 s_71 =>
  some (r_71, s_71))))))
def fX11_bears_71 (v0 : Nat) (v1 : Int32) (v3 : Int32) (σ : Sg) : Option (Int32 × Sg) :=
  if v3 = 0 then
  (gd ((0 : Int32) = 0 ∨ (0 : Int32) = 1) (some ((0 : Int32), σ)))
  else
  (bd (fX11_otherOf v0 v1 σ) fun r_77 s_77 =>
  if r_77 = (s_77 v0 28) then
  (gd ((1 : Int32) = 0 ∨ (1 : Int32) = 1) (some ((1 : Int32), s_77)))
  else
  (gd ((0 : Int32) = 0 ∨ (0 : Int32) = 1) (some ((0 : Int32), s_77))))
def fX11_bears_35 (v0 : Nat) (v1 : Int32) (v2 : Int32) (w0 : Int32) (σ : Sg) : Option (Int32 × Sg) :=
  lt w0 fun v3_35 =>
  bd (fX11_formOf v0 v1 σ) fun r_38 s_38 =>
  if r_38 = (4 : Int32) then
  (gd ((0 : Int32) = 0 ∨ (0 : Int32) = 1) (some ((0 : Int32), s_38)))
  else
  (bd (fX11_formOf v0 v1 s_38) fun r_49 s_49 =>
  if r_49 = 0 then
  (if v2 = 0 then
  (fX11_bears_71 v0 v1 v3_35 s_49)
  else
  (bd (fX11_otherOf v0 v1 s_49) fun r_61 s_61 =>
  if r_61 = (s_61 v0 29) then
  (gd ((1 : Int32) = 0 ∨ (1 : Int32) = 1) (some ((1 : Int32), s_61)))
  else
  (fX11_bears_71 v0 v1 v3_35 s_61)))
  else
  (if v2 = 0 then
  (if v3_35 = 0 then
  (gd ((0 : Int32) = 0 ∨ (0 : Int32) = 1) (some ((0 : Int32), s_49)))
  else
  (gd ((1 : Int32) = 0 ∨ (1 : Int32) = 1) (some ((1 : Int32), s_49))))
  else
  (gd ((1 : Int32) = 0 ∨ (1 : Int32) = 1) (some ((1 : Int32), s_49)))))
def fX11_bears_17 (v0 : Nat) (v1 : Int32) (w0 : Int32) (σ : Sg) : Option (Int32 × Sg) :=
  lt w0 fun v2_17 =>
  bd (fX11_trainOf v0 v1 σ) fun r_20 s_20 =>
  if r_20 = (s_20 v0 29) then
  (fX11_bears_35 v0 v1 v2_17 (1 : Int32) s_20)
  else
  (fX11_bears_35 v0 v1 v2_17 (0 : Int32) s_20)
def fX11_bears (v0 : Nat) (v1 : Int32) (σ : Sg) : Option (Int32 × Sg) :=
  bd (fX11_trainOf v0 v1 σ) fun r_2 s_2 =>
  if r_2 = (s_2 v0 28) then
  (fX11_bears_17 v0 v1 (1 : Int32) s_2)
  else
  (fX11_bears_17 v0 v1 (0 : Int32) s_2)
def fX11_cause_62 (v0 : Nat) (v2 : Int32) (w0 : Int32) (w1 : Int32) (k34 : Int32 → Int32 → Sg → Option (Int32 × Sg)) (σ : Sg) : Option (Int32 × Sg) :=
  lt (w1 ||| w0) fun v1_63 =>
  lt (v2 + (1 : Int32)) fun v2_64 =>
  k34 v1_63 v2_64 σ
def fX11_cause_128 (v0 : Nat) (v1 : Int32) (v2 : Int32) (k84 : Int32 → Sg → Option (Int32 × Sg)) (σ : Sg) : Option (Int32 × Sg) :=
  lt (v2 + (1 : Int32)) fun v2_128 =>
  k84 v2_128 σ
def fX11_cause_123 (v0 : Nat) (v1 : Int32) (v2 : Int32) (w0 : Int32) (w1 : Int32) (k84 : Int32 → Sg → Option (Int32 × Sg)) (σ : Sg) : Option (Int32 × Sg) :=
  if w1 = w0 then
  (fX11_cause_128 v0 v1 v2 k84 σ)
  else
  (some (v2, σ))
def fX11_cause_84 (v0 : Nat) (v1 : Int32) (k84 : Int32 → Sg → Option (Int32 × Sg)) (v2 : Int32) (σ : Sg) : Option (Int32 × Sg) :=
  gd (inR (40 : Int32) (ln (rf v0 0))) <|
  if (σ (rf v0 0) ((40 : Int32)).toNatClampNeg) ≤ v2 then
  (bd (fX11_finds v0 (-100006 : Int32) σ) fun r_137 s_137 =>
  some (r_137, s_137))
  else
  (bd (fX11_bears v0 v2 σ) fun r_97 s_97 =>
  if r_97 = 0 then
  (fX11_cause_128 v0 v1 v2 k84 s_97)
  else
  (gd (inR v2 (ln (rf v0 10))) <|
  if ((v1 >>> (v2 &&& 31)) &&& (1 : Int32)) = (1 : Int32) then
  (fX11_cause_123 v0 v1 v2 (1 : Int32) (s_97 (rf v0 10) (v2).toNatClampNeg) k84 s_97)
  else
  (fX11_cause_123 v0 v1 v2 (0 : Int32) (s_97 (rf v0 10) (v2).toNatClampNeg) k84 s_97)))
def fX11_cause_34 (v0 : Nat) (k34 : Int32 → Int32 → Sg → Option (Int32 × Sg)) (v1 : Int32) (v2 : Int32) (σ : Sg) : Option (Int32 × Sg) :=
  gd (inR (40 : Int32) (ln (rf v0 0))) <|
  if (σ (rf v0 0) ((40 : Int32)).toNatClampNeg) ≤ v2 then
  (bd (fX11_findHeld v0 (σ v0 29) (σ v0 30) σ) fun r_79 s_79 =>
  lt (0 : Int32) fun v2_83 =>
  lq1 (fX11_cause_84 v0 v1) FU v2_83 s_79)
  else
  (gd (inR v2 (ln (rf v0 10))) <|
  if (σ (rf v0 10) (v2).toNatClampNeg) = 0 then
  (fX11_cause_62 v0 v2 (0 : Int32) v1 k34 σ)
  else
  (fX11_cause_62 v0 v2 ((1 : Int32) <<< (v2 &&& 31)) v1 k34 σ))
def fX11_cause (v0 : Nat) (σ : Sg) : Option (Int32 × Sg) :=
  bd (fX11_runsAsItIs v0 σ) fun r_1 s_1 =>
  if (s_1 v0 25) = 0 then
  (bd (fX11_finds v0 (-100006 : Int32) s_1) fun r_14 s_14 =>
  some (r_14, s_14))
  else
  (lt (0 : Int32) fun v1_19 =>
  bd (fX11_findHeld v0 (s_1 v0 28) (s_1 v0 30) s_1) fun r_29 s_29 =>
  lt (0 : Int32) fun v2_33 =>
  lq2 (fX11_cause_34 v0) FU v1_19 v2_33 s_29)
def fX11_fouls (v0 : Nat) (σ : Sg) : Option (Int32 × Sg) :=
  bd (fX11_runsAsItIs v0 σ) fun r_1 s_1 =>
  some ((s_1 v0 31), s_1)
def fX11_delays_75 (v0 : Nat) (v2 : Int32) (w0 : Int32) (w1 : Int32) (k4 : Int32 → Int32 → Sg → Option (Int32 × Sg)) (σ : Sg) : Option (Int32 × Sg) :=
  lt (w1 + w0) fun v1_76 =>
  lt (v2 + (1 : Int32)) fun v2_77 =>
  k4 v1_76 v2_77 σ
def fX11_delays_74 (v0 : Nat) (v2 : Int32) (w0 : Int32) (w1 : Int32) (w2 : Int32) (k4 : Int32 → Int32 → Sg → Option (Int32 × Sg)) (σ : Sg) : Option (Int32 × Sg) :=
  fX11_delays_75 v0 v2 (w1 - w0) w2 k4 σ
def fX11_delays_4 (v0 : Nat) (k4 : Int32 → Int32 → Sg → Option (Int32 × Sg)) (v1 : Int32) (v2 : Int32) (σ : Sg) : Option (Int32 × Sg) :=
  gd (inR (14 : Int32) (ln (rf v0 0))) <|
  if (σ (rf v0 0) ((14 : Int32)).toNatClampNeg) ≤ v2 then
  (some (v1, σ))
  else
  (bd (fX11_fromOf v0 v2 σ) fun r_18 s_18 =>
  bd (fX11_toOf v0 v2 s_18) fun r_23 s_23 =>
  bd (fX11_between v0 r_18 r_23 s_23) fun r_26 s_26 =>
  lt r_26 fun v3_29 =>
  gd (inR v2 (ln (rf v0 15))) <|
  if 0 ≤ (s_26 (rf v0 15) (v2).toNatClampNeg) then
  (gd (inR v2 (ln (rf v0 15))) <|
  bd (fX11_timeOf v0 v2 s_26) fun r_54 s_54 =>
  bd (fX11_kindOf v0 v2 s_54) fun r_60 s_60 =>
  if r_60 = (3 : Int32) then
  (fX11_delays_74 v0 v2 ((2 : Int32) * v3_29) ((s_26 (rf v0 15) (v2).toNatClampNeg) - r_54) v1 k4 s_60)
  else
  (fX11_delays_74 v0 v2 v3_29 ((s_26 (rf v0 15) (v2).toNatClampNeg) - r_54) v1 k4 s_60))
  else
  (fX11_delays_75 v0 v2 (1000 : Int32) v1 k4 s_26))
def fX11_delays (v0 : Nat) (σ : Sg) : Option (Int32 × Sg) :=
  lt (0 : Int32) fun v1_1 =>
  lt (0 : Int32) fun v2_3 =>
  lq2 (fX11_delays_4 v0) FU v1_1 v2_3 σ
def fX11_delay (v0 : Nat) (σ : Sg) : Option (Int32 × Sg) :=
  bd (fX11_runsAsItIs v0 σ) fun r_1 s_1 =>
  bd (fX11_delays v0 s_1) fun r_5 s_5 =>
  some (r_5, s_5)
def fX11_priceOf (v0 : Nat) (v1 : Int32) (v2 : Int32) (v3 : Int32) (σ : Sg) : Option (Int32 × Sg) :=
  lt (wr σ v0 32 v1) fun s_2 =>
  lt (wr s_2 v0 33 v2) fun s_7 =>
  lt (wr s_7 v0 34 v3) fun s_12 =>
  lt (wr s_12 v0 9 (0 : Int32)) fun s_17 =>
  bd (fX11_runs v0 s_17) fun r_21 s_21 =>
  bd (fX11_delays v0 s_21) fun r_33 s_33 =>
  some ((((100000 : Int32) * (s_21 v0 25)) + r_33), s_33)
def fX11_findMeets_142 (v0 : Nat) (v1 : Int32) (v2 : Int32) (v3 : Int32) (w0 : Int32) (w1 : Nat) (k12 : Int32 → Sg → Option (Unit × Sg)) (k27 : Int32 → Sg → Option (Unit × Sg)) (k40 : Int32 → Sg → Option (Unit × Sg)) (σ : Sg) : Option (Unit × Sg) :=
  lt (wr σ w1 40 w0) fun s_142 =>
  lt (wr s_142 v0 39 ((s_142 v0 39) + (1 : Int32))) fun s_152 =>
  lt (v3 + (1 : Int32)) fun v3_155 =>
  k40 v3_155 s_152
def fX11_findMeets_161 (v0 : Nat) (v1 : Int32) (v2 : Int32) (k12 : Int32 → Sg → Option (Unit × Sg)) (k27 : Int32 → Sg → Option (Unit × Sg)) (σ : Sg) : Option (Unit × Sg) :=
  lt (v2 + (1 : Int32)) fun v2_161 =>
  k27 v2_161 σ
def fX11_findMeets_40 (v0 : Nat) (v1 : Int32) (v2 : Int32) (k12 : Int32 → Sg → Option (Unit × Sg)) (k27 : Int32 → Sg → Option (Unit × Sg)) (k40 : Int32 → Sg → Option (Unit × Sg)) (v3 : Int32) (σ : Sg) : Option (Unit × Sg) :=
  gd (inR (0 : Int32) (ln (rf v0 0))) <|
  if (σ (rf v0 0) ((0 : Int32)).toNatClampNeg) ≤ v3 then
  (fX11_findMeets_161 v0 v1 v2 k12 k27 σ)
  else
  (bd (fX11_wayOf v0 v1 σ) fun r_52 s_52 =>
  bd (fX11_wayOf v0 v2 s_52) fun r_57 s_57 =>
  if r_52 = r_57 then
  (fX11_findMeets_161 v0 v1 v2 k12 k27 s_57)
  else
  (gd (inR (s_57 v0 39) (ln (rf v0 35))) <|
  lt (wr s_57 (rf v0 35) ((s_57 v0 39)).toNatClampNeg v1) fun s_72 =>
  gd (inR (s_72 v0 39) (ln (rf v0 36))) <|
  lt (wr s_72 (rf v0 36) ((s_72 v0 39)).toNatClampNeg v2) fun s_82 =>
  gd (inR (s_82 v0 39) (ln (rf v0 37))) <|
  lt (wr s_82 (rf v0 37) ((s_82 v0 39)).toNatClampNeg v3) fun s_92 =>
  bd (fX11_priceOf v0 v1 v2 v3 s_92) fun r_105 s_105 =>
  gd (inR (s_92 v0 39) (ln (rf v0 38))) <|
  lt (wr s_105 (rf v0 38) ((s_92 v0 39)).toNatClampNeg r_105) fun s_108 =>
  gd (inR (s_108 v0 39) (ln (rf v0 38))) <|
  gd (inR (s_108 v0 40) (ln (rf v0 38))) <|
  if (s_108 (rf v0 38) ((s_108 v0 40)).toNatClampNeg) ≤ (s_108 (rf v0 38) ((s_108 v0 39)).toNatClampNeg) then
  (fX11_findMeets_142 v0 v1 v2 v3 (s_108 v0 40) v0 k12 k27 k40 s_108)
  else
  (fX11_findMeets_142 v0 v1 v2 v3 (s_108 v0 39) v0 k12 k27 k40 s_108)))
def fX11_findMeets_27 (v0 : Nat) (v1 : Int32) (k12 : Int32 → Sg → Option (Unit × Sg)) (k27 : Int32 → Sg → Option (Unit × Sg)) (v2 : Int32) (σ : Sg) : Option (Unit × Sg) :=
  gd (inR (14 : Int32) (ln (rf v0 0))) <|
  if (σ (rf v0 0) ((14 : Int32)).toNatClampNeg) ≤ v2 then
  (lt (v1 + (1 : Int32)) fun v1_167 =>
  k12 v1_167 σ)
  else
  (lt (0 : Int32) fun v3_39 =>
  lq1 (fX11_findMeets_40 v0 v1 v2 k12 k27) FU v3_39 σ)
def fX11_findMeets_12 (v0 : Nat) (k12 : Int32 → Sg → Option (Unit × Sg)) (v1 : Int32) (σ : Sg) : Option (Unit × Sg) :=
  gd (inR (14 : Int32) (ln (rf v0 0))) <|
  if (σ (rf v0 0) ((14 : Int32)).toNatClampNeg) ≤ v1 then
  (some ((), σ))
  else
  (lt (v1 + (1 : Int32)) fun v2_26 =>
  lq1 (fX11_findMeets_27 v0 v1 k12) FU v2_26 σ)
def fX11_findMeets (v0 : Nat) (σ : Sg) : Option (Unit × Sg) :=
  lt (wr σ v0 39 (0 : Int32)) fun s_2 =>
  lt (wr s_2 v0 40 (0 : Int32)) fun s_7 =>
  lt (0 : Int32) fun v1_11 =>
  lq1 (fX11_findMeets_12 v0) FU v1_11 s_7
def fX11_best (v0 : Nat) (v1 : Int32) (σ : Sg) : Option (Int32 × Sg) :=
  bd (fX11_findMeets v0 σ) fun r_1 s_1 =>
  if (s_1 v0 39) = 0 then
  (bd (fX11_finds v0 (-100006 : Int32) s_1) fun r_14 s_14 =>
  some (r_14, s_14))
  else
  (if v1 = (0 : Int32) then
  (gd (inR (s_1 v0 40) (ln (rf v0 35))) <|
  some ((s_1 (rf v0 35) ((s_1 v0 40)).toNatClampNeg), s_1))
  else
  (if v1 = (1 : Int32) then
  (gd (inR (s_1 v0 40) (ln (rf v0 36))) <|
  some ((s_1 (rf v0 36) ((s_1 v0 40)).toNatClampNeg), s_1))
  else
  (if v1 = (2 : Int32) then
  (gd (inR (s_1 v0 40) (ln (rf v0 37))) <|
  some ((s_1 (rf v0 37) ((s_1 v0 40)).toNatClampNeg), s_1))
  else
  (if v1 = (3 : Int32) then
  (gd (inR (s_1 v0 40) (ln (rf v0 38))) <|
  some ((s_1 (rf v0 38) ((s_1 v0 40)).toNatClampNeg), s_1))
  else
  (bd (fX11_finds v0 (-100001 : Int32) s_1) fun r_91 s_91 =>
  some (r_91, s_91))))))
def fX11_price (v0 : Nat) (v1 : Int32) (v2 : Int32) (v3 : Int32) (σ : Sg) : Option (Int32 × Sg) :=
  bd (fX11_isTrain v0 v1 σ) fun r_2 s_2 =>
  if r_2 = 0 then
  (bd (fX11_finds v0 (-100001 : Int32) s_2) fun r_27 s_27 =>
  some (r_27, s_27))
  else
  (bd (fX11_isTrain v0 v2 s_2) fun r_10 s_10 =>
  if r_10 = 0 then
  (bd (fX11_finds v0 (-100001 : Int32) s_10) fun r_27 s_27 =>
  some (r_27, s_27))
  else
  (bd (fX11_isStation v0 v3 s_10) fun r_18 s_18 =>
  if r_18 = 0 then
  (bd (fX11_finds v0 (-100001 : Int32) s_18) fun r_27 s_27 =>
  some (r_27, s_27))
  else
  (bd (fX11_wayOf v0 v1 s_18) fun r_33 s_33 =>
  bd (fX11_wayOf v0 v2 s_33) fun r_38 s_38 =>
  if r_33 = r_38 then
  (bd (fX11_finds v0 (-100003 : Int32) s_38) fun r_47 s_47 =>
  some (r_47, s_47))
  else
  (bd (fX11_priceOf v0 v1 v2 v3 s_38) fun r_57 s_57 =>
  some (r_57, s_57)))))
def fX11_narrowed (v0 : Int32) (v1 : Int32) (σ : Sg) : Option (Int32 × Sg) :=
  if v0 = (8 : Int32) then
  (some ((v1).toInt8.toInt32, σ))
  else
  (if v0 = (16 : Int32) then
  (some ((v1).toInt16.toInt32, σ))
  else
  (some (v1, σ)))
def fX11_isSheet (v0 : Int32) (σ : Sg) : Option (Int32 × Sg) :=
  bd (fX11_in v0 (0 : Int32) (3 : Int32) σ) fun r_3 s_3 =>
  gd (r_3 = 0 ∨ r_3 = 1) (some (r_3, s_3))
def fX11_proves_175 (v0 : Nat) (v4 : Int32) (k175 : Int32 → Sg → Option (Int32 × Sg)) (v7 : Int32) (σ : Sg) : Option (Int32 × Sg) :=
  if (σ v0 39) ≤ v7 then
  (some ((-1 : Int32), σ))
  else
  (gd (inR (((60 : Int32) * v4) + v7) (ln (rf v0 7))) <|
  gd (inR v4 (ln (rf v0 5))) <|
  gd (inR v7 (ln (rf v0 38))) <|
  bd (fX11_narrowed (σ (rf v0 5) (v4).toNatClampNeg) (σ (rf v0 38) (v7).toNatClampNeg) σ) fun r_211 s_211 =>
  if (σ (rf v0 7) ((((60 : Int32) * v4) + v7)).toNatClampNeg) = r_211 then
  (lt (v7 + (1 : Int32)) fun v7_220 =>
  k175 v7_220 s_211)
  else
  (some (v7, s_211)))
def fX11_proves_103 (v0 : Nat) (v3 : Int32) (v4 : Int32) (v5 : Int32) (w0 : Int32) (σ : Sg) : Option (Int32 × Sg) :=
  lt w0 fun v6_103 =>
  gd (inR (σ v0 40) (ln (rf v0 35))) <|
  if (σ (rf v0 35) ((σ v0 40)).toNatClampNeg) = v5 then
  (gd (inR (σ v0 40) (ln (rf v0 36))) <|
  if (σ (rf v0 36) ((σ v0 40)).toNatClampNeg) = v6_103 then
  (gd (inR (σ v0 40) (ln (rf v0 37))) <|
  if (σ (rf v0 37) ((σ v0 40)).toNatClampNeg) = v3 then
  (gd (inR v4 (ln (rf v0 6))) <|
  if (σ (rf v0 6) (v4).toNatClampNeg) = (σ v0 39) then
  (lt (0 : Int32) fun v7_173 =>
  lq1 (fX11_proves_175 v0 v4) FU v7_173 σ)
  else
  (some ((σ v0 39), σ)))
  else
  (bd (fX11_finds v0 (-100004 : Int32) σ) fun r_149 s_149 =>
  some (r_149, s_149)))
  else
  (bd (fX11_finds v0 (-100004 : Int32) σ) fun r_149 s_149 =>
  some (r_149, s_149)))
  else
  (bd (fX11_finds v0 (-100004 : Int32) σ) fun r_149 s_149 =>
  some (r_149, s_149))
def fX11_proves_91 (v0 : Nat) (v1 : Int32) (v2 : Int32) (v3 : Int32) (v4 : Int32) (w0 : Int32) (σ : Sg) : Option (Int32 × Sg) :=
  lt w0 fun v5_91 =>
  if v2 ≤ v1 then
  (fX11_proves_103 v0 v3 v4 v5_91 v1 σ)
  else
  (fX11_proves_103 v0 v3 v4 v5_91 v2 σ)
def fX11_proves (v0 : Nat) (v1 : Int32) (v2 : Int32) (v3 : Int32) (v4 : Int32) (σ : Sg) : Option (Int32 × Sg) :=
  bd (fX11_isTrain v0 v1 σ) fun r_2 s_2 =>
  if r_2 = 0 then
  (bd (fX11_finds v0 (-100001 : Int32) s_2) fun r_35 s_35 =>
  some (r_35, s_35))
  else
  (bd (fX11_isTrain v0 v2 s_2) fun r_10 s_10 =>
  if r_10 = 0 then
  (bd (fX11_finds v0 (-100001 : Int32) s_10) fun r_35 s_35 =>
  some (r_35, s_35))
  else
  (bd (fX11_isStation v0 v3 s_10) fun r_18 s_18 =>
  if r_18 = 0 then
  (bd (fX11_finds v0 (-100001 : Int32) s_18) fun r_35 s_35 =>
  some (r_35, s_35))
  else
  (bd (fX11_isSheet v4 s_18) fun r_26 s_26 =>
  if r_26 = 0 then
  (bd (fX11_finds v0 (-100001 : Int32) s_26) fun r_35 s_35 =>
  some (r_35, s_35))
  else
  (bd (fX11_wayOf v0 v1 s_26) fun r_41 s_41 =>
  bd (fX11_wayOf v0 v2 s_41) fun r_46 s_46 =>
  if r_41 = r_46 then
  (bd (fX11_finds v0 (-100003 : Int32) s_46) fun r_55 s_55 =>
  some (r_55, s_55))
  else
  (gd (inR v4 (ln (rf v0 5))) <|
  if (s_46 (rf v0 5) (v4).toNatClampNeg) = 0 then
  (bd (fX11_finds v0 (-100002 : Int32) s_46) fun r_73 s_73 =>
  some (r_73, s_73))
  else
  (bd (fX11_findMeets v0 s_46) fun r_78 s_78 =>
  if v2 ≤ v1 then
  (fX11_proves_91 v0 v1 v2 v3 v4 v2 s_78)
  else
  (fX11_proves_91 v0 v1 v2 v3 v4 v1 s_78)))))))
def fX11_sheet_85 (v0 : Nat) (v1 : Int32) (k85 : Int32 → Sg → Option (Int32 × Sg)) (v4 : Int32) (σ : Sg) : Option (Int32 × Sg) :=
  if (60 : Int32) ≤ v4 then
  (gd (inR v1 (ln (rf v0 6))) <|
  some ((σ (rf v0 6) (v1).toNatClampNeg), σ))
  else
  (gd (inR (((60 : Int32) * v1) + v4) (ln (rf v0 7))) <|
  lt (wr σ (rf v0 7) ((((60 : Int32) * v1) + v4)).toNatClampNeg (0 : Int32)) fun s_104 =>
  lt (v4 + (1 : Int32)) fun v4_105 =>
  k85 v4_105 s_104)
def fX11_sheet_81 (v0 : Nat) (v1 : Int32) (w0 : Int32) (w1 : Int32) (w2 : Nat) (σ : Sg) : Option (Int32 × Sg) :=
  gd (inR w1 (ln w2)) <|
  lt (wr σ w2 (w1).toNatClampNeg w0) fun s_81 =>
  lt (0 : Int32) fun v4_83 =>
  lq1 (fX11_sheet_85 v0 v1) FU v4_83 s_81
def fX11_sheet_36 (v0 : Nat) (v1 : Int32) (v2 : Int32) (v3 : Int32) (σ : Sg) : Option (Int32 × Sg) :=
  if 0 ≤ v3 then
  (if v3 ≤ (60 : Int32) then
  (gd (inR v1 (ln (rf v0 5))) <|
  lt (wr σ (rf v0 5) (v1).toNatClampNeg v2) fun s_66 =>
  if v2 = 0 then
  (fX11_sheet_81 v0 v1 (0 : Int32) v1 (rf v0 6) s_66)
  else
  (fX11_sheet_81 v0 v1 v3 v1 (rf v0 6) s_66))
  else
  (bd (fX11_finds v0 (-100001 : Int32) σ) fun r_56 s_56 =>
  some (r_56, s_56)))
  else
  (bd (fX11_finds v0 (-100003 : Int32) σ) fun r_43 s_43 =>
  some (r_43, s_43))
def fX11_sheet (v0 : Nat) (v1 : Int32) (v2 : Int32) (v3 : Int32) (σ : Sg) : Option (Int32 × Sg) :=
  bd (fX11_isSheet v1 σ) fun r_1 s_1 =>
  if r_1 = 0 then
  (bd (fX11_finds v0 (-100001 : Int32) s_1) fun r_32 s_32 =>
  some (r_32, s_32))
  else
  (if v2 = 0 then
  (fX11_sheet_36 v0 v1 v2 v3 s_1)
  else
  (if v2 = (8 : Int32) then
  (fX11_sheet_36 v0 v1 v2 v3 s_1)
  else
  (if v2 = (16 : Int32) then
  (fX11_sheet_36 v0 v1 v2 v3 s_1)
  else
  (if v2 = (32 : Int32) then
  (fX11_sheet_36 v0 v1 v2 v3 s_1)
  else
  (bd (fX11_finds v0 (-100001 : Int32) s_1) fun r_32 s_32 =>
  some (r_32, s_32))))))
def fX11_put (v0 : Nat) (v1 : Int32) (v2 : Int32) (v3 : Int32) (σ : Sg) : Option (Int32 × Sg) :=
  bd (fX11_isSheet v1 σ) fun r_1 s_1 =>
  if r_1 = 0 then
  (bd (fX11_finds v0 (-100001 : Int32) s_1) fun r_10 s_10 =>
  some (r_10, s_10))
  else
  (gd (inR v1 (ln (rf v0 5))) <|
  if (s_1 (rf v0 5) (v1).toNatClampNeg) = 0 then
  (bd (fX11_finds v0 (-100002 : Int32) s_1) fun r_27 s_27 =>
  some (r_27, s_27))
  else
  (gd (inR v1 (ln (rf v0 6))) <|
  bd (fX11_in v2 (0 : Int32) ((s_1 (rf v0 6) (v1).toNatClampNeg) - (1 : Int32)) s_1) fun r_41 s_41 =>
  if r_41 = 0 then
  (bd (fX11_finds v0 (-100001 : Int32) s_41) fun r_50 s_50 =>
  some (r_50, s_50))
  else
  (gd (inR v1 (ln (rf v0 5))) <|
  bd (fX11_narrowed (s_41 (rf v0 5) (v1).toNatClampNeg) v3 s_41) fun r_71 s_71 =>
  gd (inR (((60 : Int32) * v1) + v2) (ln (rf v0 7))) <|
  lt (wr s_71 (rf v0 7) ((((60 : Int32) * v1) + v2)).toNatClampNeg r_71) fun s_74 =>
  some ((0 : Int32), s_74))))
def fX11_copy_165 (v0 : Nat) (v3 : Int32) (v4 : Int32) (v5 : Int32) (k165 : Int32 → Sg → Option (Int32 × Sg)) (v6 : Int32) (σ : Sg) : Option (Int32 × Sg) :=
  if v5 ≤ v6 then
  (some (v5, σ))
  else
  (gd (inR v6 (ln (rf v0 8))) <|
  gd (inR ((((60 : Int32) * v3) + v4) + v6) (ln (rf v0 7))) <|
  lt (wr σ (rf v0 7) (((((60 : Int32) * v3) + v4) + v6)).toNatClampNeg (σ (rf v0 8) (v6).toNatClampNeg)) fun s_193 =>
  lt (v6 + (1 : Int32)) fun v6_194 =>
  k165 v6_194 s_193)
def fX11_copy_128 (v0 : Nat) (v1 : Int32) (v2 : Int32) (v3 : Int32) (v4 : Int32) (v5 : Int32) (k128 : Int32 → Sg → Option (Int32 × Sg)) (v6 : Int32) (σ : Sg) : Option (Int32 × Sg) :=
  if v5 ≤ v6 then
  (lt (0 : Int32) fun v6_163 =>
  lq1 (fX11_copy_165 v0 v3 v4 v5) FU v6_163 σ)
  else
  (gd (inR ((((60 : Int32) * v1) + v2) + v6) (ln (rf v0 7))) <|
  gd (inR v6 (ln (rf v0 8))) <|
  lt (wr σ (rf v0 8) (v6).toNatClampNeg (σ (rf v0 7) (((((60 : Int32) * v1) + v2) + v6)).toNatClampNeg)) fun s_155 =>
  lt (v6 + (1 : Int32)) fun v6_156 =>
  k128 v6_156 s_155)
def fX11_copy (v0 : Nat) (v1 : Int32) (v2 : Int32) (v3 : Int32) (v4 : Int32) (v5 : Int32) (σ : Sg) : Option (Int32 × Sg) :=
  bd (fX11_isSheet v1 σ) fun r_1 s_1 =>
  if r_1 = 0 then
  (bd (fX11_finds v0 (-100001 : Int32) s_1) fun r_17 s_17 =>
  some (r_17, s_17))
  else
  (bd (fX11_isSheet v3 s_1) fun r_8 s_8 =>
  if r_8 = 0 then
  (bd (fX11_finds v0 (-100001 : Int32) s_8) fun r_17 s_17 =>
  some (r_17, s_17))
  else
  (gd (inR v1 (ln (rf v0 5))) <|
  if (s_8 (rf v0 5) (v1).toNatClampNeg) = 0 then
  (bd (fX11_finds v0 (-100002 : Int32) s_8) fun r_43 s_43 =>
  some (r_43, s_43))
  else
  (gd (inR v3 (ln (rf v0 5))) <|
  if (s_8 (rf v0 5) (v3).toNatClampNeg) = 0 then
  (bd (fX11_finds v0 (-100002 : Int32) s_8) fun r_43 s_43 =>
  some (r_43, s_43))
  else
  (gd (inR v1 (ln (rf v0 5))) <|
  gd (inR v3 (ln (rf v0 5))) <|
  if (s_8 (rf v0 5) (v1).toNatClampNeg) = (s_8 (rf v0 5) (v3).toNatClampNeg) then
  (if v2 < 0 then
  (bd (fX11_finds v0 (-100001 : Int32) s_8) fun r_121 s_121 =>
  some (r_121, s_121))
  else
  (if v4 < 0 then
  (bd (fX11_finds v0 (-100001 : Int32) s_8) fun r_121 s_121 =>
  some (r_121, s_121))
  else
  (if v5 < 0 then
  (bd (fX11_finds v0 (-100001 : Int32) s_8) fun r_121 s_121 =>
  some (r_121, s_121))
  else
  (gd (inR v1 (ln (rf v0 6))) <|
  if 0 < (lg_cmp ((v2).toInt64 + (v5).toInt64) ((s_8 (rf v0 6) (v1).toNatClampNeg)).toInt64) then
  (bd (fX11_finds v0 (-100001 : Int32) s_8) fun r_121 s_121 =>
  some (r_121, s_121))
  else
  (gd (inR v3 (ln (rf v0 6))) <|
  if (lg_cmp ((v4).toInt64 + (v5).toInt64) ((s_8 (rf v0 6) (v3).toNatClampNeg)).toInt64) ≤ 0 then
  (lt (0 : Int32) fun v6_126 =>
  lq1 (fX11_copy_128 v0 v1 v2 v3 v4 v5) FU v6_126 s_8)
  else
  (bd (fX11_finds v0 (-100001 : Int32) s_8) fun r_121 s_121 =>
  some (r_121, s_121)))))))
  else
  (bd (fX11_finds v0 (-100004 : Int32) s_8) fun r_65 s_65 =>
  some (r_65, s_65))))))
def fX11_grades_112 (v0 : Nat) (v1 : Int32) (v2 : Int32) (k112 : Int32 → Sg → Option (Int32 × Sg)) (v3 : Int32) (σ : Sg) : Option (Int32 × Sg) :=
  if v2 ≤ v3 then
  (some (v2, σ))
  else
  (gd (inR (((60 : Int32) * v1) + v3) (ln (rf v0 7))) <|
  gd (inR ((8 : Int32) + v3) (ln (rf v0 0))) <|
  lt (wr σ (rf v0 0) (((8 : Int32) + v3)).toNatClampNeg (σ (rf v0 7) ((((60 : Int32) * v1) + v3)).toNatClampNeg)) fun s_136 =>
  lt (v3 + (1 : Int32)) fun v3_137 =>
  k112 v3_137 s_136)
def fX11_grades_68 (v0 : Nat) (v1 : Int32) (v2 : Int32) (k68 : Int32 → Sg → Option (Int32 × Sg)) (v3 : Int32) (σ : Sg) : Option (Int32 × Sg) :=
  if v2 ≤ v3 then
  (bd (fX11_keep v0 σ) fun r_107 s_107 =>
  lt (0 : Int32) fun v3_111 =>
  lq1 (fX11_grades_112 v0 v1 v2) FU v3_111 s_107)
  else
  (gd (inR (((60 : Int32) * v1) + v3) (ln (rf v0 7))) <|
  bd (fX11_in (σ (rf v0 7) ((((60 : Int32) * v1) + v3)).toNatClampNeg) (1 : Int32) (30 : Int32) σ) fun r_87 s_87 =>
  if r_87 = 0 then
  (bd (fX11_finds v0 (-100001 : Int32) s_87) fun r_96 s_96 =>
  some (r_96, s_96))
  else
  (lt (v3 + (1 : Int32)) fun v3_100 =>
  k68 v3_100 s_87))
def fX11_grades_65 (v0 : Nat) (v1 : Int32) (w0 : Int32) (σ : Sg) : Option (Int32 × Sg) :=
  lt w0 fun v2_65 =>
  lt (0 : Int32) fun v3_67 =>
  lq1 (fX11_grades_68 v0 v1 v2_65) FU v3_67 σ
def fX11_grades (v0 : Nat) (v1 : Int32) (σ : Sg) : Option (Int32 × Sg) :=
  bd (fX11_isSheet v1 σ) fun r_1 s_1 =>
  if r_1 = 0 then
  (bd (fX11_finds v0 (-100001 : Int32) s_1) fun r_10 s_10 =>
  some (r_10, s_10))
  else
  (gd (inR v1 (ln (rf v0 5))) <|
  if (s_1 (rf v0 5) (v1).toNatClampNeg) = 0 then
  (bd (fX11_finds v0 (-100002 : Int32) s_1) fun r_27 s_27 =>
  some (r_27, s_27))
  else
  (gd (inR v1 (ln (rf v0 6))) <|
  gd (inR (0 : Int32) (ln (rf v0 0))) <|
  if ((s_1 (rf v0 0) ((0 : Int32)).toNatClampNeg) - (1 : Int32)) ≤ (s_1 (rf v0 6) (v1).toNatClampNeg) then
  (gd (inR (0 : Int32) (ln (rf v0 0))) <|
  fX11_grades_65 v0 v1 ((s_1 (rf v0 0) ((0 : Int32)).toNatClampNeg) - (1 : Int32)) s_1)
  else
  (gd (inR v1 (ln (rf v0 6))) <|
  fX11_grades_65 v0 v1 (s_1 (rf v0 6) (v1).toNatClampNeg) s_1)))
def fX11_all (v0 : Nat) (v1 : Int32) (σ : Sg) : Option (Int32 × Sg) :=
  if v1 = (0 : Int32) then
  (gd (inR (0 : Int32) (ln (rf v0 0))) <|
  some ((σ (rf v0 0) ((0 : Int32)).toNatClampNeg), σ))
  else
  (if v1 = (1 : Int32) then
  (gd (inR (14 : Int32) (ln (rf v0 0))) <|
  some ((σ (rf v0 0) ((14 : Int32)).toNatClampNeg), σ))
  else
  (if v1 = (2 : Int32) then
  (gd (inR (40 : Int32) (ln (rf v0 0))) <|
  some ((σ (rf v0 0) ((40 : Int32)).toNatClampNeg), σ))
  else
  (if v1 = (3 : Int32) then
  (gd (inR (161 : Int32) (ln (rf v0 0))) <|
  some ((σ (rf v0 0) ((161 : Int32)).toNatClampNeg), σ))
  else
  (if v1 = (4 : Int32) then
  (some ((σ v0 4), σ))
  else
  (bd (fX11_finds v0 (-100001 : Int32) σ) fun r_76 s_76 =>
  some (r_76, s_76))))))
