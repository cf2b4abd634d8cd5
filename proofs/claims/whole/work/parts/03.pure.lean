/-- Arrays.fill -/
def zfill (f : Nat → Int32) (n : Nat) (v : Int32) : Nat → Int32 := fun j => if j < n then v else f j
-- RX0 seenBits()I
def fX0_seenBits_4 : Nat → Int32 → Int32 → ST → Option (Int32 × ST)
  | 0, _, _, _ => none
  | n + 1, v1, v2, x => if (gI x 0) ≤ v2 then some (v1, x) else if ixok v2 5 = true then fX0_seenBits_4 n (v1 ||| ((1 : Int32) <<< ((gA x 14 v2.toNatClampNeg) &&& 31))) (v2 + 1) x else none
def fX0_seenBits  (x : ST) : Option (Int32 × ST) := fX0_seenBits_4 200 0 0 x
-- RX0 above(I)J
def fX0_above (v1 : Int32) (x : ST) : Option (Int64 × ST) := if ixok v1 5 = true then some (gB x 17 v1.toNatClampNeg, x) else none
-- RX0 below(I)J
def fX0_below (v1 : Int32) (x : ST) : Option (Int64 × ST) := if ixok v1 5 = true then some (gB x 18 v1.toNatClampNeg, x) else none
-- RX0 rounded(I)I
def fX0_rounded (v1 : Int32) (x : ST) : Option (Int32 × ST) := if ixok v1 5 = true then some (gA x 19 v1.toNatClampNeg, x) else none
-- RX6 count()I
def fX6_count  (x : ST) : Option (Int32 × ST) := some (gI x 9, x)
-- RX6 isDead(I)Z
def fX6_isDead (v1 : Int32) (x : ST) : Option (Int32 × ST) := if ixok v1 5 = true then if zb01 (gA x 30 v1.toNatClampNeg) = true then some (gA x 30 v1.toNatClampNeg, x) else none else none
-- RX9 count()I
def fX9_count  (x : ST) : Option (Int32 × ST) := some (gI x 11, x)
-- RX9 isLost(I)Z
def fX9_isLost (v1 : Int32) (x : ST) : Option (Int32 × ST) := if ixok v1 8 = true then if zb01 (gA x 40 v1.toNatClampNeg) = true then some (gA x 40 v1.toNatClampNeg, x) else none else none
-- RX10 number(II)I
def fX10_number (v1 : Int32) (v2 : Int32) (x : ST) : Option (Int32 × ST) := if ixok ((v1 * 5) + v2) 40 = true then some (gA x 41 ((v1 * 5) + v2).toNatClampNeg, x) else none
-- RX0 takeColumns(LStillStars$Spots;LStillStars$Table;LStillStars$Parts;)V
def fX0_takeColumns_88 (kb14 : Int32 → Int32 → ST → Option (ST)) (kb44 : Int32 → Int32 → Int32 → ST → Option (ST)) (v4 : Int32) (v5 : Int32) (v6 : Int32) (s0 : Int32) (s1 : Int32) (s2 : Int32) (x : ST) : Option (ST) := if ixok s2 40 = true then kb44 v4 v5 (v6 + 1) (sA x 12 s2 (s1 + s0)) else none
def fX0_takeColumns_96 (kb14 : Int32 → Int32 → ST → Option (ST)) (v4 : Int32) (v5 : Int32) (x : ST) : Option (ST) := kb14 v4 (v5 + 1) x
def fX0_takeColumns_44 (kb14 : Int32 → Int32 → ST → Option (ST)) : Nat → Int32 → Int32 → Int32 → ST → Option (ST)
  | 0, _, _, _, _ => none
  | n + 1, v4, v5, v6, x => (fX9_count x).bind fun q7 => if q7.1 ≤ v6 then fX0_takeColumns_96 (kb14) v4 v5 q7.2 else if ixok ((v4 * 8) + v6) 40 = true then (fX9_isLost v6 q7.2).bind fun q11 => if q11.1 = 0 then (fX10_number v6 v5 q11.2).bind fun q14 => fX0_takeColumns_88 (kb14) (fX0_takeColumns_44 kb14 n) v4 v5 v6 q14.1 (gA q7.2 12 ((v4 * 8) + v6).toNatClampNeg) ((v4 * 8) + v6) q14.2 else fX0_takeColumns_88 (kb14) (fX0_takeColumns_44 kb14 n) v4 v5 v6 0 (gA q7.2 12 ((v4 * 8) + v6).toNatClampNeg) ((v4 * 8) + v6) q11.2 else none
def fX0_takeColumns_39 (kb14 : Int32 → Int32 → ST → Option (ST)) (v5 : Int32) (s0 : Int32) (x : ST) : Option (ST) := fX0_takeColumns_44 (kb14) 200 s0 v5 0 x
def fX0_takeColumns_14 : Nat → Int32 → Int32 → ST → Option (ST)
  | 0, _, _, _ => none
  | n + 1, v4, v5, x => (fX6_count x).bind fun q1 => if q1.1 ≤ v5 then some q1.2 else (fX6_isDead v5 q1.2).bind fun q4 => if q4.1 = 0 then fX0_takeColumns_39 (fX0_takeColumns_14 n) v5 v5 q4.2 else fX0_takeColumns_39 (fX0_takeColumns_14 n) v5 v4 q4.2
def fX0_takeColumns  (x : ST) : Option (ST) := fX0_takeColumns_14 200 0 0 (sF x 12 (zfill (gA x 12) 40 0))
-- RX9 slopeOf(I)I
def fX9_slopeOf (v1 : Int32) (x : ST) : Option (Int32 × ST) := if ixok v1 8 = true then if ixok v1 8 = true then some ((gA x 39 v1.toNatClampNeg) - (gA x 37 v1.toNatClampNeg), x) else none else none
-- RX0 takeSlopes(LStillStars$Spots;)V
def fX0_takeSlopes_40 (kb10 : Int32 → ST → Option (ST)) (v2 : Int32) (s0 : Int32) (s1 : Int32) (x : ST) : Option (ST) := if ixok s1 8 = true then kb10 (v2 + 1) (sA x 13 s1 s0) else none
def fX0_takeSlopes_10 : Nat → Int32 → ST → Option (ST)
  | 0, _, _ => none
  | n + 1, v2, x => (fX9_count x).bind fun q1 => if q1.1 ≤ v2 then some q1.2 else (fX9_isLost v2 q1.2).bind fun q4 => if q4.1 = 0 then (fX9_slopeOf v2 q4.2).bind fun q7 => fX0_takeSlopes_40 (fX0_takeSlopes_10 n) v2 q7.1 v2 q7.2 else fX0_takeSlopes_40 (fX0_takeSlopes_10 n) v2 0 v2 q4.2
def fX0_takeSlopes  (x : ST) : Option (ST) := fX0_takeSlopes_10 200 0 (sF x 13 (zfill (gA x 13) 8 0))
-- RX0 commonDivisor(JJ)J
def fX0_commonDivisor_9 : Nat → Int64 → Int64 → Int32 → Option (Int64)
  | 0, _, _, _ => none
  | n + 1, v4, v6, v8 => if 100 ≤ v8 then some v4 else if v6 = 0 then some v4 else if v6 = 0 then none else fX0_commonDivisor_9 n v6 (v4 - v4 / v6 * v6) (v8 + 1)
def fX0_commonDivisor (v0 : Int64) (v2 : Int64) : Option (Int64) := fX0_commonDivisor_9 200 v0 v2 0
-- RX0 nearestWhole(JJ)I
def fX0_nearestWhole_39 (v0 : Int64) (s0 : Int64) (s1 : Int64) : Option (Int32) := if 0 ≤ v0 then some ((if 9999 < (s1 + s0) then 9999 else (s1 + s0)).toInt32) else some (-((if 9999 < (s1 + s0) then 9999 else (s1 + s0)).toInt32))
def fX0_nearestWhole (v0 : Int64) (v2 : Int64) : Option (Int32) := if 0 < v2 then if v2 = 0 then none else if v2 = 0 then none else if ((if 0 < v0 then v0 else -v0) - (if 0 < v0 then v0 else -v0) / v2 * v2) < (v2 - ((if 0 < v0 then v0 else -v0) - (if 0 < v0 then v0 else -v0) / v2 * v2)) then fX0_nearestWhole_39 v0 0 ((if 0 < v0 then v0 else -v0) / v2) else fX0_nearestWhole_39 v0 1 ((if 0 < v0 then v0 else -v0) / v2) else some 0
-- RX0 setBend(IJJ)V
def fX0_setBend_53 (v1 : Int32) (s0 : Int64) (s1 : Int32) (x : ST) : Option (ST) := if ixok s1 5 = true then if ixok v1 5 = true then if ixok v1 5 = true then (fX0_nearestWhole (gB (sB x 18 s1 s0) 17 v1.toNatClampNeg) (gB (sB x 18 s1 s0) 18 v1.toNatClampNeg)).bind fun q11 => if ixok v1 5 = true then some (sA (sB x 18 s1 s0) 19 v1 q11) else none else none else none else none
def fX0_setBend_31 (v1 : Int32) (v4 : Int64) (v6 : Int64) (s0 : Int64) (s1 : Int32) (x : ST) : Option (ST) := if ixok s1 5 = true then if v6 ≤ 0 then fX0_setBend_53 v1 1 v1 (sB x 17 s1 s0) else if v6 = 0 then none else fX0_setBend_53 v1 (v4 / v6) v1 (sB x 17 s1 s0) else none
def fX0_setBend (v1 : Int32) (v2 : Int64) (v4 : Int64) (x : ST) : Option (ST) := (fX0_commonDivisor (if 0 < v2 then v2 else -v2) v4).bind fun q1 => if q1 ≤ 0 then fX0_setBend_31 v1 v4 q1 0 v1 x else if q1 = 0 then none else fX0_setBend_31 v1 v4 q1 (v2 / q1) v1 x
-- RX0 productOf(II)J
def fX0_productOf_5 : Nat → Int32 → Int32 → Int64 → Int32 → ST → Option (Int64 × ST)
  | 0, _, _, _, _, _ => none
  | n + 1, v1, v2, v3, v5, x => if 8 ≤ v5 then some (v3, x) else if ixok ((v1 * 8) + v5) 40 = true then if ixok ((v2 * 8) + v5) 40 = true then fX0_productOf_5 n v1 v2 (v3 + (((gA x 12 ((v1 * 8) + v5).toNatClampNeg) * (gA x 12 ((v2 * 8) + v5).toNatClampNeg)).toInt64)) (v5 + 1) x else none else none
def fX0_productOf (v1 : Int32) (v2 : Int32) (x : ST) : Option (Int64 × ST) := fX0_productOf_5 200 v1 v2 0 0 x
-- RJ6 bitCount(I)I
def fJ6_bitCount_0f7a4 (v0 : Int32) : Option (Int32) := some ((((((((v0 - (((v0.toUInt32 >>> ((1 : Int32).toUInt32 &&& Int32.toUInt32 31)).toInt32) &&& 1431655765)) &&& 858993459) + ((((v0 - (((v0.toUInt32 >>> ((1 : Int32).toUInt32 &&& Int32.toUInt32 31)).toInt32) &&& 1431655765)).toUInt32 >>> ((2 : Int32).toUInt32 &&& Int32.toUInt32 31)).toInt32) &&& 858993459)) + (((((v0 - (((v0.toUInt32 >>> ((1 : Int32).toUInt32 &&& Int32.toUInt32 31)).toInt32) &&& 1431655765)) &&& 858993459) + ((((v0 - (((v0.toUInt32 >>> ((1 : Int32).toUInt32 &&& Int32.toUInt32 31)).toInt32) &&& 1431655765)).toUInt32 >>> ((2 : Int32).toUInt32 &&& Int32.toUInt32 31)).toInt32) &&& 858993459)).toUInt32 >>> ((4 : Int32).toUInt32 &&& Int32.toUInt32 31)).toInt32)) &&& 252645135) + (((((((v0 - (((v0.toUInt32 >>> ((1 : Int32).toUInt32 &&& Int32.toUInt32 31)).toInt32) &&& 1431655765)) &&& 858993459) + ((((v0 - (((v0.toUInt32 >>> ((1 : Int32).toUInt32 &&& Int32.toUInt32 31)).toInt32) &&& 1431655765)).toUInt32 >>> ((2 : Int32).toUInt32 &&& Int32.toUInt32 31)).toInt32) &&& 858993459)) + (((((v0 - (((v0.toUInt32 >>> ((1 : Int32).toUInt32 &&& Int32.toUInt32 31)).toInt32) &&& 1431655765)) &&& 858993459) + ((((v0 - (((v0.toUInt32 >>> ((1 : Int32).toUInt32 &&& Int32.toUInt32 31)).toInt32) &&& 1431655765)).toUInt32 >>> ((2 : Int32).toUInt32 &&& Int32.toUInt32 31)).toInt32) &&& 858993459)).toUInt32 >>> ((4 : Int32).toUInt32 &&& Int32.toUInt32 31)).toInt32)) &&& 252645135).toUInt32 >>> ((8 : Int32).toUInt32 &&& Int32.toUInt32 31)).toInt32)) + ((((((((v0 - (((v0.toUInt32 >>> ((1 : Int32).toUInt32 &&& Int32.toUInt32 31)).toInt32) &&& 1431655765)) &&& 858993459) + ((((v0 - (((v0.toUInt32 >>> ((1 : Int32).toUInt32 &&& Int32.toUInt32 31)).toInt32) &&& 1431655765)).toUInt32 >>> ((2 : Int32).toUInt32 &&& Int32.toUInt32 31)).toInt32) &&& 858993459)) + (((((v0 - (((v0.toUInt32 >>> ((1 : Int32).toUInt32 &&& Int32.toUInt32 31)).toInt32) &&& 1431655765)) &&& 858993459) + ((((v0 - (((v0.toUInt32 >>> ((1 : Int32).toUInt32 &&& Int32.toUInt32 31)).toInt32) &&& 1431655765)).toUInt32 >>> ((2 : Int32).toUInt32 &&& Int32.toUInt32 31)).toInt32) &&& 858993459)).toUInt32 >>> ((4 : Int32).toUInt32 &&& Int32.toUInt32 31)).toInt32)) &&& 252645135) + (((((((v0 - (((v0.toUInt32 >>> ((1 : Int32).toUInt32 &&& Int32.toUInt32 31)).toInt32) &&& 1431655765)) &&& 858993459) + ((((v0 - (((v0.toUInt32 >>> ((1 : Int32).toUInt32 &&& Int32.toUInt32 31)).toInt32) &&& 1431655765)).toUInt32 >>> ((2 : Int32).toUInt32 &&& Int32.toUInt32 31)).toInt32) &&& 858993459)) + (((((v0 - (((v0.toUInt32 >>> ((1 : Int32).toUInt32 &&& Int32.toUInt32 31)).toInt32) &&& 1431655765)) &&& 858993459) + ((((v0 - (((v0.toUInt32 >>> ((1 : Int32).toUInt32 &&& Int32.toUInt32 31)).toInt32) &&& 1431655765)).toUInt32 >>> ((2 : Int32).toUInt32 &&& Int32.toUInt32 31)).toInt32) &&& 858993459)).toUInt32 >>> ((4 : Int32).toUInt32 &&& Int32.toUInt32 31)).toInt32)) &&& 252645135).toUInt32 >>> ((8 : Int32).toUInt32 &&& Int32.toUInt32 31)).toInt32)).toUInt32 >>> ((16 : Int32).toUInt32 &&& Int32.toUInt32 31)).toInt32)) &&& 63)
-- RX0 expand(III)J
def fX0_expand_81 (kb11 : Int32 → Int32 → Int64 → Int32 → Int32 → ST → Option (Int64 × ST)) (v1 : Int32) (v2 : Int32) (v4 : Int64) (v6 : Int32) (v7 : Int32) (x : ST) : Option (Int64 × ST) := kb11 v1 v2 v4 v6 (v7 + (-1)) x
def fX0_expand_79 (kb11 : Int32 → Int32 → Int64 → Int32 → Int32 → ST → Option (Int64 × ST)) (v1 : Int32) (v2 : Int32) (v4 : Int64) (v7 : Int32) (s0 : Int32) (x : ST) : Option (Int64 × ST) := fX0_expand_81 (kb11) v1 v2 v4 s0 v7 x
def fX0_expand_66 (kb11 : Int32 → Int32 → Int64 → Int32 → Int32 → ST → Option (Int64 × ST)) (v1 : Int32) (v2 : Int32) (v6 : Int32) (v7 : Int32) (s0 : Int64) (s1 : Int64) (x : ST) : Option (Int64 × ST) := if v6 = 0 then fX0_expand_79 (kb11) v1 v2 (s1 + s0) v7 1 x else fX0_expand_79 (kb11) v1 v2 (s1 + s0) v7 0 x
def fX0_expand_11 : Nat → Int32 → Int32 → Int64 → Int32 → Int32 → ST → Option (Int64 × ST)
  | 0, _, _, _, _, _, _ => none
  | n + 1, v1, v2, v4, v6, v7, x => if v7 < 0 then some (v4, x) else if (v1 &&& ((1 : Int32) <<< (v7 &&& 31))) = 0 then fX0_expand_81 (fX0_expand_11 n) v1 v2 v4 v6 v7 x else if ixok ((v2 * 6) + v7) 30 = true then if ixok (v1 ^^^ ((1 : Int32) <<< (v7 &&& 31))) 64 = true then if v6 = 0 then fX0_expand_66 (fX0_expand_11 n) v1 v2 v6 v7 ((gB x 15 ((v2 * 6) + v7).toNatClampNeg) * (gB x 16 (v1 ^^^ ((1 : Int32) <<< (v7 &&& 31))).toNatClampNeg)) v4 x else fX0_expand_66 (fX0_expand_11 n) v1 v2 v6 v7 (-((gB x 15 ((v2 * 6) + v7).toNatClampNeg) * (gB x 16 (v1 ^^^ ((1 : Int32) <<< (v7 &&& 31))).toNatClampNeg))) v4 x else none else none
def fX0_expand (v1 : Int32) (v2 : Int32) (v3 : Int32) (x : ST) : Option (Int64 × ST) := fX0_expand_11 200 v1 v2 0 0 (v3 - 1) x
-- RX0 takeMinors(I)V
def fX0_takeMinors_44 (kb9 : Int32 → Int32 → ST → Option (ST)) (v1 : Int32) (v2 : Int32) (s0 : Int64) (s1 : Int32) (x : ST) : Option (ST) := if ixok s1 64 = true then kb9 v1 (v2 + 1) (sB x 16 s1 s0) else none
def fX0_takeMinors_9 : Nat → Int32 → Int32 → ST → Option (ST)
  | 0, _, _, _ => none
  | n + 1, v1, v2, x => if ((1 : Int32) <<< (v1 &&& 31)) ≤ v2 then some x else (fJ6_bitCount_0f7a4 v2).bind fun q3 => if 5 ≤ (q3 - 1) then fX0_takeMinors_44 (fX0_takeMinors_9 n) v1 v2 0 v2 x else (fX0_expand v2 (q3 - 1) v1 x).bind fun q6 => fX0_takeMinors_44 (fX0_takeMinors_9 n) v1 v2 q6.1 v2 q6.2
def fX0_takeMinors (v1 : Int32) (x : ST) : Option (ST) := if ixok 0 64 = true then fX0_takeMinors_9 200 v1 1 (sB x 16 0 1) else none
-- RX0 considerPart(I)V
def fX0_considerPart_68 (x : ST) : Option (ST) := (fX0_takeMinors ((gI x 0) + 1) x).bind fun q8 => if ixok (((1 : Int32) <<< (((gI q8 0) + 1) &&& 31)) - 1) 64 = true then if (gB q8 16 (((1 : Int32) <<< (((gI q8 0) + 1) &&& 31)) - 1).toNatClampNeg) = 0 then some q8 else some (sI q8 0 ((gI q8 0) + 1)) else none
def fX0_considerPart_12 : Nat → Int32 → Int32 → ST → Option (ST)
  | 0, _, _, _ => none
  | n + 1, v1, v2, x => if (gI x 0) < v2 then fX0_considerPart_68 x else if ixok v2 5 = true then (fX0_productOf v1 (gA x 14 v2.toNatClampNeg) x).bind fun q4 => if ixok ((v2 * 6) + (gI q4.2 0)) 30 = true then if ixok (((gI (sB q4.2 15 ((v2 * 6) + (gI q4.2 0)) q4.1) 0) * 6) + v2) 30 = true then fX0_considerPart_12 n v1 (v2 + 1) (sB (sB q4.2 15 ((v2 * 6) + (gI q4.2 0)) q4.1) 15 (((gI (sB q4.2 15 ((v2 * 6) + (gI q4.2 0)) q4.1) 0) * 6) + v2) q4.1) else none else none else none
def fX0_considerPart (v1 : Int32) (x : ST) : Option (ST) := if ixok (gI x 0) 5 = true then fX0_considerPart_12 200 v1 0 (sA x 14 (gI x 0) v1) else none
-- RX0 productWithSlopes(I)J
def fX0_productWithSlopes_5 : Nat → Int32 → Int64 → Int32 → ST → Option (Int64 × ST)
  | 0, _, _, _, _ => none
  | n + 1, v1, v2, v4, x => if 8 ≤ v4 then some (v2, x) else if ixok ((v1 * 8) + v4) 40 = true then if ixok v4 8 = true then fX0_productWithSlopes_5 n v1 (v2 + (((gA x 12 ((v1 * 8) + v4).toNatClampNeg) * (gA x 13 v4.toNatClampNeg)).toInt64)) (v4 + 1) x else none else none
def fX0_productWithSlopes (v1 : Int32) (x : ST) : Option (Int64 × ST) := fX0_productWithSlopes_5 200 v1 0 0 x
-- RX0 solve()V
def fX0_solve_125 (kb73 : Int32 → Int64 → Int32 → ST → Option (ST)) (v1 : Int32) (v2 : Int64) (v4 : Int32) (s0 : Int64) (s1 : Int32) (x : ST) : Option (ST) := (fX0_setBend s1 s0 v2 x).bind fun q14 => kb73 v1 v2 (v4 + 1) q14
def fX0_solve_73 : Nat → Int32 → Int64 → Int32 → ST → Option (ST)
  | 0, _, _, _, _ => none
  | n + 1, v1, v2, v4, x => if (gI x 0) ≤ v4 then some x else if ixok (v1 ^^^ ((1 : Int32) <<< (v4 &&& 31))) 64 = true then if ixok v4 5 = true then if (2 : Int32) = 0 then none else if ((((gI x 0) - 1) - v4) - (((gI x 0) - 1) - v4) / 2 * 2) = 0 then fX0_solve_125 (fX0_solve_73 n) v1 v2 v4 (gB x 16 (v1 ^^^ ((1 : Int32) <<< (v4 &&& 31))).toNatClampNeg) (gA x 14 v4.toNatClampNeg) x else fX0_solve_125 (fX0_solve_73 n) v1 v2 v4 (-(gB x 16 (v1 ^^^ ((1 : Int32) <<< (v4 &&& 31))).toNatClampNeg)) (gA x 14 v4.toNatClampNeg) x else none else none
def fX0_solve_40 (x : ST) : Option (ST) := (fX0_takeMinors ((gI x 0) + 1) x).bind fun q6 => if ixok ((((1 : Int32) <<< (((gI q6 0) + 1) &&& 31)) - 1) >>> ((1 : Int32) &&& 31)) 64 = true then fX0_solve_73 200 (((1 : Int32) <<< (((gI q6 0) + 1) &&& 31)) - 1) (gB q6 16 ((((1 : Int32) <<< (((gI q6 0) + 1) &&& 31)) - 1) >>> ((1 : Int32) &&& 31)).toNatClampNeg) 0 q6 else none
def fX0_solve_2 : Nat → Int32 → ST → Option (ST)
  | 0, _, _ => none
  | n + 1, v1, x => if (gI x 0) ≤ v1 then fX0_solve_40 x else if ixok v1 5 = true then (fX0_productWithSlopes (gA x 14 v1.toNatClampNeg) x).bind fun q3 => if ixok ((v1 * 6) + (gI x 0)) 30 = true then fX0_solve_2 n (v1 + 1) (sB q3.2 15 ((v1 * 6) + (gI x 0)) q3.1) else none else none
def fX0_solve  (x : ST) : Option (ST) := fX0_solve_2 200 0 x
-- RX0 find(LStillStars$Spots;LStillStars$Table;LStillStars$Parts;)V
def fX0_find_52 (kb20 : Int32 → ST → Option (ST)) (v4 : Int32) (x : ST) : Option (ST) := kb20 (v4 + 1) x
def fX0_find_107 (kb65 : Int32 → ST → Option (ST)) (v4 : Int32) (x : ST) : Option (ST) := kb65 (v4 + 1) x
def fX0_find_65 : Nat → Int32 → ST → Option (ST)
  | 0, _, _ => none
  | n + 1, v4, x => (fX6_count x).bind fun q17 => if q17.1 ≤ v4 then some q17.2 else (fX6_isDead v4 q17.2).bind fun q20 => if q20.1 = 0 then fX0_find_107 (fX0_find_65 n) v4 q20.2 else if ixok (v4 - 1) 5 = true then if ixok (v4 - 1) 5 = true then (fX0_setBend v4 (gB q20.2 17 (v4 - 1).toNatClampNeg) (gB q20.2 18 (v4 - 1).toNatClampNeg) q20.2).bind fun q25 => fX0_find_107 (fX0_find_65 n) v4 q25 else none else none
def fX0_find_58 (x : ST) : Option (ST) := (fX0_solve x).bind fun q15 => fX0_find_65 200 1 q15
def fX0_find_20 : Nat → Int32 → ST → Option (ST)
  | 0, _, _ => none
  | n + 1, v4, x => (fX6_count x).bind fun q5 => if q5.1 ≤ v4 then fX0_find_58 q5.2 else (fX0_setBend v4 0 1 q5.2).bind fun q8 => (fX6_isDead v4 q8).bind fun q10 => if q10.1 = 0 then (fX0_considerPart v4 q10.2).bind fun q13 => fX0_find_52 (fX0_find_20 n) v4 q13 else fX0_find_52 (fX0_find_20 n) v4 q10.2
def fX0_find  (x : ST) : Option (ST) := (fX0_takeColumns x).bind fun q1 => (fX0_takeSlopes q1).bind fun q3 => fX0_find_20 200 0 (sI q3 0 0)
-- RX1 renew()V
def fX1_renew  (x : ST) : Option (ST) := some (sI (sI x 1 0) 2 0)
-- RX1 note(III)V
def fX1_note (v1 : Int32) (v2 : Int32) (v3 : Int32) (x : ST) : Option (ST) := if ixok ((gI x 2) * 3) 90 = true then if ixok (((gI (sA x 20 ((gI x 2) * 3) v1) 2) * 3) + 1) 90 = true then if ixok (((gI (sA (sA x 20 ((gI x 2) * 3) v1) 20 (((gI (sA x 20 ((gI x 2) * 3) v1) 2) * 3) + 1) v2) 2) * 3) + 2) 90 = true then if (30 : Int32) = 0 then none else (some (sI (sA (sA (sA x 20 ((gI x 2) * 3) v1) 20 (((gI (sA x 20 ((gI x 2) * 3) v1) 2) * 3) + 1) v2) 20 (((gI (sA (sA x 20 ((gI x 2) * 3) v1) 20 (((gI (sA x 20 ((gI x 2) * 3) v1) 2) * 3) + 1) v2) 2) * 3) + 2) v3) 2 (((gI (sA (sA (sA x 20 ((gI x 2) * 3) v1) 20 (((gI (sA x 20 ((gI x 2) * 3) v1) 2) * 3) + 1) v2) 20 (((gI (sA (sA x 20 ((gI x 2) * 3) v1) 20 (((gI (sA x 20 ((gI x 2) * 3) v1) 2) * 3) + 1) v2) 2) * 3) + 2) v3) 2) + 1) - ((gI (sA (sA (sA x 20 ((gI x 2) * 3) v1) 20 (((gI (sA x 20 ((gI x 2) * 3) v1) 2) * 3) + 1) v2) 20 (((gI (sA (sA x 20 ((gI x 2) * 3) v1) 20 (((gI (sA x 20 ((gI x 2) * 3) v1) 2) * 3) + 1) v2) 2) * 3) + 2) v3) 2) + 1) / 30 * 30))).bind fun x5 => some (sI x5 1 (if 30 < ((gI x5 1) + 1) then 30 else ((gI x5 1) + 1))) else none else none else none
-- RX11 within(III)Z
def fX11_within (v0 : Int32) (v1 : Int32) (v2 : Int32) : Option (Int32) := if v0 < v1 then if zb01 0 = true then some 0 else none else if v2 < v0 then if zb01 0 = true then some 0 else none else if zb01 1 = true then some 1 else none
-- RX1 has(I)Z
def fX1_has (v1 : Int32) (x : ST) : Option (Int32 × ST) := (fX11_within v1 0 ((gI x 1) - 1)).bind fun q1 => if zb01 q1 = true then some (q1, x) else none
-- RJ9 floorMod(II)I
def fJ9_floorMod_7cf53 (v0 : Int32) (v1 : Int32) : Option (Int32) := if v1 = 0 then none else if 0 ≤ (v0 ^^^ v1) then some (v0 - v0 / v1 * v1) else if (v0 - v0 / v1 * v1) = 0 then some (v0 - v0 / v1 * v1) else some ((v0 - v0 / v1 * v1) + v1)
-- RX1 read(II)I
def fX1_read (v1 : Int32) (v2 : Int32) (x : ST) : Option (Int32 × ST) := (fJ9_floorMod_7cf53 (((gI x 2) - 1) - v1) 30).bind fun q1 => if ixok ((q1 * 3) + v2) 90 = true then some (gA x 20 ((q1 * 3) + v2).toNatClampNeg, x) else none
-- RX2 wish(II)V
def fX2_wish (v1 : Int32) (v2 : Int32) (x : ST) : Option (ST) := if ixok v1 5 = true then some (sA x 21 v1 v2) else none
-- RX2 unitsOf(I)I
def fX2_unitsOf (v1 : Int32) (x : ST) : Option (Int32 × ST) := if ixok v1 5 = true then some (gA x 24 v1.toNatClampNeg, x) else none
-- RX2 squares()J
def fX2_squares  (x : ST) : Option (Int64 × ST) := some (gL x 0, x)
-- RX11 held(III)I
def fX11_held (v0 : Int32) (v1 : Int32) (v2 : Int32) : Option (Int32) := some (if v1 < (if v0 < v2 then v0 else v2) then (if v0 < v2 then v0 else v2) else v1)
-- RX2 behind(IILStillStars$Parts;)I
def fX2_behind (v1 : Int32) (v2 : Int32) (x : ST) : Option (Int32 × ST) := (fX6_isDead v1 x).bind fun q1 => if q1.1 = 0 then if ixok v1 5 = true then (fX11_held (gA q1.2 23 v1.toNatClampNeg) (if (-(gI q1.2 3)) < (v2 - (gI q1.2 4)) then (v2 - (gI q1.2 4)) else (-(gI q1.2 3))) (if (v2 + (gI q1.2 4)) < (gI q1.2 3) then (v2 + (gI q1.2 4)) else (gI q1.2 3))).bind fun q5 => some (q5, q1.2) else none else some (v2, q1.2)
-- RX2 place(II)I
def fX2_place (v0 : Int32) (v1 : Int32) : Option (Int32) := some (((v0 * 121) + 60) + v1)
-- RX2 weigh(ILStillStars$Parts;)V
def fX2_weigh_129 (kb17 : Int32 → Int32 → ST → Option (ST)) (v1 : Int32) (v3 : Int32) (x : ST) : Option (ST) := kb17 v1 (v3 + 1) x
def fX2_weigh_73 (kb17 : Int32 → Int32 → ST → Option (ST)) (v1 : Int32) (v3 : Int32) (v4 : Int64) (s0 : Int64) (x : ST) : Option (ST) := (fX2_place v1 v3).bind fun q12 => if ixok q12 605 = true then (fX2_place v1 v3).bind fun q15 => if ixok q15 605 = true then if ixok v1 5 = true then (fX2_place v1 (gA (sB x 22 q12 ((v4 * v4) + s0)) 23 v1.toNatClampNeg)).bind fun q19 => if ixok q19 605 = true then if (gB (sB x 22 q12 ((v4 * v4) + s0)) 22 q19.toNatClampNeg) ≤ (gB (sB x 22 q12 ((v4 * v4) + s0)) 22 q15.toNatClampNeg) then fX2_weigh_129 (kb17) v1 v3 (sB x 22 q12 ((v4 * v4) + s0)) else if ixok v1 5 = true then fX2_weigh_129 (kb17) v1 v3 (sA (sB x 22 q12 ((v4 * v4) + s0)) 23 v1 v3) else none else none else none else none else none
def fX2_weigh_17 : Nat → Int32 → Int32 → ST → Option (ST)
  | 0, _, _, _ => none
  | n + 1, v1, v3, x => if (gI x 3) < v3 then some x else if ixok v1 5 = true then (fX6_count x).bind fun q4 => if q4.1 ≤ (v1 + 1) then fX2_weigh_73 (fX2_weigh_17 n) v1 v3 (v3.toInt64 - ((gA x 21 v1.toNatClampNeg).toInt64)) 0 q4.2 else (fX2_behind (v1 + 1) v3 q4.2).bind fun q7 => (fX2_place (v1 + 1) q7.1).bind fun q9 => if ixok q9 605 = true then fX2_weigh_73 (fX2_weigh_17 n) v1 v3 (v3.toInt64 - ((gA x 21 v1.toNatClampNeg).toInt64)) (gB q7.2 22 q9.toNatClampNeg) q7.2 else none else none
def fX2_weigh (v1 : Int32) (x : ST) : Option (ST) := if ixok v1 5 = true then fX2_weigh_17 200 v1 (-(gI (sA x 23 v1 (-(gI x 3))) 3)) (sA x 23 v1 (-(gI x 3))) else none
-- RX2 find(LStillStars$Parts;II)V
def fX2_find_76 : Nat → Int32 → ST → Option (ST)
  | 0, _, _ => none
  | n + 1, v4, x => (fX6_count x).bind fun q14 => if q14.1 ≤ v4 then some q14.2 else if ixok (v4 - 1) 5 = true then (fX2_behind v4 (gA q14.2 24 (v4 - 1).toNatClampNeg) q14.2).bind fun q18 => if ixok v4 5 = true then fX2_find_76 n (v4 + 1) (sA q18.2 24 v4 q18.1) else none else none
def fX2_find_42 (x : ST) : Option (ST) := if ixok 0 5 = true then if ixok 0 5 = true then if ixok 0 5 = true then (fX2_place 0 (gA (sA x 24 0 (gA x 23 (0 : Int32).toNatClampNeg)) 24 (0 : Int32).toNatClampNeg)).bind fun q11 => if ixok q11 605 = true then fX2_find_76 200 1 (sL (sA x 24 0 (gA x 23 (0 : Int32).toNatClampNeg)) 0 (gB (sA x 24 0 (gA x 23 (0 : Int32).toNatClampNeg)) 22 q11.toNatClampNeg)) else none else none else none else none
def fX2_find_24 : Nat → Int32 → ST → Option (ST)
  | 0, _, _ => none
  | n + 1, v4, x => if v4 < 0 then fX2_find_42 x else (fX2_weigh v4 x).bind fun q6 => fX2_find_24 n (v4 + (-1)) q6
def fX2_find (v2 : Int32) (v3 : Int32) (x : ST) : Option (ST) := (fX11_held v2 0 60).bind fun q1 => (fX6_count (sI (sI x 3 q1) 4 v3)).bind fun q3 => fX2_find_24 200 (q3.1 - 1) q3.2
-- RX3 enter(I)V
def fX3_enter (v1 : Int32) (x : ST) : Option (ST) := some (sI (sI (sI x 5 v1) 7 0) 8 0)
-- RX3 renew()V
def fX3_renew  (x : ST) : Option (ST) := (fX3_enter 0 x).bind fun q1 => some (sI q1 6 0)
-- RX3 now()I
def fX3_now  (x : ST) : Option (Int32 × ST) := some (gI x 5, x)
-- RX3 done()I
def fX3_done  (x : ST) : Option (Int32 × ST) := some (gI x 6, x)
-- RX3 search()Z
def fX3_search  (x : ST) : Option (Int32 × ST) := if (gI (sI x 8 ((gI x 8) + 1)) 7) < 5 then if 20 ≤ (gI (sI x 8 ((gI x 8) + 1)) 8) then (fX3_enter 0 (sI x 8 ((gI x 8) + 1))).bind fun q3 => if zb01 1 = true then some (1, q3) else none else if zb01 0 = true then some (0, sI x 8 ((gI x 8) + 1)) else none else (fX3_enter 2 (sI x 8 ((gI x 8) + 1))).bind fun q7 => if zb01 0 = true then some (0, q7) else none
-- RX3 pass(Z)Z
def fX3_pass_25 (v1 : Int32) (s0 : Int32) (x : ST) : Option (Int32 × ST) := if (gI (sI x 7 s0) 5) = 1 then if (gI (sI x 7 s0) 7) < 3 then if zb01 0 = true then some (0, sI x 7 s0) else none else (fX3_enter 2 (sI x 7 s0)).bind fun q5 => if zb01 0 = true then some (0, q5) else none else if (gI (sI x 7 s0) 5) = 2 then if v1 = 0 then (fX3_enter 3 (sI x 7 s0)).bind fun q11 => if zb01 0 = true then some (0, q11) else none else if zb01 0 = true then some (0, sI x 7 s0) else none else if (gI (sI x 7 s0) 5) = 3 then (fX3_search (sI x 7 s0)).bind fun q15 => if zb01 q15.1 = true then some (q15.1, q15.2) else none else if zb01 0 = true then some (0, sI x 7 s0) else none
def fX3_pass (v1 : Int32) (x : ST) : Option (Int32 × ST) := if v1 = 0 then fX3_pass_25 v1 0 (sI x 6 ((gI x 6) + 1)) else fX3_pass_25 v1 ((gI (sI x 6 ((gI x 6) + 1)) 7) + 1) (sI x 6 ((gI x 6) + 1))
-- RX4 swapCell(III)I
def fX4_swapCell (v1 : Int32) (v2 : Int32) (v3 : Int32) (x : ST) : Option (Int32 × ST) := if ixok ((v1 * 32) + v2) 96 = true then if ixok ((v1 * 32) + v2) 96 = true then some (gA x 25 ((v1 * 32) + v2).toNatClampNeg, sA x 25 ((v1 * 32) + v2) v3) else none else none
-- RX4 swapWind(II)I
def fX4_swapWind (v1 : Int32) (v2 : Int32) (x : ST) : Option (Int32 × ST) := if ixok v1 3 = true then if ixok v1 3 = true then some (gA x 26 v1.toNatClampNeg, sA x 26 v1 v2) else none else none
-- RX4 foretold(II)I
def fX4_foretold_5 : Nat → Int32 → Int32 → Int32 → Int32 → ST → Option (Int32 × ST)
  | 0, _, _, _, _, _ => none
  | n + 1, v1, v2, v3, v4, x => if 3 ≤ v4 then some (v3, x) else if ixok v4 3 = true then (fJ9_floorMod_7cf53 (v1 + ((gA x 26 v4.toNatClampNeg) * v2)) 32).bind fun q3 => if (32 : Int32) = 0 then none else if ixok ((v4 * 32) + ((q3 + 1) - (q3 + 1) / 32 * 32)) 96 = true then if ixok ((v4 * 32) + q3) 96 = true then fX4_foretold_5 n v1 v2 (v3 + ((gA x 25 ((v4 * 32) + ((q3 + 1) - (q3 + 1) / 32 * 32)).toNatClampNeg) - (gA x 25 ((v4 * 32) + q3).toNatClampNeg))) (v4 + 1) x else none else none else none
def fX4_foretold (v1 : Int32) (v2 : Int32) (x : ST) : Option (Int32 × ST) := fX4_foretold_5 200 v1 v2 0 0 x
-- RX5 setTerm(III)V
def fX5_setTerm (v1 : Int32) (v2 : Int32) (v3 : Int32) (x : ST) : Option (ST) := if ixok ((v1 * 5) + v2) 10 = true then some (sA x 27 ((v1 * 5) + v2) v3) else none
-- RX5 lastIsLess(I)Z
def fX5_lastIsLess (v1 : Int32) (x : ST) : Option (Int32 × ST) := if ixok 0 5 = true then if ixok v1 5 = true then if (if 0 < (gB x 28 v1.toNatClampNeg) then (gB x 28 v1.toNatClampNeg) else -(gB x 28 v1.toNatClampNeg)) ≤ (if 0 < (gB x 28 (0 : Int32).toNatClampNeg) then (gB x 28 (0 : Int32).toNatClampNeg) else -(gB x 28 (0 : Int32).toNatClampNeg)) then if zb01 0 = true then some (0, x) else none else if zb01 1 = true then some (1, x) else none else none else none
-- RX5 lower(I)V
def fX5_lower_52 (v1 : Int32) (x : ST) : Option (ST) := if cpok 0 0 v1 5 5 = true then some (sH x 28 (va_cpy (gB x 29) (gB x 28) (0 : Int32).toNatClampNeg (0 : Int32).toNatClampNeg (v1 : Int32).toNatClampNeg)) else none
def fX5_lower_2 : Nat → Int32 → Int32 → ST → Option (ST)
  | 0, _, _, _ => none
  | n + 1, v1, v2, x => if v1 ≤ v2 then fX5_lower_52 v1 x else if ixok v1 5 = true then if ixok (v2 + 1) 5 = true then if ixok 0 5 = true then if ixok ((v1 - 1) - v2) 5 = true then if ixok v2 5 = true then fX5_lower_2 n v1 (v2 + 1) (sB x 29 v2 (((gB x 28 v1.toNatClampNeg) * (gB x 28 (v2 + 1).toNatClampNeg)) - ((gB x 28 (0 : Int32).toNatClampNeg) * (gB x 28 ((v1 - 1) - v2).toNatClampNeg)))) else none else none else none else none else none
def fX5_lower (v1 : Int32) (x : ST) : Option (ST) := fX5_lower_2 200 v1 0 x
-- RX5 zerosWithin(I)Z
def fX5_zerosWithin_88 (x : ST) : Option (Int32 × ST) := if zb01 1 = true then some (1, x) else none
def fX5_zerosWithin_28 (v2 : Int32) (x : ST) : Option (Int32 × ST) := if v2 = 2 then (fX5_lastIsLess 2 x).bind fun q14 => if q14.1 = 0 then if zb01 0 = true then some (0, q14.2) else none else if ixok 1 5 = true then if ixok 2 5 = true then if ixok 0 5 = true then if (if 0 < ((gB q14.2 28 (2 : Int32).toNatClampNeg) + (gB q14.2 28 (0 : Int32).toNatClampNeg)) then ((gB q14.2 28 (2 : Int32).toNatClampNeg) + (gB q14.2 28 (0 : Int32).toNatClampNeg)) else -((gB q14.2 28 (2 : Int32).toNatClampNeg) + (gB q14.2 28 (0 : Int32).toNatClampNeg))) ≤ (if 0 < (gB q14.2 28 (1 : Int32).toNatClampNeg) then (gB q14.2 28 (1 : Int32).toNatClampNeg) else -(gB q14.2 28 (1 : Int32).toNatClampNeg)) then if zb01 0 = true then some (0, q14.2) else none else if zb01 1 = true then some (1, q14.2) else none else none else none else none else if v2 = 0 then fX5_zerosWithin_88 x else (fX5_lastIsLess v2 x).bind fun q10 => if q10.1 = 0 then if zb01 0 = true then some (0, q10.2) else none else fX5_zerosWithin_88 q10.2
def fX5_zerosWithin_2 : Nat → Int32 → ST → Option (Int32 × ST)
  | 0, _, _ => none
  | n + 1, v2, x => if v2 ≤ 2 then fX5_zerosWithin_28 v2 x else (fX5_lastIsLess v2 x).bind fun q2 => if q2.1 = 0 then if zb01 0 = true then some (0, q2.2) else none else (fX5_lower v2 q2.2).bind fun q5 => fX5_zerosWithin_2 n (v2 + (-1)) q5
def fX5_zerosWithin (v1 : Int32) (x : ST) : Option (Int32 × ST) := fX5_zerosWithin_2 200 v1 x
-- RX5 isSteady(I)Z
def fX5_isSteady_66 (v2 : Int32) (x : ST) : Option (Int32 × ST) := if v2 < 0 then if zb01 0 = true then some (0, x) else none else (fX5_zerosWithin v2 x).bind fun q10 => if q10.1 = 0 then if zb01 0 = true then some (0, q10.2) else none else if zb01 1 = true then some (1, q10.2) else none
def fX5_isSteady_45 : Nat → Int32 → ST → Option (Int32 × ST)
  | 0, _, _ => none
  | n + 1, v2, x => if v2 < 0 then fX5_isSteady_66 v2 x else if ixok v2 5 = true then if (gB x 28 v2.toNatClampNeg) = 0 then fX5_isSteady_45 n (v2 + (-1)) x else fX5_isSteady_66 v2 x else none
def fX5_isSteady_43 (x : ST) : Option (Int32 × ST) := fX5_isSteady_45 200 4 x
def fX5_isSteady_2 : Nat → Int32 → Int32 → ST → Option (Int32 × ST)
  | 0, _, _, _ => none
  | n + 1, v1, v2, x => if 5 ≤ v2 then fX5_isSteady_43 x else if ixok v2 10 = true then if ixok (5 + v2) 10 = true then if ixok v2 5 = true then fX5_isSteady_2 n v1 (v2 + 1) (sB x 28 v2 ((100 * ((gA x 27 v2.toNatClampNeg).toInt64)) + (v1.toInt64 * ((gA x 27 (5 + v2).toNatClampNeg).toInt64)))) else none else none else none
def fX5_isSteady (v1 : Int32) (x : ST) : Option (Int32 × ST) := fX5_isSteady_2 200 v1 0 x
-- RX6 level()V
def fX6_level  (x : ST) : Option (ST) := some (sF x 31 (zfill (gA x 31) 5 0))
-- RX6 renew(I)V
def fX6_renew_30 (x : ST) : Option (ST) := (fX6_level x).bind fun q3 => some q3
def fX6_renew_12 : Nat → Int32 → ST → Option (ST)
  | 0, _, _ => none
  | n + 1, v2, x => if 5 ≤ v2 then fX6_renew_30 x else if ixok v2 5 = true then fX6_renew_12 n (v2 + 1) (sA x 30 v2 (vp_nar .boolean 0)) else none
def fX6_renew (v1 : Int32) (x : ST) : Option (ST) := fX6_renew_12 200 0 (sI (sI x 9 v1) 10 0)
-- RX6 tip()I
def fX6_tip  (x : ST) : Option (Int32 × ST) := some (gI x 10, x)
-- RX6 swapDead(IZ)Z
def fX6_swapDead (v1 : Int32) (v2 : Int32) (x : ST) : Option (Int32 × ST) := if ixok v1 5 = true then if ixok v1 5 = true then if zb01 (gA x 30 v1.toNatClampNeg) = true then some (gA x 30 v1.toNatClampNeg, sA x 30 v1 (vp_nar .boolean v2)) else none else none else none
-- RX6 unitsOf(I)I
def fX6_unitsOf (v1 : Int32) (x : ST) : Option (Int32 × ST) := if ixok v1 5 = true then some (gA x 31 v1.toNatClampNeg, x) else none
-- RX6 swapUnits(II)I
def fX6_swapUnits (v1 : Int32) (v2 : Int32) (x : ST) : Option (Int32 × ST) := if ixok v1 5 = true then if ixok v1 5 = true then some (gA x 31 v1.toNatClampNeg, sA x 31 v1 v2) else none else none
-- RX6 sum()I
def fX6_sum_4 : Nat → Int32 → Int32 → ST → Option (Int32 × ST)
  | 0, _, _, _ => none
  | n + 1, v1, v2, x => if (gI x 9) ≤ v2 then some (v1, x) else if ixok v2 5 = true then fX6_sum_4 n (v1 + (gA x 31 v2.toNatClampNeg)) (v2 + 1) x else none
def fX6_sum  (x : ST) : Option (Int32 × ST) := fX6_sum_4 200 0 0 x
-- RX11 cut(II)I
def fX11_cut (v0 : Int32) (v1 : Int32) : Option (Int32) := if v1 ≤ 0 then some 0 else if v1 = 0 then none else some (v0 / v1)
-- RX6 giveToTip()I
def fX6_giveToTip_38 (v1 : Int32) (x : ST) : Option (Int32 × ST) := some (v1, sI x 10 ((gI x 10) + v1))
def fX6_giveToTip_14 : Nat → Int32 → Int32 → ST → Option (Int32 × ST)
  | 0, _, _, _ => none
  | n + 1, v1, v2, x => if (gI x 9) ≤ v2 then fX6_giveToTip_38 v1 x else if ixok v2 5 = true then if ixok v2 5 = true then fX6_giveToTip_14 n v1 (v2 + 1) (sA x 31 v2 ((gA x 31 v2.toNatClampNeg) - v1)) else none else none
def fX6_giveToTip  (x : ST) : Option (Int32 × ST) := (fX6_sum x).bind fun q1 => (fX11_cut q1.1 (gI q1.2 9)).bind fun q3 => fX6_giveToTip_14 200 q3 0 q1.2
-- RX7 takes(II)Z
def fX7_takes (v1 : Int32) (v2 : Int32) (x : ST) : Option (Int32 × ST) := (fX11_within v1 0 6).bind fun q1 => if q1 = 0 then if zb01 0 = true then some (0, x) else none else if ixok v1 7 = true then if ixok v1 7 = true then (fX11_within v2 (zlow v1.toNatClampNeg) (zhigh v1.toNatClampNeg)).bind fun q11 => if q11 = 0 then if zb01 0 = true then some (0, x) else none else if zb01 1 = true then some (1, x) else none else none else none
-- RX7 swap(II)I
def fX7_swap (v1 : Int32) (v2 : Int32) (x : ST) : Option (Int32 × ST) := if ixok v1 7 = true then if ixok v1 7 = true then some (gA x 32 v1.toNatClampNeg, sA x 32 v1 v2) else none else none
-- RX7 get(I)I
def fX7_get (v1 : Int32) (x : ST) : Option (Int32 × ST) := if ixok v1 7 = true then some (gA x 32 v1.toNatClampNeg, x) else none
-- RX8 holds(I)Z
def fX8_holds (v1 : Int32) (x : ST) : Option (Int32 × ST) := if ixok v1 4 = true then if (gA x 34 v1.toNatClampNeg) = (-1) then if zb01 0 = true then some (0, x) else none else if zb01 1 = true then some (1, x) else none else none
-- RX8 lay(III)V
def fX8_lay_17 : Nat → Int32 → Int32 → Int32 → ST → Option (ST)
  | 0, _, _, _, _ => none
  | n + 1, v1, v3, v4, x => if v3 ≤ v4 then some x else if ixok ((v1 * 40) + v4) 160 = true then fX8_lay_17 n v1 v3 (v4 + 1) (sA x 35 ((v1 * 40) + v4) 0) else none
def fX8_lay (v1 : Int32) (v2 : Int32) (v3 : Int32) (x : ST) : Option (ST) := if ixok v1 4 = true then if ixok v1 4 = true then fX8_lay_17 200 v1 v3 0 (sA (sA x 33 v1 v2) 34 v1 v3) else none else none
-- RX8 takeAway(I)I
def fX8_takeAway (v1 : Int32) (x : ST) : Option (Int32 × ST) := if ixok v1 4 = true then if ixok v1 4 = true then some (gA x 34 v1.toNatClampNeg, sA x 34 v1 (-1)) else none else none
-- RX11 isSheet(I)Z
def fX11_isSheet (v0 : Int32) : Option (Int32) := (fX11_within v0 0 3).bind fun q1 => if zb01 q1 = true then some q1 else none
-- RX11 isLane(I)Z
def fX11_isLane (v0 : Int32) : Option (Int32) := (fX11_within v0 0 2).bind fun q1 => if zb01 q1 = true then some q1 else none
-- RX8 refusal(IIII)I
def fX8_refusal_57 (x : ST) : Option (Int32 × ST) := some ((-13), x)
def fX8_refusal (v1 : Int32) (v2 : Int32) (v3 : Int32) (v4 : Int32) (x : ST) : Option (Int32 × ST) := (fX11_isSheet v1).bind fun q1 => if q1 = 0 then some ((-1), x) else (fX11_isLane v2).bind fun q4 => if q4 = 0 then some ((-1), x) else (fX8_holds v1 x).bind fun q7 => if q7.1 = 0 then some ((-11), q7.2) else if ixok v1 4 = true then if (gA q7.2 33 v1.toNatClampNeg) = v2 then if v3 < 0 then fX8_refusal_57 q7.2 else if ixok v1 4 = true then if v3 ≤ ((gA q7.2 34 v1.toNatClampNeg) - v4) then some (0, q7.2) else fX8_refusal_57 q7.2 else none else some ((-12), q7.2) else none
-- RX8 at(II)I
def fX8_at (v1 : Int32) (v2 : Int32) (x : ST) : Option (Int32 × ST) := if ixok ((v1 * 40) + v2) 160 = true then some (gA x 35 ((v1 * 40) + v2).toNatClampNeg, x) else none
-- RX8 put(III)V
def fX8_put_40 (s0 : Int32) (s1 : Int32) (x : ST) : Option (ST) := if ixok s1 160 = true then some (sA x 35 s1 s0) else none
def fX8_put (v1 : Int32) (v2 : Int32) (v3 : Int32) (x : ST) : Option (ST) := if ixok v1 4 = true then if (gA x 33 v1.toNatClampNeg) = 0 then fX8_put_40 v3.toInt8.toInt32 ((v1 * 40) + v2) x else if (gA x 33 v1.toNatClampNeg) = 1 then fX8_put_40 v3.toInt16.toInt32 ((v1 * 40) + v2) x else fX8_put_40 v3 ((v1 * 40) + v2) x else none
-- RX8 allWithin(IIIII)Z
def fX8_allWithin_3 : Nat → Int32 → Int32 → Int32 → Int32 → Int32 → Int32 → ST → Option (Int32 × ST)
  | 0, _, _, _, _, _, _, _ => none
  | n + 1, v1, v2, v3, v4, v5, v6, x => if v3 ≤ v6 then if zb01 1 = true then some (1, x) else none else (fX8_at v1 (v2 + v6) x).bind fun q3 => (fX11_within q3.1 v4 v5).bind fun q5 => if q5 = 0 then if zb01 0 = true then some (0, q3.2) else none else fX8_allWithin_3 n v1 v2 v3 v4 v5 (v6 + 1) q3.2
def fX8_allWithin (v1 : Int32) (v2 : Int32) (v3 : Int32) (v4 : Int32) (v5 : Int32) (x : ST) : Option (Int32 × ST) := fX8_allWithin_3 200 v1 v2 v3 v4 v5 0 x
-- RX8 apart(III)J
def fX8_apart_6 : Nat → Int32 → Int32 → Int32 → Int64 → Int32 → ST → Option (Int64 × ST)
  | 0, _, _, _, _, _, _ => none
  | n + 1, v1, v2, v3, v4, v6, x => if 32 ≤ v6 then some (v4, x) else (fX8_at v1 v6 x).bind fun q2 => if (32 : Int32) = 0 then none else (fX8_at v2 ((v6 + v3) - (v6 + v3) / 32 * 32) q2.2).bind fun q5 => fX8_apart_6 n v1 v2 v3 (v4 + (if 0 < (q2.1.toInt64 - q5.1.toInt64) then (q2.1.toInt64 - q5.1.toInt64) else -(q2.1.toInt64 - q5.1.toInt64))) (v6 + 1) q5.2
def fX8_apart (v1 : Int32) (v2 : Int32) (v3 : Int32) (x : ST) : Option (Int64 × ST) := fX8_apart_6 200 v1 v2 v3 0 0 x
-- RX9 renew(I)V
def fX9_renew (v1 : Int32) (x : ST) : Option (ST) := some (sF (sF (sI x 11 v1) 36 (zfill (gA (sI x 11 v1) 36) 128 0)) 37 (zfill (gA (sF (sI x 11 v1) 36 (zfill (gA (sI x 11 v1) 36) 128 0)) 37) 8 1500))
-- RX9 swapLight(III)I
def fX9_swapLight (v1 : Int32) (v2 : Int32) (v3 : Int32) (x : ST) : Option (Int32 × ST) := if ixok ((v1 * 16) + v2) 128 = true then if ixok ((v1 * 16) + v2) 128 = true then some (gA x 36 ((v1 * 16) + v2).toNatClampNeg, sA x 36 ((v1 * 16) + v2) v3) else none else none
-- RX9 swapRest(II)I
def fX9_swapRest (v1 : Int32) (v2 : Int32) (x : ST) : Option (Int32 × ST) := if ixok v1 8 = true then if ixok v1 8 = true then some (gA x 37 v1.toNatClampNeg, sA x 37 v1 v2) else none else none
-- RX9 measureOne(II)V
def fX9_measureOne_61 (kb8 : Int32 → Int32 → Int32 → Int32 → Int32 → ST → Option (ST)) (v1 : Int32) (v2 : Int32) (v3 : Int32) (v5 : Int32) (s0 : Int32) (s1 : Int32) (s2 : Int32) (x : ST) : Option (ST) := kb8 v1 v2 v3 (s2 + (s1 * s0)) (v5 + 1) x
def fX9_measureOne_71 (v1 : Int32) (v3 : Int32) (v4 : Int32) (x : ST) : Option (ST) := if ixok v1 8 = true then (fX11_cut (1000 * v4) v3).bind fun q8 => if ixok v1 8 = true then some (sA (sA x 38 v1 v3) 39 v1 q8) else none else none
def fX9_measureOne_8 : Nat → Int32 → Int32 → Int32 → Int32 → Int32 → ST → Option (ST)
  | 0, _, _, _, _, _, _ => none
  | n + 1, v1, v2, v3, v4, v5, x => if 16 ≤ v5 then fX9_measureOne_71 v1 v3 v4 x else if ixok ((v1 * 16) + v5) 128 = true then if (2 : Int32) = 0 then none else if (v1 - v1 / 2 * 2) = 0 then if (4 : Int32) = 0 then none else fX9_measureOne_61 (fX9_measureOne_8 n) v1 v2 (v3 + (if 0 < ((gA x 36 ((v1 * 16) + v5).toNatClampNeg) - v2) then ((gA x 36 ((v1 * 16) + v5).toNatClampNeg) - v2) else 0)) v5 (v5 - v5 / 4 * 4) (if 0 < ((gA x 36 ((v1 * 16) + v5).toNatClampNeg) - v2) then ((gA x 36 ((v1 * 16) + v5).toNatClampNeg) - v2) else 0) v4 x else if (4 : Int32) = 0 then none else fX9_measureOne_61 (fX9_measureOne_8 n) v1 v2 (v3 + (if 0 < ((gA x 36 ((v1 * 16) + v5).toNatClampNeg) - v2) then ((gA x 36 ((v1 * 16) + v5).toNatClampNeg) - v2) else 0)) v5 (v5 / 4) (if 0 < ((gA x 36 ((v1 * 16) + v5).toNatClampNeg) - v2) then ((gA x 36 ((v1 * 16) + v5).toNatClampNeg) - v2) else 0) v4 x else none
def fX9_measureOne (v1 : Int32) (v2 : Int32) (x : ST) : Option (ST) := fX9_measureOne_8 200 v1 v2 0 0 0 x
-- RX9 measure(II)V
def fX9_measure_61 (kb7 : Int32 → Int32 → Int32 → ST → Option (ST)) (v1 : Int32) (v2 : Int32) (v3 : Int32) (s0 : Int32) (s1 : Int32) (x : ST) : Option (ST) := kb7 v1 v2 (v3 + 1) (sI x 12 (s1 + s0))
def fX9_measure_41 (kb7 : Int32 → Int32 → Int32 → ST → Option (ST)) (v1 : Int32) (v2 : Int32) (v3 : Int32) (s0 : Int32) (s1 : Int32) (x : ST) : Option (ST) := if ixok s1 8 = true then if ixok v3 8 = true then if (gA (sA x 40 s1 (vp_nar .boolean s0)) 40 v3.toNatClampNeg) = 0 then fX9_measure_61 (kb7) v1 v2 v3 0 (gI (sA x 40 s1 (vp_nar .boolean s0)) 12) (sA x 40 s1 (vp_nar .boolean s0)) else fX9_measure_61 (kb7) v1 v2 v3 1 (gI (sA x 40 s1 (vp_nar .boolean s0)) 12) (sA x 40 s1 (vp_nar .boolean s0)) else none else none
def fX9_measure_7 : Nat → Int32 → Int32 → Int32 → ST → Option (ST)
  | 0, _, _, _, _ => none
  | n + 1, v1, v2, v3, x => if (gI x 11) ≤ v3 then some x else (fX9_measureOne v3 v1 x).bind fun q2 => if ixok v3 8 = true then if v2 ≤ (gA q2 38 v3.toNatClampNeg) then fX9_measure_41 (fX9_measure_7 n) v1 v2 v3 0 v3 q2 else fX9_measure_41 (fX9_measure_7 n) v1 v2 v3 1 v3 q2 else none
def fX9_measure (v1 : Int32) (v2 : Int32) (x : ST) : Option (ST) := fX9_measure_7 200 v1 v2 0 (sI x 12 0)
-- RX9 lostOnes()I
def fX9_lostOnes  (x : ST) : Option (Int32 × ST) := some (gI x 12, x)
-- RX9 lightOf(I)I
def fX9_lightOf (v1 : Int32) (x : ST) : Option (Int32 × ST) := if ixok v1 8 = true then some (gA x 38 v1.toNatClampNeg, x) else none
-- RX9 middleOf(I)I
def fX9_middleOf (v1 : Int32) (x : ST) : Option (Int32 × ST) := if ixok v1 8 = true then some (gA x 39 v1.toNatClampNeg, x) else none
-- RX10 renew()V
def fX10_renew  (x : ST) : Option (ST) := some (sF (sF x 41 (zfill (gA x 41) 40 0)) 46 (zfill (gA (sF x 41 (zfill (gA x 41) 40 0)) 46) 5 0))
-- RX10 pokesOf(I)I
def fX10_pokesOf (v1 : Int32) (x : ST) : Option (Int32 × ST) := if ixok v1 5 = true then some (gA x 46 v1.toNatClampNeg, x) else none
-- RX10 doubt(II)I
def fX10_doubt (v1 : Int32) (v2 : Int32) (x : ST) : Option (Int32 × ST) := if ixok ((v1 * 5) + v2) 40 = true then if ixok ((v1 * 5) + v2) 40 = true then some ((gA x 43 ((v1 * 5) + v2).toNatClampNeg) - (gA x 44 ((v1 * 5) + v2).toNatClampNeg), x) else none else none
-- RX10 swap(III)I
def fX10_swap (v1 : Int32) (v2 : Int32) (v3 : Int32) (x : ST) : Option (Int32 × ST) := if ixok ((v1 * 5) + v2) 40 = true then if ixok ((v1 * 5) + v2) 40 = true then if ixok v2 5 = true then some (gA x 41 ((v1 * 5) + v2).toNatClampNeg, sA (sA x 41 ((v1 * 5) + v2) v3) 46 v2 0) else none else none else none
-- RX10 begin(II)V
def fX10_begin_24 (v1 : Int32) (v2 : Int32) (s0 : Int32) (s1 : Int32) (x : ST) : Option (ST) := if ixok s1 5 = true then if ixok v1 5 = true then if ixok v1 5 = true then some (sA (sA x 45 s1 (s0 + v2)) 46 v1 ((gA (sA x 45 s1 (s0 + v2)) 46 v1.toNatClampNeg) + 1)) else none else none else none
def fX10_begin (v1 : Int32) (v2 : Int32) (x : ST) : Option (ST) := if ixok v1 5 = true then if (gA x 46 v1.toNatClampNeg) = 0 then fX10_begin_24 v1 v2 0 v1 x else if ixok v1 5 = true then fX10_begin_24 v1 v2 (gA x 45 v1.toNatClampNeg) v1 x else none else none
-- RX10 add(IIII)V
def fX10_add_115 (v2 : Int32) (v5 : Int32) (s0 : Int32) (s1 : Int32) (x : ST) : Option (ST) := if ixok s1 40 = true then if ixok v5 40 = true then if ixok v2 5 = true then (fX11_cut (gA (sA x 44 s1 s0) 42 v5.toNatClampNeg) (gA (sA x 44 s1 s0) 45 v2.toNatClampNeg)).bind fun q16 => (fX11_held q16 (-9) 9).bind fun q18 => if ixok v5 40 = true then some (sA (sA x 44 s1 s0) 41 v5 q18) else none else none else none else none
def fX10_add_86 (v2 : Int32) (v5 : Int32) (v6 : Int32) (v7 : Int32) (s0 : Int32) (s1 : Int32) (x : ST) : Option (ST) := if ixok s1 40 = true then if v7 = 0 then if ixok v5 40 = true then fX10_add_115 v2 v5 (if v6 < (gA (sA x 43 s1 s0) 44 v5.toNatClampNeg) then v6 else (gA (sA x 43 s1 s0) 44 v5.toNatClampNeg)) v5 (sA x 43 s1 s0) else none else fX10_add_115 v2 v5 v6 v5 (sA x 43 s1 s0) else none
def fX10_add_54 (v2 : Int32) (v4 : Int32) (v5 : Int32) (v6 : Int32) (v7 : Int32) (s0 : Int32) (s1 : Int32) (x : ST) : Option (ST) := if ixok s1 40 = true then if v7 = 0 then if ixok v5 40 = true then fX10_add_86 v2 v5 v6 v7 (if (gA (sA x 42 s1 (s0 + v4)) 43 v5.toNatClampNeg) < v6 then v6 else (gA (sA x 42 s1 (s0 + v4)) 43 v5.toNatClampNeg)) v5 (sA x 42 s1 (s0 + v4)) else none else fX10_add_86 v2 v5 v6 v7 v6 v5 (sA x 42 s1 (s0 + v4)) else none
def fX10_add_30 (v2 : Int32) (v4 : Int32) (v5 : Int32) (v6 : Int32) (s0 : Int32) (x : ST) : Option (ST) := if s0 = 0 then if ixok v5 40 = true then fX10_add_54 v2 v4 v5 v6 s0 (gA x 42 v5.toNatClampNeg) v5 x else none else fX10_add_54 v2 v4 v5 v6 s0 0 v5 x
def fX10_add (v1 : Int32) (v2 : Int32) (v3 : Int32) (v4 : Int32) (x : ST) : Option (ST) := (fX11_cut v4 v3).bind fun q1 => if ixok v2 5 = true then if (gA x 46 v2.toNatClampNeg) = 1 then fX10_add_30 v2 v4 ((v1 * 5) + v2) q1 1 x else fX10_add_30 v2 v4 ((v1 * 5) + v2) q1 0 x else none
-- RX11 mirror(II)I
def fX11_mirror (v1 : Int32) (v2 : Int32) (x : ST) : Option (Int32 × ST) := (fX11_within v1 1 8).bind fun q1 => if q1 = 0 then some ((-1), x) else (fX11_within v2 1 5).bind fun q4 => if q4 = 0 then some ((-1), x) else (fX9_renew v1 x).bind fun q7 => (fX6_renew v2 q7).bind fun q9 => (fX10_renew q9).bind fun q11 => (fX3_renew q11).bind fun q13 => (fX1_renew q13).bind fun q15 => some (1, q15)
-- RX11 isSpot(I)Z
def fX11_isSpot (v1 : Int32) (x : ST) : Option (Int32 × ST) := (fX9_count x).bind fun q1 => (fX11_within v1 0 (q1.1 - 1)).bind fun q3 => if zb01 q3 = true then some (q3, q1.2) else none
-- RX11 light(III)I
def fX11_light (v1 : Int32) (v2 : Int32) (v3 : Int32) (x : ST) : Option (Int32 × ST) := (fX11_isSpot v1 x).bind fun q1 => if q1.1 = 0 then some ((-1), q1.2) else (fX11_within v2 0 15).bind fun q4 => if q4 = 0 then some ((-1), q1.2) else (fX11_within v3 0 255).bind fun q7 => if q7 = 0 then some ((-1), q1.2) else (fX9_swapLight v1 v2 v3 q1.2).bind fun q10 => some (q10.1, q10.2)
-- RX11 board(IIII)I
def fX11_board_62 : Nat → Int32 → Int32 → Int32 → Int32 → ST → Option (Int32 × ST)
  | 0, _, _, _, _, _ => none
  | n + 1, v1, v2, v4, v6, x => if 16 ≤ v6 then some (1, x) else (fX8_at v2 (v4 + v6) x).bind fun q12 => (fX9_swapLight v1 v6 (q12.1 &&& 255) q12.2).bind fun q14 => fX11_board_62 n v1 v2 v4 (v6 + 1) q14.2
def fX11_board_59 (v1 : Int32) (v2 : Int32) (v4 : Int32) (x : ST) : Option (Int32 × ST) := fX11_board_62 200 v1 v2 v4 0 x
def fX11_board (v1 : Int32) (v2 : Int32) (v3 : Int32) (v4 : Int32) (x : ST) : Option (Int32 × ST) := (fX11_isSpot v1 x).bind fun q1 => if q1.1 = 0 then some ((-1), q1.2) else (fX8_refusal v2 v3 v4 16 q1.2).bind fun q4 => if q4.1 = 0 then if v3 = 0 then fX11_board_59 v1 v2 v4 q4.2 else (fX8_allWithin v2 v4 16 0 255 q4.2).bind fun q8 => if q8.1 = 0 then some ((-2), q8.2) else fX11_board_59 v1 v2 v4 q8.2 else some (q4.1, q4.2)
-- RX11 set(II)I
def fX11_set (v1 : Int32) (v2 : Int32) (x : ST) : Option (Int32 × ST) := (fX7_takes v1 v2 x).bind fun q1 => if q1.1 = 0 then some ((-10001), q1.2) else (fX7_swap v1 v2 q1.2).bind fun q4 => some (q4.1, q4.2)
-- RX11 rest(II)I
def fX11_rest (v1 : Int32) (v2 : Int32) (x : ST) : Option (Int32 × ST) := (fX11_isSpot v1 x).bind fun q1 => if q1.1 = 0 then some ((-1), q1.2) else (fX11_within v2 0 3000).bind fun q4 => if q4 = 0 then some ((-1), q1.2) else (fX9_swapRest v1 v2 q1.2).bind fun q7 => some (q7.1, q7.2)
-- RX11 spot(II)I
def fX11_spot (v1 : Int32) (v2 : Int32) (x : ST) : Option (Int32 × ST) := (fX11_isSpot v1 x).bind fun q1 => if q1.1 = 0 then some ((-10001), q1.2) else (fX11_within v2 0 3).bind fun q4 => if q4 = 0 then some ((-10001), q1.2) else (fX7_get 0 q1.2).bind fun q7 => (fX7_get 1 q7.2).bind fun q9 => (fX9_measure q7.1 q9.1 q9.2).bind fun q11 => (fX9_isLost v1 q11).bind fun q13 => if v2 = 0 then (fX9_lightOf v1 q13.2).bind fun q16 => some (q16.1, q16.2) else if v2 = 1 then if q13.1 = 0 then some (0, q13.2) else some (1, q13.2) else if v2 = 2 then if q13.1 = 0 then (fX9_middleOf v1 q13.2).bind fun q22 => some (q22.1, q22.2) else some ((-4), q13.2) else if q13.1 = 0 then (fX9_slopeOf v1 q13.2).bind fun q25 => some (q25.1, q25.2) else some ((-10002), q13.2)
-- RX11 isPart(I)Z
def fX11_isPart (v1 : Int32) (x : ST) : Option (Int32 × ST) := (fX6_count x).bind fun q1 => (fX11_within v1 0 (q1.1 - 1)).bind fun q3 => if zb01 q3 = true then some (q3, q1.2) else none
-- RX11 table(III)I
def fX11_table (v1 : Int32) (v2 : Int32) (v3 : Int32) (x : ST) : Option (Int32 × ST) := (fX11_isSpot v1 x).bind fun q1 => if q1.1 = 0 then some ((-10001), q1.2) else (fX11_isPart v2 q1.2).bind fun q4 => if q4.1 = 0 then some ((-10001), q4.2) else (fX11_within v3 (-9) 9).bind fun q7 => if q7 = 0 then some ((-10001), q4.2) else (fX10_swap v1 v2 v3 q4.2).bind fun q10 => some (q10.1, q10.2)
-- RX11 poke(IIIII)I
def fX11_poke_148 (v1 : Int32) (x : ST) : Option (Int32 × ST) := (fX10_pokesOf v1 x).bind fun q29 => some (q29.1, q29.2)
def fX11_poke_106 : Nat → Int32 → Int32 → Int32 → Int32 → Int32 → ST → Option (Int32 × ST)
  | 0, _, _, _, _, _, _ => none
  | n + 1, v1, v2, v3, v5, v7, x => (fX9_count x).bind fun q22 => if q22.1 ≤ v7 then fX11_poke_148 v1 q22.2 else (fX8_at v3 (v5 + v7) q22.2).bind fun q25 => (fX10_add v7 v1 v2 q25.1 q25.2).bind fun q27 => fX11_poke_106 n v1 v2 v3 v5 (v7 + 1) q27
def fX11_poke (v1 : Int32) (v2 : Int32) (v3 : Int32) (v4 : Int32) (v5 : Int32) (x : ST) : Option (Int32 × ST) := (fX11_isPart v1 x).bind fun q1 => if q1.1 = 0 then some ((-1), q1.2) else (fX11_within v2 1 99).bind fun q4 => if q4 = 0 then some ((-1), q1.2) else (fX9_count q1.2).bind fun q7 => (fX8_refusal v3 v4 v5 q7.1 q7.2).bind fun q9 => if q9.1 = 0 then (fX9_count q9.2).bind fun q12 => (fX8_allWithin v3 v5 q12.1 (-999) 999 q12.2).bind fun q14 => if q14.1 = 0 then some ((-2), q14.2) else (fX10_pokesOf v1 q14.2).bind fun q17 => if q17.1 < 9 then (fX10_begin v1 v2 q17.2).bind fun q20 => fX11_poke_106 200 v1 v2 v3 v5 0 q20 else some ((-3), q17.2) else some (q9.1, q9.2)
-- RX11 told(III)I
def fX11_told (v1 : Int32) (v2 : Int32) (v3 : Int32) (x : ST) : Option (Int32 × ST) := (fX11_isSpot v1 x).bind fun q1 => if q1.1 = 0 then some ((-10001), q1.2) else (fX11_isPart v2 q1.2).bind fun q4 => if q4.1 = 0 then some ((-10001), q4.2) else (fX11_within v3 0 1).bind fun q7 => if q7 = 0 then some ((-10001), q4.2) else if v3 = 0 then (fX10_number v1 v2 q4.2).bind fun q16 => some (q16.1, q16.2) else (fX10_pokesOf v2 q4.2).bind fun q11 => if q11.1 = 0 then some ((-10004), q11.2) else (fX10_doubt v1 v2 q11.2).bind fun q14 => some (q14.1, q14.2)
-- RX11 dead(IZ)I
def fX11_dead (v1 : Int32) (v2 : Int32) (x : ST) : Option (Int32 × ST) := (fX11_isPart v1 x).bind fun q1 => if q1.1 = 0 then some ((-1), q1.2) else if v1 = 0 then some ((-1), q1.2) else (fX6_swapDead v1 v2 q1.2).bind fun q5 => if q5.1 = 0 then some (0, q5.2) else some (1, q5.2)
-- RX11 findBends()V
def fX11_findBends  (x : ST) : Option (ST) := (fX7_get 0 x).bind fun q1 => (fX7_get 1 q1.2).bind fun q3 => (fX9_measure q1.1 q3.1 q3.2).bind fun q5 => (fX0_find q5).bind fun q7 => some q7
-- RX11 seen()I
def fX11_seen  (x : ST) : Option (Int32 × ST) := (fX11_findBends x).bind fun q1 => (fX0_seenBits q1).bind fun q3 => some (q3.1, q3.2)
-- RX11 bend(II)J
def fX11_bend (v1 : Int32) (v2 : Int32) (x : ST) : Option (Int64 × ST) := (fX11_isPart v1 x).bind fun q1 => if q1.1 = 0 then some ((-4611686018427387905), q1.2) else (fX11_within v2 0 1).bind fun q4 => if q4 = 0 then some ((-4611686018427387905), q1.2) else (fX11_findBends q1.2).bind fun q7 => if v2 = 0 then (fX0_above v1 q7).bind fun q12 => some (q12.1, q12.2) else (fX0_below v1 q7).bind fun q10 => some (q10.1, q10.2)
-- RX11 whole(I)I
def fX11_whole (v1 : Int32) (x : ST) : Option (Int32 × ST) := (fX11_isPart v1 x).bind fun q1 => if q1.1 = 0 then some ((-10001), q1.2) else (fX11_findBends q1.2).bind fun q4 => (fX0_rounded v1 q4).bind fun q6 => some (q6.1, q6.2)
-- RX11 fitWholes()V
def fX11_fitWholes_35 (x : ST) : Option (ST) := (fX7_get 4 x).bind fun q8 => (fX7_get 5 q8.2).bind fun q10 => (fX2_find q8.1 q10.1 q10.2).bind fun q12 => some q12
def fX11_fitWholes_2 : Nat → Int32 → ST → Option (ST)
  | 0, _, _ => none
  | n + 1, v1, x => (fX6_count x).bind fun q1 => if q1.1 ≤ v1 then fX11_fitWholes_35 q1.2 else (fX0_rounded v1 q1.2).bind fun q4 => (fX2_wish v1 q4.1 q4.2).bind fun q6 => fX11_fitWholes_2 n (v1 + 1) q6
def fX11_fitWholes  (x : ST) : Option (ST) := fX11_fitWholes_2 200 0 x
-- RX11 nearest(I)I
def fX11_nearest (v1 : Int32) (x : ST) : Option (Int32 × ST) := (fX11_isPart v1 x).bind fun q1 => if q1.1 = 0 then some ((-10001), q1.2) else (fX11_findBends q1.2).bind fun q4 => (fX11_fitWholes q4).bind fun q6 => (fX2_unitsOf v1 q6).bind fun q8 => some (q8.1, q8.2)
-- RX11 off()J
def fX11_off  (x : ST) : Option (Int64 × ST) := (fX11_findBends x).bind fun q1 => (fX11_fitWholes q1).bind fun q3 => (fX2_squares q3).bind fun q5 => some (q5.1, q5.2)
-- RX11 start()I
def fX11_start  (x : ST) : Option (Int32 × ST) := (fX3_now x).bind fun q1 => if q1.1 = 0 then (fX3_enter 1 q1.2).bind fun q4 => some (1, q4) else some ((-2), q1.2)
-- RX11 stop()I
def fX11_stop  (x : ST) : Option (Int32 × ST) := (fX3_now x).bind fun q1 => (fX3_enter 0 q1.2).bind fun q3 => some (q1.1, q3)
-- RX11 moveUnits()Z
def fX11_moveUnits_122 (kb87 : Int32 → Int32 → ST → Option (Int32 × ST)) (v1 : Int32) (v2 : Int32) (x : ST) : Option (Int32 × ST) := kb87 v1 (v2 + 1) x
def fX11_moveUnits_87 : Nat → Int32 → Int32 → ST → Option (Int32 × ST)
  | 0, _, _, _ => none
  | n + 1, v1, v2, x => (fX6_count x).bind fun q19 => if q19.1 ≤ v2 then if zb01 v1 = true then some (v1, q19.2) else none else (fX2_unitsOf v2 q19.2).bind fun q23 => (fX6_swapUnits v2 q23.1 q23.2).bind fun q25 => if q25.1 = q23.1 then fX11_moveUnits_122 (fX11_moveUnits_87 n) v1 v2 q25.2 else fX11_moveUnits_122 (fX11_moveUnits_87 n) 1 v2 q25.2
def fX11_moveUnits_56 (x : ST) : Option (Int32 × ST) := (fX7_get 4 x).bind fun q13 => (fX7_get 5 q13.2).bind fun q15 => (fX2_find q13.1 q15.1 q15.2).bind fun q17 => fX11_moveUnits_87 200 0 0 q17
def fX11_moveUnits_2 : Nat → Int32 → ST → Option (Int32 × ST)
  | 0, _, _ => none
  | n + 1, v1, x => (fX6_count x).bind fun q1 => if q1.1 ≤ v1 then fX11_moveUnits_56 q1.2 else (fX6_unitsOf v1 q1.2).bind fun q4 => (fX7_get 3 q4.2).bind fun q6 => (fX0_rounded v1 q6.2).bind fun q8 => if (100 : Int32) = 0 then none else (fX2_wish v1 (q4.1 - ((q6.1 * q8.1) / 100)) q8.2).bind fun q11 => fX11_moveUnits_2 n (v1 + 1) q11
def fX11_moveUnits  (x : ST) : Option (Int32 × ST) := fX11_moveUnits_2 200 0 x
-- RX11 frames(I)I
def fX11_frames_97 (kb45 : Int32 → Int32 → Int32 → Int32 → ST → Option (Int32 × ST)) (v1 : Int32) (v2 : Int32) (v3 : Int32) (v4 : Int32) (x : ST) : Option (Int32 × ST) := (fX3_now x).bind fun q26 => (fX9_lostOnes q26.2).bind fun q28 => (fX6_sum q28.2).bind fun q30 => (fX1_note q26.1 q28.1 q30.1 q30.2).bind fun q32 => kb45 v1 v2 v3 (v4 + 1) q32
def fX11_frames_78 (kb45 : Int32 → Int32 → Int32 → Int32 → ST → Option (Int32 × ST)) (v1 : Int32) (v2 : Int32) (v3 : Int32) (v4 : Int32) (v5 : Int32) (x : ST) : Option (Int32 × ST) := if v5 = 2 then if v2 = 0 then fX11_frames_97 (kb45) v1 v2 v3 v4 x else if v3 = 0 then fX11_frames_97 (kb45) v1 v2 v3 v4 x else (fX11_moveUnits x).bind fun q24 => fX11_frames_97 (kb45) v1 v2 q24.1 v4 q24.2 else fX11_frames_97 (kb45) v1 v2 v3 v4 x
def fX11_frames_131 (x : ST) : Option (Int32 × ST) := (fX3_now x).bind fun q19 => some (q19.1, q19.2)
def fX11_frames_45 : Nat → Int32 → Int32 → Int32 → Int32 → ST → Option (Int32 × ST)
  | 0, _, _, _, _, _ => none
  | n + 1, v1, v2, v3, v4, x => if v1 ≤ v4 then fX11_frames_131 x else (fX3_now x).bind fun q12 => (fX3_pass v2 q12.2).bind fun q14 => if q14.1 = 0 then fX11_frames_78 (fX11_frames_45 n) v1 v2 v3 v4 q12.1 q14.2 else (fX6_level q14.2).bind fun q17 => fX11_frames_78 (fX11_frames_45 n) v1 v2 v3 v4 q12.1 q17
def fX11_frames_39 (v1 : Int32) (s0 : Int32) (x : ST) : Option (Int32 × ST) := fX11_frames_45 200 v1 s0 1 0 x
def fX11_frames (v1 : Int32) (x : ST) : Option (Int32 × ST) := (fX11_within v1 1 100).bind fun q1 => if q1 = 0 then some ((-1), x) else (fX11_findBends x).bind fun q4 => (fX9_lostOnes q4).bind fun q6 => (fX7_get 2 q6.2).bind fun q8 => if q8.1 < q6.1 then fX11_frames_39 v1 0 q8.2 else fX11_frames_39 v1 1 q8.2
-- RX11 state(I)I
def fX11_state (v1 : Int32) (x : ST) : Option (Int32 × ST) := (fX6_count x).bind fun q1 => (fX11_within v1 0 (q1.1 + 2)).bind fun q3 => if q3 = 0 then some ((-10001), q1.2) else if q1.1 ≤ v1 then if v1 = q1.1 then (fX6_tip q1.2).bind fun q13 => some (q13.1, q13.2) else if v1 = (q1.1 + 1) then (fX3_now q1.2).bind fun q11 => some (q11.1, q11.2) else (fX3_done q1.2).bind fun q9 => some (q9.1, q9.2) else (fX6_unitsOf v1 q1.2).bind fun q15 => some (q15.1, q15.2)
-- RX11 units(II)I
def fX11_units (v1 : Int32) (v2 : Int32) (x : ST) : Option (Int32 × ST) := (fX7_get 4 x).bind fun q1 => (fX11_isPart v1 q1.2).bind fun q3 => if q3.1 = 0 then some ((-10001), q3.2) else (fX11_within v2 (-q1.1) q1.1).bind fun q6 => if q6 = 0 then some ((-10001), q3.2) else (fX6_swapUnits v1 v2 q3.2).bind fun q9 => some (q9.1, q9.2)
-- RX11 shed()I
def fX11_shed  (x : ST) : Option (Int32 × ST) := (fX6_giveToTip x).bind fun q1 => some (q1.1, q1.2)
-- RX11 log(II)I
def fX11_log (v1 : Int32) (v2 : Int32) (x : ST) : Option (Int32 × ST) := (fX1_has v1 x).bind fun q1 => if q1.1 = 0 then some ((-10001), q1.2) else (fX11_within v2 0 2).bind fun q4 => if q4 = 0 then some ((-10001), q1.2) else (fX1_read v1 v2 q1.2).bind fun q7 => some (q7.1, q7.2)
-- RX11 loop(IIIII)I
def fX11_loop_106 (kb69 : Int32 → Int32 → Int32 → Int32 → Int32 → ST → Option (Int32 × ST)) (v1 : Int32) (v2 : Int32) (v4 : Int32) (v5 : Int32) (v7 : Int32) (s0 : Int32) (s1 : Int32) (s2 : Int32) (x : ST) : Option (Int32 × ST) := (fX5_setTerm s2 s1 s0 x).bind fun q17 => kb69 v1 v2 v4 v5 (v7 + 1) q17
def fX11_loop_69 : Nat → Int32 → Int32 → Int32 → Int32 → Int32 → ST → Option (Int32 × ST)
  | 0, _, _, _, _, _, _ => none
  | n + 1, v1, v2, v4, v5, v7, x => if 5 ≤ v7 then some (v5, x) else if v5 ≤ v7 then fX11_loop_106 (fX11_loop_69 n) v1 v2 v4 v5 v7 0 v7 v1 x else (fX8_at v2 (v4 + v7) x).bind fun q15 => fX11_loop_106 (fX11_loop_69 n) v1 v2 v4 v5 v7 q15.1 v7 v1 q15.2
def fX11_loop (v1 : Int32) (v2 : Int32) (v3 : Int32) (v4 : Int32) (v5 : Int32) (x : ST) : Option (Int32 × ST) := (fX11_within v1 0 1).bind fun q1 => if q1 = 0 then some ((-1), x) else (fX11_within v5 1 5).bind fun q4 => if q4 = 0 then some ((-1), x) else (fX8_refusal v2 v3 v4 v5 x).bind fun q7 => if q7.1 = 0 then (fX8_allWithin v2 v4 v5 (-50) 50 q7.2).bind fun q10 => if q10.1 = 0 then some ((-2), q10.2) else fX11_loop_69 200 v1 v2 v4 v5 0 q10.2 else some (q7.1, q7.2)
-- RX11 steady(I)I
def fX11_steady (v1 : Int32) (x : ST) : Option (Int32 × ST) := (fX11_within v1 0 100).bind fun q1 => if q1 = 0 then some ((-1), x) else (fX5_isSteady v1 x).bind fun q4 => if q4.1 = 0 then some (0, q4.2) else some (1, q4.2)
-- RX11 unsteady(II)I
def fX11_unsteady_24 : Nat → Int32 → Int32 → ST → Option (Int32 × ST)
  | 0, _, _, _ => none
  | n + 1, v2, v3, x => if v2 < v3 then some ((-4), x) else (fX5_isSteady v3 x).bind fun q8 => if q8.1 = 0 then some (v3, q8.2) else fX11_unsteady_24 n v2 (v3 + 1) q8.2
def fX11_unsteady (v1 : Int32) (v2 : Int32) (x : ST) : Option (Int32 × ST) := (fX11_within v1 0 100).bind fun q1 => if q1 = 0 then some ((-1), x) else (fX11_within v2 v1 100).bind fun q4 => if q4 = 0 then some ((-1), x) else fX11_unsteady_24 200 v2 v1 x
-- RX11 isLayer(I)Z
def fX11_isLayer (v0 : Int32) : Option (Int32) := (fX11_within v0 0 2).bind fun q1 => if zb01 q1 = true then some q1 else none
-- RX11 cell(III)I
def fX11_cell (v1 : Int32) (v2 : Int32) (v3 : Int32) (x : ST) : Option (Int32 × ST) := (fX11_isLayer v1).bind fun q1 => if q1 = 0 then some ((-10001), x) else (fX11_within v2 0 31).bind fun q4 => if q4 = 0 then some ((-10001), x) else (fX11_within v3 (-99) 99).bind fun q7 => if q7 = 0 then some ((-10001), x) else (fX4_swapCell v1 v2 v3 x).bind fun q10 => some (q10.1, q10.2)
-- RX11 wind(II)I
def fX11_wind (v1 : Int32) (v2 : Int32) (x : ST) : Option (Int32 × ST) := (fX11_isLayer v1).bind fun q1 => if q1 = 0 then some ((-10001), x) else (fX11_within v2 (-31) 31).bind fun q4 => if q4 = 0 then some ((-10001), x) else (fX4_swapWind v1 v2 x).bind fun q7 => some (q7.1, q7.2)
-- RX11 foretell(II)I
def fX11_foretell (v1 : Int32) (v2 : Int32) (x : ST) : Option (Int32 × ST) := (fX11_isSpot v1 x).bind fun q1 => if q1.1 = 0 then some ((-10001), q1.2) else (fX11_within v2 0 9999).bind fun q4 => if q4 = 0 then some ((-10001), q1.2) else (fX7_get 6 q1.2).bind fun q7 => (fX4_foretold (q7.1 * v1) v2 q7.2).bind fun q9 => some (q9.1, q9.2)
-- RX11 earlier(II)I
def fX11_earlier (v0 : Int32) (v1 : Int32) : Option (Int32) := if v0 = 0 then some v1 else if v1 = 0 then some v0 else some (if v0 < v1 then v1 else v0)
-- RX11 guess(III)I
def fX11_guess_91 (kb55 : Int32 → Int32 → Int32 → Int64 → Int32 → ST → Option (Int32 × ST)) (v1 : Int32) (v2 : Int32) (v5 : Int32) (v6 : Int64) (v8 : Int32) (x : ST) : Option (Int32 × ST) := kb55 v1 v2 v5 v6 (v8 + 1) x
def fX11_guess_55 : Nat → Int32 → Int32 → Int32 → Int64 → Int32 → ST → Option (Int32 × ST)
  | 0, _, _, _, _, _, _ => none
  | n + 1, v1, v2, v5, v6, v8, x => if 32 ≤ v8 then some (v5, x) else (fX8_apart v1 v2 v8 x).bind fun q11 => if v6 ≤ q11.1 then fX11_guess_91 (fX11_guess_55 n) v1 v2 v5 v6 v8 q11.2 else fX11_guess_91 (fX11_guess_55 n) v1 v2 v8 q11.1 v8 q11.2
def fX11_guess (v1 : Int32) (v2 : Int32) (v3 : Int32) (x : ST) : Option (Int32 × ST) := (fX8_refusal v1 v3 0 32 x).bind fun q1 => (fX8_refusal v2 v3 0 32 q1.2).bind fun q3 => (fX11_earlier q1.1 q3.1).bind fun q5 => if q5 = 0 then (fX8_apart v1 v2 0 q3.2).bind fun q8 => fX11_guess_55 200 v1 v2 0 q8.1 1 q8.2 else some (q5, q3.2)
-- RX11 sheet(III)I
def fX11_sheet (v1 : Int32) (v2 : Int32) (v3 : Int32) (x : ST) : Option (Int32 × ST) := (fX11_isSheet v1).bind fun q1 => if q1 = 0 then some ((-1), x) else (fX11_isLane v2).bind fun q4 => if q4 = 0 then some ((-1), x) else if v3 ≤ 40 then if 0 ≤ v3 then (fX8_lay v1 v2 v3 x).bind fun q9 => some (v3, q9) else some ((-14), x) else some ((-1), x)
-- RX11 drop(I)I
def fX11_drop (v1 : Int32) (x : ST) : Option (Int32 × ST) := (fX11_isSheet v1).bind fun q1 => if q1 = 0 then some ((-1), x) else (fX8_holds v1 x).bind fun q4 => if q4.1 = 0 then some ((-11), q4.2) else (fX8_takeAway v1 q4.2).bind fun q7 => some (q7.1, q7.2)
-- RX11 item(IIII)I
def fX11_item (v1 : Int32) (v2 : Int32) (v3 : Int32) (v4 : Int32) (x : ST) : Option (Int32 × ST) := (fX8_refusal v1 v2 v3 1 x).bind fun q1 => if q1.1 = 0 then (fX8_put v1 v3 v4 q1.2).bind fun q4 => some (1, q4) else some (q1.1, q1.2)
-- RX11 layer(IIII)I
def fX11_layer_57 : Nat → Int32 → Int32 → Int32 → Int32 → ST → Option (Int32 × ST)
  | 0, _, _, _, _, _ => none
  | n + 1, v1, v2, v4, v6, x => if 32 ≤ v6 then some (32, x) else (fX8_at v2 (v4 + v6) x).bind fun q11 => (fX4_swapCell v1 v6 q11.1 q11.2).bind fun q13 => fX11_layer_57 n v1 v2 v4 (v6 + 1) q13.2
def fX11_layer (v1 : Int32) (v2 : Int32) (v3 : Int32) (v4 : Int32) (x : ST) : Option (Int32 × ST) := (fX11_isLayer v1).bind fun q1 => if q1 = 0 then some ((-1), x) else (fX8_refusal v2 v3 v4 32 x).bind fun q4 => if q4.1 = 0 then (fX8_allWithin v2 v4 32 (-99) 99 q4.2).bind fun q7 => if q7.1 = 0 then some ((-2), q7.2) else fX11_layer_57 200 v1 v2 v4 0 q7.2 else some (q4.1, q4.2)
-- RX12 in(JJJ)Z
def fX12_in (v0 : Int64) (v2 : Int64) (v4 : Int64) : Option (Int32) := if v0 < v2 then if zb01 0 = true then some 0 else none else if v4 < v0 then if zb01 0 = true then some 0 else none else if zb01 1 = true then some 1 else none
-- RX12 begin(II)V
def fX12_begin_110 (x : ST) : Option (ST) := some (sI (sI (sI (sI (sI x 4 0) 5 0) 6 0) 7 0) 8 0)
def fX12_begin_78 : Nat → Int32 → ST → Option (ST)
  | 0, _, _ => none
  | n + 1, v3, x => if 5 ≤ v3 then fX12_begin_110 x else if ixok v3 5 = true then if ixok v3 5 = true then if ixok v3 5 = true then fX12_begin_78 n (v3 + 1) (sA (sA (sA x 7 v3 0) 10 v3 (vp_nar .boolean 0)) 19 v3 0) else none else none else none
def fX12_begin_76 (x : ST) : Option (ST) := fX12_begin_78 200 0 x
def fX12_begin_57 : Nat → Int32 → ST → Option (ST)
  | 0, _, _ => none
  | n + 1, v3, x => if 40 ≤ v3 then fX12_begin_76 x else if ixok v3 40 = true then fX12_begin_57 n (v3 + 1) (sA x 3 v3 0) else none
def fX12_begin_55 (x : ST) : Option (ST) := fX12_begin_57 200 0 x
def fX12_begin_34 : Nat → Int32 → ST → Option (ST)
  | 0, _, _ => none
  | n + 1, v3, x => if 8 ≤ v3 then fX12_begin_55 x else if ixok v3 8 = true then fX12_begin_34 n (v3 + 1) (sA x 2 v3 1500) else none
def fX12_begin_32 (x : ST) : Option (ST) := fX12_begin_34 200 0 x
def fX12_begin_12 : Nat → Int32 → ST → Option (ST)
  | 0, _, _ => none
  | n + 1, v3, x => if 128 ≤ v3 then fX12_begin_32 x else if ixok v3 128 = true then fX12_begin_12 n (v3 + 1) (sA x 1 v3 0) else none
def fX12_begin (v1 : Int32) (v2 : Int32) (x : ST) : Option (ST) := fX12_begin_12 200 0 (sI (sI x 0 v1) 1 v2)
-- RX12 mirror(II)I
def fX12_mirror (v1 : Int32) (v2 : Int32) (x : ST) : Option (Int32 × ST) := (fX12_in v1.toInt64 1 8).bind fun q1 => if q1 = 0 then some ((-1), x) else (fX12_in v2.toInt64 1 5).bind fun q4 => if q4 = 0 then some ((-1), x) else (fX12_begin v1 v2 x).bind fun q7 => some (1, q7)
-- RX12 isSpot(I)Z
def fX12_isSpot (v1 : Int32) (x : ST) : Option (Int32 × ST) := (fX12_in v1.toInt64 0 (((gI x 0) - 1).toInt64)).bind fun q1 => if zb01 q1 = true then some (q1, x) else none
-- RX12 isPart(I)Z
def fX12_isPart (v1 : Int32) (x : ST) : Option (Int32 × ST) := (fX12_in v1.toInt64 0 (((gI x 1) - 1).toInt64)).bind fun q1 => if zb01 q1 = true then some (q1, x) else none
-- RX12 light(III)I
def fX12_light (v1 : Int32) (v2 : Int32) (v3 : Int32) (x : ST) : Option (Int32 × ST) := (fX12_isSpot v1 x).bind fun q1 => if q1.1 = 0 then some ((-1), q1.2) else (fX12_in v2.toInt64 0 15).bind fun q4 => if q4 = 0 then some ((-1), q1.2) else (fX12_in v3.toInt64 0 255).bind fun q7 => if q7 = 0 then some ((-1), q1.2) else if ixok ((16 * v1) + v2) 128 = true then if ixok ((16 * v1) + v2) 128 = true then some (gA q1.2 1 ((16 * v1) + v2).toNatClampNeg, sA q1.2 1 ((16 * v1) + v2) v3) else none else none
-- RX12 set(II)I
def fX12_set (v1 : Int32) (v2 : Int32) (x : ST) : Option (Int32 × ST) := (fX12_in v1.toInt64 0 6).bind fun q1 => if q1 = 0 then some ((-10001), x) else if ixok v1 7 = true then if ixok v1 7 = true then (fX12_in v2.toInt64 ((gA x 5 v1.toNatClampNeg).toInt64) ((gA x 6 v1.toNatClampNeg).toInt64)).bind fun q6 => if q6 = 0 then some ((-10001), x) else if ixok v1 7 = true then if ixok v1 7 = true then some (gA x 4 v1.toNatClampNeg, sA x 4 v1 v2) else none else none else none else none
-- RX12 rest(II)I
def fX12_rest (v1 : Int32) (v2 : Int32) (x : ST) : Option (Int32 × ST) := (fX12_isSpot v1 x).bind fun q1 => if q1.1 = 0 then some ((-1), q1.2) else (fX12_in v2.toInt64 0 3000).bind fun q4 => if q4 = 0 then some ((-1), q1.2) else if ixok v1 8 = true then if ixok v1 8 = true then some (gA q1.2 2 v1.toNatClampNeg, sA q1.2 2 v1 v2) else none else none
-- RX12 lightOf(II)I
def fX12_lightOf (v1 : Int32) (v2 : Int32) (x : ST) : Option (Int32 × ST) := if ixok ((16 * v1) + v2) 128 = true then if ixok 0 7 = true then if ((gA x 1 ((16 * v1) + v2).toNatClampNeg) - (gA x 4 (0 : Int32).toNatClampNeg)) ≤ 0 then some (0, x) else some ((gA x 1 ((16 * v1) + v2).toNatClampNeg) - (gA x 4 (0 : Int32).toNatClampNeg), x) else none else none
-- RX12 allLight(I)I
def fX12_allLight_4 : Nat → Int32 → Int32 → Int32 → ST → Option (Int32 × ST)
  | 0, _, _, _, _ => none
  | n + 1, v1, v2, v3, x => if 16 ≤ v3 then some (v2, x) else (fX12_lightOf v1 v3 x).bind fun q2 => fX12_allLight_4 n v1 (v2 + q2.1) (v3 + 1) q2.2
def fX12_allLight (v1 : Int32) (x : ST) : Option (Int32 × ST) := fX12_allLight_4 200 v1 0 0 x
-- RX12 isLost(I)Z
def fX12_isLost (v1 : Int32) (x : ST) : Option (Int32 × ST) := (fX12_allLight v1 x).bind fun q1 => if ixok 1 7 = true then if (gA q1.2 4 (1 : Int32).toNatClampNeg) ≤ q1.1 then if zb01 0 = true then some (0, q1.2) else none else if zb01 1 = true then some (1, q1.2) else none else none
-- RX12 middleOf(I)I
def fX12_middleOf_26 (kb4 : Int32 → Int32 → Int32 → ST → Option (Int32 × ST)) (v1 : Int32) (v3 : Int32) (s0 : Int32) (s1 : Int32) (x : ST) : Option (Int32 × ST) := (fX12_lightOf v1 v3 x).bind fun q9 => kb4 v1 (s1 + (s0 * q9.1)) (v3 + 1) q9.2
def fX12_middleOf_41 (v1 : Int32) (v2 : Int32) (x : ST) : Option (Int32 × ST) := (fX12_allLight v1 x).bind fun q6 => if q6.1 = 0 then none else some ((1000 * v2) / q6.1, q6.2)
def fX12_middleOf_4 : Nat → Int32 → Int32 → Int32 → ST → Option (Int32 × ST)
  | 0, _, _, _, _ => none
  | n + 1, v1, v2, v3, x => if 16 ≤ v3 then fX12_middleOf_41 v1 v2 x else if (2 : Int32) = 0 then none else if (v1 - v1 / 2 * 2) = 0 then if (4 : Int32) = 0 then none else fX12_middleOf_26 (fX12_middleOf_4 n) v1 v3 (v3 - v3 / 4 * 4) v2 x else if (4 : Int32) = 0 then none else fX12_middleOf_26 (fX12_middleOf_4 n) v1 v3 (v3 / 4) v2 x
def fX12_middleOf (v1 : Int32) (x : ST) : Option (Int32 × ST) := fX12_middleOf_4 200 v1 0 0 x
-- RX12 slopeOf(I)I
def fX12_slopeOf (v1 : Int32) (x : ST) : Option (Int32 × ST) := (fX12_middleOf v1 x).bind fun q1 => if ixok v1 8 = true then some (q1.1 - (gA q1.2 2 v1.toNatClampNeg), q1.2) else none
-- RX12 spot(II)I
def fX12_spot (v1 : Int32) (v2 : Int32) (x : ST) : Option (Int32 × ST) := (fX12_isSpot v1 x).bind fun q1 => if q1.1 = 0 then some ((-10001), q1.2) else (fX12_in v2.toInt64 0 3).bind fun q4 => if q4 = 0 then some ((-10001), q1.2) else if 2 ≤ v2 then if v2 = 2 then (fX12_isLost v1 q1.2).bind fun q14 => if q14.1 = 0 then (fX12_middleOf v1 q14.2).bind fun q17 => some (q17.1, q17.2) else some ((-4), q14.2) else (fX12_isLost v1 q1.2).bind fun q9 => if q9.1 = 0 then (fX12_slopeOf v1 q9.2).bind fun q12 => some (q12.1, q12.2) else some ((-10002), q9.2) else if v2 = 0 then (fX12_allLight v1 q1.2).bind fun q23 => some (q23.1, q23.2) else (fX12_isLost v1 q1.2).bind fun q20 => if q20.1 = 0 then some (0, q20.2) else some (1, q20.2)
-- RX12 table(III)I
def fX12_table (v1 : Int32) (v2 : Int32) (v3 : Int32) (x : ST) : Option (Int32 × ST) := (fX12_isSpot v1 x).bind fun q1 => if q1.1 = 0 then some ((-10001), q1.2) else (fX12_isPart v2 q1.2).bind fun q4 => if q4.1 = 0 then some ((-10001), q4.2) else (fX12_in v3.toInt64 (-9) 9).bind fun q7 => if q7 = 0 then some ((-10001), q4.2) else if ixok ((5 * v1) + v2) 40 = true then if ixok ((5 * v1) + v2) 40 = true then if ixok v2 5 = true then some (gA q4.2 3 ((5 * v1) + v2).toNatClampNeg, sA (sA q4.2 3 ((5 * v1) + v2) v3) 7 v2 0) else none else none else none
-- RX12 changeOf(III)I
def fX12_changeOf (v1 : Int32) (v2 : Int32) (v3 : Int32) (x : ST) : Option (Int32 × ST) := if ixok ((8 * ((9 * v1) + v2)) + v3) 360 = true then some (gA x 9 ((8 * ((9 * v1) + v2)) + v3).toNatClampNeg, x) else none
-- RX12 tabulate(I)V
def fX12_tabulate_121 (kb36 : Int32 → Int32 → Int32 → ST → Option (ST)) (v1 : Int32) (v2 : Int32) (v3 : Int32) (s0 : Int32) (s1 : Int32) (x : ST) : Option (ST) := if ixok s1 40 = true then kb36 v1 v2 (v3 + 1) (sA x 3 s1 s0) else none
def fX12_tabulate_80 (kb36 : Int32 → Int32 → Int32 → ST → Option (ST)) (v1 : Int32) (v2 : Int32) (v3 : Int32) (v4 : Int32) (x : ST) : Option (ST) := if v2 = 0 then none else if (v4 / v2) ≤ 9 then if (-9) ≤ (v4 / v2) then fX12_tabulate_121 (kb36) v1 v2 v3 (v4 / v2) ((5 * v3) + v1) x else fX12_tabulate_121 (kb36) v1 v2 v3 (-9) ((5 * v3) + v1) x else fX12_tabulate_121 (kb36) v1 v2 v3 9 ((5 * v3) + v1) x
def fX12_tabulate_50 (kb36 : Int32 → Int32 → Int32 → ST → Option (ST)) : Nat → Int32 → Int32 → Int32 → Int32 → Int32 → ST → Option (ST)
  | 0, _, _, _, _, _, _ => none
  | n + 1, v1, v2, v3, v4, v5, x => if ixok v1 5 = true then if (gA x 7 v1.toNatClampNeg) ≤ v5 then fX12_tabulate_80 (kb36) v1 v2 v3 v4 x else (fX12_changeOf v1 v5 v3 x).bind fun q7 => fX12_tabulate_50 kb36 n v1 v2 v3 (v4 + q7.1) (v5 + 1) q7.2 else none
def fX12_tabulate_36 : Nat → Int32 → Int32 → Int32 → ST → Option (ST)
  | 0, _, _, _, _ => none
  | n + 1, v1, v2, v3, x => if (gI x 0) ≤ v3 then some x else fX12_tabulate_50 (fX12_tabulate_36 n) 200 v1 v2 v3 0 0 x
def fX12_tabulate_34 (v1 : Int32) (v2 : Int32) (x : ST) : Option (ST) := fX12_tabulate_36 200 v1 v2 0 x
def fX12_tabulate_4 : Nat → Int32 → Int32 → Int32 → ST → Option (ST)
  | 0, _, _, _, _ => none
  | n + 1, v1, v2, v3, x => if ixok v1 5 = true then if (gA x 7 v1.toNatClampNeg) ≤ v3 then fX12_tabulate_34 v1 v2 x else if ixok ((9 * v1) + v3) 45 = true then fX12_tabulate_4 n v1 (v2 + (gA x 8 ((9 * v1) + v3).toNatClampNeg)) (v3 + 1) x else none else none
def fX12_tabulate (v1 : Int32) (x : ST) : Option (ST) := fX12_tabulate_4 200 v1 0 0 x
-- RX12 isSheet(II)Z
def fX12_isSheet (v0 : Int32) (v1 : Int32) : Option (Int32) := (fX12_in v0.toInt64 0 3).bind fun q1 => if q1 = 0 then if zb01 0 = true then some 0 else none else (fX12_in v1.toInt64 0 2).bind fun q5 => if q5 = 0 then if zb01 0 = true then some 0 else none else if zb01 1 = true then some 1 else none
-- RX12 against(IIII)I
def fX12_against (v1 : Int32) (v2 : Int32) (v3 : Int32) (v4 : Int32) (x : ST) : Option (Int32 × ST) := if ixok v1 4 = true then if (gA x 28 v1.toNatClampNeg) = v2 then if ixok v1 4 = true then (fX12_in v3.toInt64 0 (((gA x 29 v1.toNatClampNeg) - v4).toInt64)).bind fun q4 => if q4 = 0 then some ((-13), x) else some (0, x) else none else if ixok v1 4 = true then if 0 ≤ (gA x 28 v1.toNatClampNeg) then some ((-12), x) else some ((-11), x) else none else none
-- RX12 poke(IIIII)I
def fX12_poke_183 (v1 : Int32) (x : ST) : Option (Int32 × ST) := if ixok v1 5 = true then if ixok v1 5 = true then (fX12_tabulate v1 (sA x 7 v1 ((gA x 7 v1.toNatClampNeg) + 1))).bind fun q27 => if ixok v1 5 = true then some (gA q27 7 v1.toNatClampNeg, q27) else none else none else none
def fX12_poke_145 : Nat → Int32 → Int32 → Int32 → Int32 → ST → Option (Int32 × ST)
  | 0, _, _, _, _, _ => none
  | n + 1, v1, v7, v8, v9, x => if (gI x 0) ≤ v9 then fX12_poke_183 v1 x else if ixok (v7 + v9) 160 = true then if ixok ((8 * v8) + v9) 360 = true then fX12_poke_145 n v1 v7 v8 (v9 + 1) (sA x 9 ((8 * v8) + v9) (gA x 30 (v7 + v9).toNatClampNeg)) else none else none
def fX12_poke_107 (v1 : Int32) (v2 : Int32) (v7 : Int32) (x : ST) : Option (Int32 × ST) := if ixok v1 5 = true then if (gA x 7 v1.toNatClampNeg) = 9 then some ((-3), x) else if ixok v1 5 = true then if ixok ((9 * v1) + (gA x 7 v1.toNatClampNeg)) 45 = true then fX12_poke_145 200 v1 v7 ((9 * v1) + (gA x 7 v1.toNatClampNeg)) 0 (sA x 8 ((9 * v1) + (gA x 7 v1.toNatClampNeg)) v2) else none else none else none
def fX12_poke_66 : Nat → Int32 → Int32 → Int32 → Int32 → ST → Option (Int32 × ST)
  | 0, _, _, _, _, _ => none
  | n + 1, v1, v2, v7, v8, x => if (gI x 0) ≤ v8 then fX12_poke_107 v1 v2 v7 x else if ixok (v7 + v8) 160 = true then (fX12_in ((gA x 30 (v7 + v8).toNatClampNeg).toInt64) (-999) 999).bind fun q15 => if q15 = 0 then some ((-2), x) else fX12_poke_66 n v1 v2 v7 (v8 + 1) x else none
def fX12_poke (v1 : Int32) (v2 : Int32) (v3 : Int32) (v4 : Int32) (v5 : Int32) (x : ST) : Option (Int32 × ST) := (fX12_isPart v1 x).bind fun q1 => if q1.1 = 0 then some ((-1), q1.2) else (fX12_in v2.toInt64 1 99).bind fun q4 => if q4 = 0 then some ((-1), q1.2) else (fX12_isSheet v3 v4).bind fun q7 => if q7 = 0 then some ((-1), q1.2) else (fX12_against v3 v4 v5 (gI q1.2 0) q1.2).bind fun q10 => if 0 ≤ q10.1 then fX12_poke_66 200 v1 v2 ((40 * v3) + v5) 0 q10.2 else some (q10.1, q10.2)
-- RX12 told(III)I
def fX12_told_135 (kb71 : Int32 → Int32 → Int32 → Int32 → Int32 → ST → Option (Int32 × ST)) (v1 : Int32) (v2 : Int32) (v4 : Int32) (v6 : Int32) (s0 : Int32) (x : ST) : Option (Int32 × ST) := kb71 v1 v2 v4 s0 (v6 + 1) x
def fX12_told_119 (kb71 : Int32 → Int32 → Int32 → Int32 → Int32 → ST → Option (Int32 × ST)) (v1 : Int32) (v2 : Int32) (v5 : Int32) (v6 : Int32) (v7 : Int32) (s0 : Int32) (x : ST) : Option (Int32 × ST) := if v7 ≤ v5 then fX12_told_135 (kb71) v1 v2 s0 v6 v5 x else fX12_told_135 (kb71) v1 v2 s0 v6 v7 x
def fX12_told_71 : Nat → Int32 → Int32 → Int32 → Int32 → Int32 → ST → Option (Int32 × ST)
  | 0, _, _, _, _, _, _ => none
  | n + 1, v1, v2, v4, v5, v6, x => if ixok v2 5 = true then if (gA x 7 v2.toNatClampNeg) ≤ v6 then some (v5 - v4, x) else (fX12_changeOf v2 v6 v1 x).bind fun q16 => if ixok ((9 * v2) + v6) 45 = true then if (gA q16.2 8 ((9 * v2) + v6).toNatClampNeg) = 0 then none else if v4 ≤ (q16.1 / (gA q16.2 8 ((9 * v2) + v6).toNatClampNeg)) then fX12_told_119 (fX12_told_71 n) v1 v2 v5 v6 (q16.1 / (gA q16.2 8 ((9 * v2) + v6).toNatClampNeg)) v4 q16.2 else fX12_told_119 (fX12_told_71 n) v1 v2 v5 v6 (q16.1 / (gA q16.2 8 ((9 * v2) + v6).toNatClampNeg)) (q16.1 / (gA q16.2 8 ((9 * v2) + v6).toNatClampNeg)) q16.2 else none else none
def fX12_told (v1 : Int32) (v2 : Int32) (v3 : Int32) (x : ST) : Option (Int32 × ST) := (fX12_isSpot v1 x).bind fun q1 => if q1.1 = 0 then some ((-10001), q1.2) else (fX12_isPart v2 q1.2).bind fun q4 => if q4.1 = 0 then some ((-10001), q4.2) else (fX12_in v3.toInt64 0 1).bind fun q7 => if q7 = 0 then some ((-10001), q4.2) else if v3 = 0 then if ixok ((5 * v1) + v2) 40 = true then some (gA q4.2 3 ((5 * v1) + v2).toNatClampNeg, q4.2) else none else if ixok v2 5 = true then if (gA q4.2 7 v2.toNatClampNeg) = 0 then some ((-10004), q4.2) else fX12_told_71 200 v1 v2 1000 (-1000) 0 q4.2 else none
-- RX12 dead(IZ)I
def fX12_dead_28 (v1 : Int32) (v2 : Int32) (s0 : Int32) (x : ST) : Option (Int32 × ST) := if ixok v1 5 = true then some (s0, sA x 10 v1 (vp_nar .boolean v2)) else none
def fX12_dead (v1 : Int32) (v2 : Int32) (x : ST) : Option (Int32 × ST) := (fX12_isPart v1 x).bind fun q1 => if q1.1 = 0 then some ((-1), q1.2) else if v1 = 0 then some ((-1), q1.2) else if ixok v1 5 = true then if (gA q1.2 10 v1.toNatClampNeg) = 0 then fX12_dead_28 v1 v2 0 q1.2 else fX12_dead_28 v1 v2 1 q1.2 else none
-- RX12 productOf(II)J
def fX12_productOf_5 : Nat → Int32 → Int32 → Int64 → Int32 → ST → Option (Int64 × ST)
  | 0, _, _, _, _, _ => none
  | n + 1, v1, v2, v3, v5, x => if (gI x 0) ≤ v5 then some (v3, x) else if ixok ((8 * v1) + v5) 40 = true then if ixok ((8 * v2) + v5) 40 = true then fX12_productOf_5 n v1 v2 (v3 + ((gB x 11 ((8 * v1) + v5).toNatClampNeg) * (gB x 11 ((8 * v2) + v5).toNatClampNeg))) (v5 + 1) x else none else none
def fX12_productOf (v1 : Int32) (v2 : Int32) (x : ST) : Option (Int64 × ST) := fX12_productOf_5 200 v1 v2 0 0 x
-- RX12 slopesBy(I)J
def fX12_slopesBy_48 (kb5 : Int32 → Int64 → Int32 → ST → Option (Int64 × ST)) (v1 : Int32) (v4 : Int32) (s0 : Int64) (s1 : Int64) (x : ST) : Option (Int64 × ST) := kb5 v1 (s1 + s0) (v4 + 1) x
def fX12_slopesBy_5 : Nat → Int32 → Int64 → Int32 → ST → Option (Int64 × ST)
  | 0, _, _, _, _ => none
  | n + 1, v1, v2, v4, x => if (gI x 0) ≤ v4 then some (v2, x) else (fX12_isLost v4 x).bind fun q2 => if q2.1 = 0 then if ixok ((8 * v1) + v4) 40 = true then (fX12_slopeOf v4 q2.2).bind fun q6 => fX12_slopesBy_48 (fX12_slopesBy_5 n) v1 v4 ((gB q2.2 11 ((8 * v1) + v4).toNatClampNeg) * q6.1.toInt64) v2 q6.2 else none else fX12_slopesBy_48 (fX12_slopesBy_5 n) v1 v4 0 v2 q2.2
def fX12_slopesBy (v1 : Int32) (x : ST) : Option (Int64 × ST) := fX12_slopesBy_5 200 v1 0 0 x
-- RX12 spanOf(II)J
def fX12_spanOf_130 (kb9 : Int32 → Int32 → Int32 → ST → Option (Int64 × ST)) (kb52 : Int32 → Int32 → Int32 → Int32 → Int64 → Int32 → Int32 → ST → Option (Int64 × ST)) (v1 : Int32) (v2 : Int32) (v3 : Int32) (v4 : Int32) (v5 : Int64) (v7 : Int32) (v8 : Int32) (x : ST) : Option (Int64 × ST) := kb52 v1 v2 v3 v4 v5 v7 (v8 + 1) x
def fX12_spanOf_124 (kb9 : Int32 → Int32 → Int32 → ST → Option (Int64 × ST)) (kb52 : Int32 → Int32 → Int32 → Int32 → Int64 → Int32 → Int32 → ST → Option (Int64 × ST)) (v1 : Int32) (v2 : Int32) (v3 : Int32) (v4 : Int32) (v7 : Int32) (v8 : Int32) (s0 : Int64) (s1 : Int64) (x : ST) : Option (Int64 × ST) := fX12_spanOf_130 (kb9) (kb52) v1 v2 v3 v4 (s1 + s0) (v7 + (-1)) v8 x
def fX12_spanOf_89 (kb9 : Int32 → Int32 → Int32 → ST → Option (Int64 × ST)) (kb52 : Int32 → Int32 → Int32 → Int32 → Int64 → Int32 → Int32 → ST → Option (Int64 × ST)) (v1 : Int32) (v2 : Int32) (v3 : Int32) (v4 : Int32) (v5 : Int64) (v7 : Int32) (v8 : Int32) (s0 : Int32) (s1 : Int32) (x : ST) : Option (Int64 × ST) := if ixok (s1 + s0) 30 = true then if ixok (v3 &&& (((1 : Int32) <<< (v8 &&& 31)) ^^^ (-1))) 32 = true then if (2 : Int32) = 0 then none else if (v7 - v7 / 2 * 2) = 0 then fX12_spanOf_124 (kb9) (kb52) v1 v2 v3 v4 v7 v8 ((gB x 13 (s1 + s0).toNatClampNeg) * (gB x 14 (v3 &&& (((1 : Int32) <<< (v8 &&& 31)) ^^^ (-1))).toNatClampNeg)) v5 x else fX12_spanOf_124 (kb9) (kb52) v1 v2 v3 v4 v7 v8 (-((gB x 13 (s1 + s0).toNatClampNeg) * (gB x 14 (v3 &&& (((1 : Int32) <<< (v8 &&& 31)) ^^^ (-1))).toNatClampNeg))) v5 x else none else none
def fX12_spanOf_136 (kb9 : Int32 → Int32 → Int32 → ST → Option (Int64 × ST)) (v1 : Int32) (v2 : Int32) (v3 : Int32) (v5 : Int64) (x : ST) : Option (Int64 × ST) := if ixok v3 32 = true then kb9 v1 v2 (v3 + 1) (sB x 14 v3 v5) else none
def fX12_spanOf_52 (kb9 : Int32 → Int32 → Int32 → ST → Option (Int64 × ST)) : Nat → Int32 → Int32 → Int32 → Int32 → Int64 → Int32 → Int32 → ST → Option (Int64 × ST)
  | 0, _, _, _, _, _, _, _, _ => none
  | n + 1, v1, v2, v3, v4, v5, v7, v8, x => if v1 ≤ v8 then fX12_spanOf_136 (kb9) v1 v2 v3 v5 x else if ((v3 >>> (v8 &&& 31)) &&& 1) = 1 then if v8 = v2 then fX12_spanOf_89 (kb9) (fX12_spanOf_52 kb9 n) v1 v2 v3 v4 v5 v7 v8 5 (6 * v4) x else fX12_spanOf_89 (kb9) (fX12_spanOf_52 kb9 n) v1 v2 v3 v4 v5 v7 v8 v8 (6 * v4) x else fX12_spanOf_130 (kb9) (fX12_spanOf_52 kb9 n) v1 v2 v3 v4 v5 v7 v8 x
def fX12_spanOf_42 (kb9 : Int32 → Int32 → Int32 → ST → Option (Int64 × ST)) (v1 : Int32) (v2 : Int32) (v3 : Int32) (v4 : Int32) (x : ST) : Option (Int64 × ST) := fX12_spanOf_52 (kb9) 200 v1 v2 v3 v4 0 v4 0 x
def fX12_spanOf_22 (kb9 : Int32 → Int32 → Int32 → ST → Option (Int64 × ST)) : Nat → Int32 → Int32 → Int32 → Int32 → Int32 → ST → Option (Int64 × ST)
  | 0, _, _, _, _, _, _ => none
  | n + 1, v1, v2, v3, v4, v5, x => if v5 = 0 then fX12_spanOf_42 (kb9) v1 v2 v3 v4 x else fX12_spanOf_22 kb9 n v1 v2 v3 (v4 + 1) (v5 &&& (v5 - 1)) x
def fX12_spanOf_150 (v1 : Int32) (x : ST) : Option (Int64 × ST) := if ixok (((1 : Int32) <<< (v1 &&& 31)) - 1) 32 = true then some (gB x 14 (((1 : Int32) <<< (v1 &&& 31)) - 1).toNatClampNeg, x) else none
def fX12_spanOf_9 : Nat → Int32 → Int32 → Int32 → ST → Option (Int64 × ST)
  | 0, _, _, _, _ => none
  | n + 1, v1, v2, v3, x => if ((1 : Int32) <<< (v1 &&& 31)) ≤ v3 then fX12_spanOf_150 v1 x else fX12_spanOf_22 (fX12_spanOf_9 n) 200 v1 v2 v3 (-1) v3 x
def fX12_spanOf (v1 : Int32) (v2 : Int32) (x : ST) : Option (Int64 × ST) := if ixok 0 32 = true then fX12_spanOf_9 200 v1 v2 1 (sB x 14 0 1) else none
-- RX12 findColumns()V
def fX12_findColumns_93 (kb25 : Int32 → Int32 → ST → Option (ST)) (kb50 : Int32 → Int32 → Int32 → ST → Option (ST)) (v1 : Int32) (v2 : Int32) (v3 : Int32) (s0 : Int64) (s1 : Int64) (s2 : Int32) (x : ST) : Option (ST) := if ixok s2 40 = true then kb50 v1 v2 (v3 + 1) (sB x 11 s2 (s1 + s0)) else none
def fX12_findColumns_101 (kb25 : Int32 → Int32 → ST → Option (ST)) (v1 : Int32) (v2 : Int32) (x : ST) : Option (ST) := kb25 v1 (v2 + 1) x
def fX12_findColumns_50 (kb25 : Int32 → Int32 → ST → Option (ST)) : Nat → Int32 → Int32 → Int32 → ST → Option (ST)
  | 0, _, _, _, _ => none
  | n + 1, v1, v2, v3, x => if (gI x 0) ≤ v3 then fX12_findColumns_101 (kb25) v1 v2 x else if ixok ((8 * v1) + v3) 40 = true then (fX12_isLost v3 x).bind fun q12 => if q12.1 = 0 then if ixok ((5 * v3) + v2) 40 = true then fX12_findColumns_93 (kb25) (fX12_findColumns_50 kb25 n) v1 v2 v3 ((gA q12.2 3 ((5 * v3) + v2).toNatClampNeg).toInt64) (gB x 11 ((8 * v1) + v3).toNatClampNeg) ((8 * v1) + v3) q12.2 else none else fX12_findColumns_93 (kb25) (fX12_findColumns_50 kb25 n) v1 v2 v3 0 (gB x 11 ((8 * v1) + v3).toNatClampNeg) ((8 * v1) + v3) q12.2 else none
def fX12_findColumns_47 (kb25 : Int32 → Int32 → ST → Option (ST)) (v2 : Int32) (s0 : Int32) (x : ST) : Option (ST) := fX12_findColumns_50 (kb25) 200 s0 v2 0 x
def fX12_findColumns_272 (kb119 : Int32 → ST → Option (ST)) (v2 : Int32) (x : ST) : Option (ST) := kb119 (v2 + 1) x
def fX12_findColumns_215 (kb119 : Int32 → ST → Option (ST)) (v2 : Int32) (x : ST) : Option (ST) := (fX12_slopesBy v2 x).bind fun q24 => if ixok ((6 * (gI x 2)) + 5) 30 = true then (fX12_spanOf ((gI (sB q24.2 13 ((6 * (gI x 2)) + 5) q24.1) 2) + 1) (-1) (sB q24.2 13 ((6 * (gI x 2)) + 5) q24.1)).bind fun q27 => if q27.1 = 0 then fX12_findColumns_272 (kb119) v2 q27.2 else fX12_findColumns_272 (kb119) v2 (sI (sI q27.2 2 ((gI q27.2 2) + 1)) 3 ((gI (sI q27.2 2 ((gI q27.2 2) + 1)) 3) ||| ((1 : Int32) <<< (v2 &&& 31)))) else none
def fX12_findColumns_148 (kb119 : Int32 → ST → Option (ST)) : Nat → Int32 → Int32 → ST → Option (ST)
  | 0, _, _, _ => none
  | n + 1, v2, v3, x => if (gI x 2) < v3 then fX12_findColumns_215 (kb119) v2 x else if ixok v3 5 = true then (fX12_productOf v2 (gA x 12 v3.toNatClampNeg) x).bind fun q18 => if ixok ((6 * (gI x 2)) + v3) 30 = true then if ixok ((6 * (gI (sB q18.2 13 ((6 * (gI x 2)) + v3) q18.1) 2)) + v3) 30 = true then if ixok ((6 * v3) + (gI (sB q18.2 13 ((6 * (gI x 2)) + v3) q18.1) 2)) 30 = true then fX12_findColumns_148 kb119 n v2 (v3 + 1) (sB (sB q18.2 13 ((6 * (gI x 2)) + v3) q18.1) 13 ((6 * v3) + (gI (sB q18.2 13 ((6 * (gI x 2)) + v3) q18.1) 2)) (gB (sB q18.2 13 ((6 * (gI x 2)) + v3) q18.1) 13 ((6 * (gI (sB q18.2 13 ((6 * (gI x 2)) + v3) q18.1) 2)) + v3).toNatClampNeg)) else none else none else none else none
def fX12_findColumns_119 : Nat → Int32 → ST → Option (ST)
  | 0, _, _ => none
  | n + 1, v2, x => if (gI x 1) ≤ v2 then some x else if ixok v2 5 = true then if (gA x 10 v2.toNatClampNeg) = 0 then if ixok (gI x 2) 5 = true then fX12_findColumns_148 (fX12_findColumns_119 n) 200 v2 0 (sA x 12 (gI x 2) v2) else none else fX12_findColumns_272 (fX12_findColumns_119 n) v2 x else none
def fX12_findColumns_107 (x : ST) : Option (ST) := fX12_findColumns_119 200 0 (sI (sI x 2 0) 3 0)
def fX12_findColumns_25 : Nat → Int32 → Int32 → ST → Option (ST)
  | 0, _, _, _ => none
  | n + 1, v1, v2, x => if (gI x 1) ≤ v2 then fX12_findColumns_107 x else if ixok v2 5 = true then if (gA x 10 v2.toNatClampNeg) = 0 then fX12_findColumns_47 (fX12_findColumns_25 n) v2 v2 x else fX12_findColumns_47 (fX12_findColumns_25 n) v2 v1 x else none
def fX12_findColumns_21 (x : ST) : Option (ST) := fX12_findColumns_25 200 0 0 x
def fX12_findColumns_2 : Nat → Int32 → ST → Option (ST)
  | 0, _, _ => none
  | n + 1, v1, x => if 40 ≤ v1 then fX12_findColumns_21 x else if ixok v1 40 = true then fX12_findColumns_2 n (v1 + 1) (sB x 11 v1 0) else none
def fX12_findColumns  (x : ST) : Option (ST) := fX12_findColumns_2 200 0 x
-- RX12 seen()I
def fX12_seen  (x : ST) : Option (Int32 × ST) := (fX12_findColumns x).bind fun q1 => some (gI q1 3, q1)
-- RX12 common(JJ)J
def fX12_common_17 : Nat → Int64 → Int64 → Option (Int64)
  | 0, _, _ => none
  | n + 1, v4, v6 => if v6 = 0 then some v4 else if v6 = 0 then none else fX12_common_17 n v6 (v4 - v4 / v6 * v6)
def fX12_common_12 (v2 : Int64) (s0 : Int64) : Option (Int64) := fX12_common_17 200 s0 v2
def fX12_common (v0 : Int64) (v2 : Int64) : Option (Int64) := if 0 ≤ v0 then fX12_common_12 v2 v0 else fX12_common_12 v2 (-v0)
-- RX12 findBend(I)V
def fX12_findBend_73 (kb29 : Int32 → Int32 → ST → Option (ST)) (v2 : Int32) (v3 : Int32) (x : ST) : Option (ST) := kb29 v2 (v3 + 1) x
def fX12_findBend_79 (x : ST) : Option (ST) := (fX12_common (gL x 0) (gL x 1)).bind fun q10 => if q10 = 0 then none else if q10 = 0 then none else some (sL (sL x 0 ((gL x 0) / q10)) 1 ((gL (sL x 0 ((gL x 0) / q10)) 1) / q10))
def fX12_findBend_29 : Nat → Int32 → Int32 → ST → Option (ST)
  | 0, _, _, _ => none
  | n + 1, v2, v3, x => if (gI x 2) ≤ v3 then fX12_findBend_79 x else if ixok v3 5 = true then if (gA x 12 v3.toNatClampNeg) = v2 then (fX12_spanOf (gI x 2) v3 x).bind fun q6 => (fX12_spanOf (gI (sL q6.2 0 q6.1) 2) (-1) (sL q6.2 0 q6.1)).bind fun q8 => fX12_findBend_73 (fX12_findBend_29 n) v2 v3 (sL q8.2 1 q8.1) else fX12_findBend_73 (fX12_findBend_29 n) v2 v3 x else none
def fX12_findBend_17 (v2 : Int32) (x : ST) : Option (ST) := fX12_findBend_29 200 v2 0 (sL (sL x 0 0) 1 1)
def fX12_findBend_2 : Nat → Int32 → ST → Option (ST)
  | 0, _, _ => none
  | n + 1, v2, x => if ixok v2 5 = true then if (gA x 10 v2.toNatClampNeg) = 0 then fX12_findBend_17 v2 x else fX12_findBend_2 n (v2 + (-1)) x else none
def fX12_findBend (v1 : Int32) (x : ST) : Option (ST) := fX12_findBend_2 200 v1 x
-- RX12 bend(II)J
def fX12_bend (v1 : Int32) (v2 : Int32) (x : ST) : Option (Int64 × ST) := (fX12_isPart v1 x).bind fun q1 => if q1.1 = 0 then some ((-4611686018427387905), q1.2) else (fX12_in v2.toInt64 0 1).bind fun q4 => if q4 = 0 then some ((-4611686018427387905), q1.2) else (fX12_findColumns q1.2).bind fun q7 => (fX12_findBend v1 q7).bind fun q9 => if v2 = 0 then some (gL q9 0, q9) else some (gL q9 1, q9)
-- RX12 findWholes()V
def fX12_findWholes_117 (kb6 : Int32 → ST → Option (ST)) (v1 : Int32) (s0 : Int64) (s1 : Int32) (x : ST) : Option (ST) := if ixok s1 5 = true then kb6 (v1 + 1) (sA x 15 s1 s0.toInt32) else none
def fX12_findWholes_93 (kb6 : Int32 → ST → Option (ST)) (v1 : Int32) (s0 : Int64) (x : ST) : Option (ST) := if 0 ≤ (gL x 0) then fX12_findWholes_117 (kb6) v1 s0 v1 x else fX12_findWholes_117 (kb6) v1 (-s0) v1 x
def fX12_findWholes_73 (kb6 : Int32 → ST → Option (ST)) (v1 : Int32) (s0 : Int64) (s1 : Int64) (x : ST) : Option (ST) := if (s1 + s0) ≤ 9999 then fX12_findWholes_93 (kb6) v1 (s1 + s0) x else fX12_findWholes_93 (kb6) v1 9999 x
def fX12_findWholes_40 (kb6 : Int32 → ST → Option (ST)) (v1 : Int32) (s0 : Int64) (x : ST) : Option (ST) := if (gL x 1) = 0 then none else if (gL x 1) = 0 then none else if (gL x 1) = 0 then none else if (s0 - s0 / (gL x 1) * (gL x 1)) < ((gL x 1) - (s0 - s0 / (gL x 1) * (gL x 1))) then fX12_findWholes_73 (kb6) v1 0 (s0 / (gL x 1)) x else fX12_findWholes_73 (kb6) v1 1 (s0 / (gL x 1)) x
def fX12_findWholes_6 : Nat → Int32 → ST → Option (ST)
  | 0, _, _ => none
  | n + 1, v1, x => if (gI x 1) ≤ v1 then some x else (fX12_findBend v1 x).bind fun q4 => if 0 ≤ (gL q4 0) then fX12_findWholes_40 (fX12_findWholes_6 n) v1 (gL q4 0) q4 else fX12_findWholes_40 (fX12_findWholes_6 n) v1 (-(gL q4 0)) q4
def fX12_findWholes  (x : ST) : Option (ST) := (fX12_findColumns x).bind fun q1 => fX12_findWholes_6 200 0 q1
-- RX12 whole(I)I
def fX12_whole (v1 : Int32) (x : ST) : Option (Int32 × ST) := (fX12_isPart v1 x).bind fun q1 => if q1.1 = 0 then some ((-10001), q1.2) else (fX12_findWholes q1.2).bind fun q4 => if ixok v1 5 = true then some (gA q4 15 v1.toNatClampNeg, q4) else none
-- RX12 isBeside(III)Z
def fX12_isBeside (v1 : Int32) (v2 : Int32) (v3 : Int32) (x : ST) : Option (Int32 × ST) := if ixok v1 5 = true then if (gA x 10 v1.toNatClampNeg) = 0 then if ixok 5 7 = true then if ixok 5 7 = true then (fX12_in ((v2 - v3).toInt64) ((-(gA x 4 (5 : Int32).toNatClampNeg)).toInt64) ((gA x 4 (5 : Int32).toNatClampNeg).toInt64)).bind fun q5 => if zb01 q5 = true then some (q5, x) else none else none else none else if v2 = v3 then if zb01 1 = true then some (1, x) else none else if zb01 0 = true then some (0, x) else none else none
-- RX12 findNearest()J
def fX12_findNearest_119 (kb14 : Int32 → Int32 → ST → Option (Int64 × ST)) (kb21 : Int32 → Int32 → Int32 → ST → Option (Int64 × ST)) (kb49 : Int32 → Int32 → Int32 → Int64 → Int32 → ST → Option (Int64 × ST)) (v1 : Int32) (v2 : Int32) (v3 : Int32) (v6 : Int32) (s0 : Int64) (x : ST) : Option (Int64 × ST) := kb49 v1 v2 v3 s0 (v6 + 1) x
def fX12_findNearest_112 (kb14 : Int32 → Int32 → ST → Option (Int64 × ST)) (kb21 : Int32 → Int32 → Int32 → ST → Option (Int64 × ST)) (kb49 : Int32 → Int32 → Int32 → Int64 → Int32 → ST → Option (Int64 × ST)) (v1 : Int32) (v2 : Int32) (v3 : Int32) (v6 : Int32) (v7 : Int64) (x : ST) : Option (Int64 × ST) := fX12_findNearest_119 (kb14) (kb21) (kb49) v1 v2 v3 v6 v7 x
def fX12_findNearest_117 (kb14 : Int32 → Int32 → ST → Option (Int64 × ST)) (kb21 : Int32 → Int32 → Int32 → ST → Option (Int64 × ST)) (kb49 : Int32 → Int32 → Int32 → Int64 → Int32 → ST → Option (Int64 × ST)) (v1 : Int32) (v2 : Int32) (v3 : Int32) (v4 : Int64) (v6 : Int32) (x : ST) : Option (Int64 × ST) := fX12_findNearest_119 (kb14) (kb21) (kb49) v1 v2 v3 v6 v4 x
def fX12_findNearest_127 (kb14 : Int32 → Int32 → ST → Option (Int64 × ST)) (kb21 : Int32 → Int32 → Int32 → ST → Option (Int64 × ST)) (v1 : Int32) (v2 : Int32) (v3 : Int32) (v4 : Int64) (x : ST) : Option (Int64 × ST) := if ixok v2 5 = true then if ixok (((121 * v2) + v3) + 60) 605 = true then kb21 v1 v2 (v3 + 1) (sB x 16 (((121 * v2) + v3) + 60) ((((v3 - (gA x 17 v2.toNatClampNeg)).toInt64) * ((v3 - (gA x 17 v2.toNatClampNeg)).toInt64)) + v4)) else none else none
def fX12_findNearest_49 (kb14 : Int32 → Int32 → ST → Option (Int64 × ST)) (kb21 : Int32 → Int32 → Int32 → ST → Option (Int64 × ST)) : Nat → Int32 → Int32 → Int32 → Int64 → Int32 → ST → Option (Int64 × ST)
  | 0, _, _, _, _, _, _ => none
  | n + 1, v1, v2, v3, v4, v6, x => if v1 < v6 then fX12_findNearest_127 (kb14) (kb21) v1 v2 v3 v4 x else if ((gI x 1) - 1) ≤ v2 then fX12_findNearest_127 (kb14) (kb21) v1 v2 v3 v4 x else if ixok (((121 * (v2 + 1)) + v6) + 60) 605 = true then (fX12_isBeside (v2 + 1) v6 v3 x).bind fun q18 => if q18.1 = 0 then fX12_findNearest_117 (kb14) (kb21) (fX12_findNearest_49 kb14 kb21 n) v1 v2 v3 v4 v6 q18.2 else if v4 < 0 then fX12_findNearest_112 (kb14) (kb21) (fX12_findNearest_49 kb14 kb21 n) v1 v2 v3 v6 (gB x 16 (((121 * (v2 + 1)) + v6) + 60).toNatClampNeg) q18.2 else if v4 ≤ (gB x 16 (((121 * (v2 + 1)) + v6) + 60).toNatClampNeg) then fX12_findNearest_117 (kb14) (kb21) (fX12_findNearest_49 kb14 kb21 n) v1 v2 v3 v4 v6 q18.2 else fX12_findNearest_112 (kb14) (kb21) (fX12_findNearest_49 kb14 kb21 n) v1 v2 v3 v6 (gB x 16 (((121 * (v2 + 1)) + v6) + 60).toNatClampNeg) q18.2 else none
def fX12_findNearest_43 (kb14 : Int32 → Int32 → ST → Option (Int64 × ST)) (kb21 : Int32 → Int32 → Int32 → ST → Option (Int64 × ST)) (v1 : Int32) (v2 : Int32) (v3 : Int32) (s0 : Int64) (x : ST) : Option (Int64 × ST) := fX12_findNearest_49 (kb14) (kb21) 200 v1 v2 v3 s0 (-v1) x
def fX12_findNearest_166 (kb14 : Int32 → Int32 → ST → Option (Int64 × ST)) (v1 : Int32) (v2 : Int32) (x : ST) : Option (Int64 × ST) := kb14 v1 (v2 + (-1)) x
def fX12_findNearest_21 (kb14 : Int32 → Int32 → ST → Option (Int64 × ST)) : Nat → Int32 → Int32 → Int32 → ST → Option (Int64 × ST)
  | 0, _, _, _, _ => none
  | n + 1, v1, v2, v3, x => if v1 < v3 then fX12_findNearest_166 (kb14) v1 v2 x else if v2 = ((gI x 1) - 1) then fX12_findNearest_43 (kb14) (fX12_findNearest_21 kb14 n) v1 v2 v3 0 x else fX12_findNearest_43 (kb14) (fX12_findNearest_21 kb14 n) v1 v2 v3 (-1) x
def fX12_findNearest_262 (kb174 : Int32 → Int32 → ST → Option (Int64 × ST)) (kb191 : Int32 → Int32 → Int32 → Int64 → Int32 → ST → Option (Int64 × ST)) (v1 : Int32) (v2 : Int32) (v3 : Int32) (v4 : Int64) (v6 : Int32) (x : ST) : Option (Int64 × ST) := kb191 v1 v2 v3 v4 (v6 + 1) x
def fX12_findNearest_248 (kb174 : Int32 → Int32 → ST → Option (Int64 × ST)) (kb191 : Int32 → Int32 → Int32 → Int64 → Int32 → ST → Option (Int64 × ST)) (v1 : Int32) (v2 : Int32) (v6 : Int32) (v7 : Int64) (x : ST) : Option (Int64 × ST) := if ixok v2 5 = true then fX12_findNearest_262 (kb174) (kb191) v1 v2 1 v7 v6 (sA x 18 v2 v6) else none
def fX12_findNearest_236 (kb174 : Int32 → Int32 → ST → Option (Int64 × ST)) (kb191 : Int32 → Int32 → Int32 → Int64 → Int32 → ST → Option (Int64 × ST)) (v1 : Int32) (v2 : Int32) (v3 : Int32) (v4 : Int64) (v6 : Int32) (v7 : Int64) (x : ST) : Option (Int64 × ST) := if v3 = 0 then fX12_findNearest_248 (kb174) (kb191) v1 v2 v6 v7 x else if v4 ≤ v7 then fX12_findNearest_262 (kb174) (kb191) v1 v2 v3 v4 v6 x else fX12_findNearest_248 (kb174) (kb191) v1 v2 v6 v7 x
def fX12_findNearest_268 (kb174 : Int32 → Int32 → ST → Option (Int64 × ST)) (v1 : Int32) (v2 : Int32) (x : ST) : Option (Int64 × ST) := kb174 v1 (v2 + 1) x
def fX12_findNearest_191 (kb174 : Int32 → Int32 → ST → Option (Int64 × ST)) : Nat → Int32 → Int32 → Int32 → Int64 → Int32 → ST → Option (Int64 × ST)
  | 0, _, _, _, _, _, _ => none
  | n + 1, v1, v2, v3, v4, v6, x => if v1 < v6 then fX12_findNearest_268 (kb174) v1 v2 x else if ixok (((121 * v2) + v6) + 60) 605 = true then if v2 = 0 then fX12_findNearest_236 (kb174) (fX12_findNearest_191 kb174 n) v1 v2 v3 v4 v6 (gB x 16 (((121 * v2) + v6) + 60).toNatClampNeg) x else if ixok (v2 - 1) 5 = true then (fX12_isBeside v2 v6 (gA x 18 (v2 - 1).toNatClampNeg) x).bind fun q12 => if q12.1 = 0 then fX12_findNearest_262 (kb174) (fX12_findNearest_191 kb174 n) v1 v2 v3 v4 v6 q12.2 else fX12_findNearest_236 (kb174) (fX12_findNearest_191 kb174 n) v1 v2 v3 v4 v6 (gB x 16 (((121 * v2) + v6) + 60).toNatClampNeg) q12.2 else none else none
def fX12_findNearest_274 (x : ST) : Option (Int64 × ST) := if ixok 0 5 = true then if ixok ((gA x 18 (0 : Int32).toNatClampNeg) + 60) 605 = true then some (gB x 16 ((gA x 18 (0 : Int32).toNatClampNeg) + 60).toNatClampNeg, x) else none else none
def fX12_findNearest_174 : Nat → Int32 → Int32 → ST → Option (Int64 × ST)
  | 0, _, _, _ => none
  | n + 1, v1, v2, x => if (gI x 1) ≤ v2 then fX12_findNearest_274 x else fX12_findNearest_191 (fX12_findNearest_174 n) 200 v1 v2 0 0 (-v1) x
def fX12_findNearest_172 (v1 : Int32) (x : ST) : Option (Int64 × ST) := fX12_findNearest_174 200 v1 0 x
def fX12_findNearest_14 : Nat → Int32 → Int32 → ST → Option (Int64 × ST)
  | 0, _, _, _ => none
  | n + 1, v1, v2, x => if v2 < 0 then fX12_findNearest_172 v1 x else fX12_findNearest_21 (fX12_findNearest_14 n) 200 v1 v2 (-v1) x
def fX12_findNearest  (x : ST) : Option (Int64 × ST) := if ixok 4 7 = true then fX12_findNearest_14 200 (gA x 4 (4 : Int32).toNatClampNeg) ((gI x 1) - 1) x else none
-- RX12 nearestToWholes()J
def fX12_nearestToWholes_32 (x : ST) : Option (Int64 × ST) := (fX12_findNearest x).bind fun q6 => some (q6.1, q6.2)
def fX12_nearestToWholes_6 : Nat → Int32 → ST → Option (Int64 × ST)
  | 0, _, _ => none
  | n + 1, v1, x => if (gI x 1) ≤ v1 then fX12_nearestToWholes_32 x else if ixok v1 5 = true then if ixok v1 5 = true then fX12_nearestToWholes_6 n (v1 + 1) (sA x 17 v1 (gA x 15 v1.toNatClampNeg)) else none else none
def fX12_nearestToWholes  (x : ST) : Option (Int64 × ST) := (fX12_findWholes x).bind fun q1 => fX12_nearestToWholes_6 200 0 q1
-- RX12 nearest(I)I
def fX12_nearest (v1 : Int32) (x : ST) : Option (Int32 × ST) := (fX12_isPart v1 x).bind fun q1 => if q1.1 = 0 then some ((-10001), q1.2) else (fX12_nearestToWholes q1.2).bind fun q4 => if 0 ≤ q4.1 then if ixok v1 5 = true then some (gA q4.2 18 v1.toNatClampNeg, q4.2) else none else some (0, q4.2)
-- RX12 off()J
def fX12_off  (x : ST) : Option (Int64 × ST) := (fX12_nearestToWholes x).bind fun q1 => some (q1.1, q1.2)
-- RX12 become(I)V
def fX12_become (v1 : Int32) (x : ST) : Option (ST) := some (sI (sI (sI x 5 v1) 6 0) 7 0)
-- RX12 start()I
def fX12_start  (x : ST) : Option (Int32 × ST) := if (gI x 5) = 0 then (fX12_become 1 x).bind fun q2 => some (1, q2) else some ((-2), x)
-- RX12 stop()I
def fX12_stop  (x : ST) : Option (Int32 × ST) := (fX12_become 0 x).bind fun q1 => some (gI x 5, q1)
-- RX12 unitsAll()I
def fX12_unitsAll_4 : Nat → Int32 → Int32 → ST → Option (Int32 × ST)
  | 0, _, _, _ => none
  | n + 1, v1, v2, x => if (gI x 1) ≤ v2 then some (v1, x) else if ixok v2 5 = true then fX12_unitsAll_4 n (v1 + (gA x 19 v2.toNatClampNeg)) (v2 + 1) x else none
def fX12_unitsAll  (x : ST) : Option (Int32 × ST) := fX12_unitsAll_4 200 0 0 x
-- RX12 bendMore()V
def fX12_bendMore_60 : Nat → Int32 → ST → Option (ST)
  | 0, _, _ => none
  | n + 1, v1, x => if (gI x 1) ≤ v1 then some x else if ixok v1 5 = true then if ixok v1 5 = true then fX12_bendMore_60 n (v1 + 1) (sA x 19 v1 (gA x 18 v1.toNatClampNeg)) else none else none
def fX12_bendMore_49 (x : ST) : Option (ST) := (fX12_findNearest x).bind fun q9 => if q9.1 < 0 then some q9.2 else fX12_bendMore_60 200 0 q9.2
def fX12_bendMore_6 : Nat → Int32 → ST → Option (ST)
  | 0, _, _ => none
  | n + 1, v1, x => if (gI x 1) ≤ v1 then fX12_bendMore_49 x else if ixok v1 5 = true then if ixok 3 7 = true then if ixok v1 5 = true then if (100 : Int32) = 0 then none else if ixok v1 5 = true then fX12_bendMore_6 n (v1 + 1) (sA x 17 v1 ((gA x 19 v1.toNatClampNeg) - (((gA x 4 (3 : Int32).toNatClampNeg) * (gA x 15 v1.toNatClampNeg)) / 100))) else none else none else none else none
def fX12_bendMore  (x : ST) : Option (ST) := (fX12_findWholes x).bind fun q1 => fX12_bendMore_6 200 0 q1
-- RX12 frame()V
def fX12_frame_26 (kb4 : Int32 → Int32 → ST → Option (ST)) (v2 : Int32) (s0 : Int32) (s1 : Int32) (x : ST) : Option (ST) := kb4 (s1 + s0) (v2 + 1) x
def fX12_frame_187 (v1 : Int32) (x : ST) : Option (ST) := if (30 : Int32) = 0 then none else if ixok ((gI x 8) - (gI x 8) / 30 * 30) 30 = true then if ixok ((gI x 8) - (gI x 8) / 30 * 30) 30 = true then (fX12_unitsAll (sA (sA x 20 ((gI x 8) - (gI x 8) / 30 * 30) (gI x 5)) 21 ((gI x 8) - (gI x 8) / 30 * 30) v1)).bind fun q28 => if ixok ((gI x 8) - (gI x 8) / 30 * 30) 30 = true then some (sI (sA q28.2 22 ((gI x 8) - (gI x 8) / 30 * 30) q28.1) 8 ((gI (sA q28.2 22 ((gI x 8) - (gI x 8) / 30 * 30) q28.1) 8) + 1)) else none else none else none
def fX12_frame_169 : Nat → Int32 → Int32 → ST → Option (ST)
  | 0, _, _, _ => none
  | n + 1, v1, v3, x => if 5 ≤ v3 then fX12_frame_187 v1 x else if ixok v3 5 = true then fX12_frame_169 n v1 (v3 + 1) (sA x 19 v3 0) else none
def fX12_frame_65 (v1 : Int32) (v2 : Int32) (s0 : Int32) (x : ST) : Option (ST) := if (gI (sI (sI x 6 s0) 7 ((gI (sI x 6 s0) 7) + 1)) 5) = 1 then if (gI (sI (sI x 6 s0) 7 ((gI (sI x 6 s0) 7) + 1)) 6) = 3 then (fX12_become 2 (sI (sI x 6 s0) 7 ((gI (sI x 6 s0) 7) + 1))).bind fun q23 => fX12_frame_187 v1 q23 else fX12_frame_187 v1 (sI (sI x 6 s0) 7 ((gI (sI x 6 s0) 7) + 1)) else if (gI (sI (sI x 6 s0) 7 ((gI (sI x 6 s0) 7) + 1)) 5) = 2 then if v2 = 0 then (fX12_become 3 (sI (sI x 6 s0) 7 ((gI (sI x 6 s0) 7) + 1))).bind fun q18 => fX12_frame_187 v1 q18 else (fX12_bendMore (sI (sI x 6 s0) 7 ((gI (sI x 6 s0) 7) + 1))).bind fun q20 => fX12_frame_187 v1 q20 else if (gI (sI (sI x 6 s0) 7 ((gI (sI x 6 s0) 7) + 1)) 5) = 3 then if (gI (sI (sI x 6 s0) 7 ((gI (sI x 6 s0) 7) + 1)) 6) = 5 then (fX12_become 2 (sI (sI x 6 s0) 7 ((gI (sI x 6 s0) 7) + 1))).bind fun q15 => fX12_frame_187 v1 q15 else if (gI (sI (sI x 6 s0) 7 ((gI (sI x 6 s0) 7) + 1)) 7) = 20 then (fX12_become 0 (sI (sI x 6 s0) 7 ((gI (sI x 6 s0) 7) + 1))).bind fun q13 => fX12_frame_169 200 v1 0 q13 else fX12_frame_187 v1 (sI (sI x 6 s0) 7 ((gI (sI x 6 s0) 7) + 1)) else fX12_frame_187 v1 (sI (sI x 6 s0) 7 ((gI (sI x 6 s0) 7) + 1))
def fX12_frame_49 (v1 : Int32) (s0 : Int32) (x : ST) : Option (ST) := if s0 = 0 then fX12_frame_65 v1 s0 0 x else fX12_frame_65 v1 s0 ((gI x 6) + 1) x
def fX12_frame_34 (v1 : Int32) (x : ST) : Option (ST) := if ixok 2 7 = true then if (gA x 4 (2 : Int32).toNatClampNeg) < v1 then fX12_frame_49 v1 0 x else fX12_frame_49 v1 1 x else none
def fX12_frame_4 : Nat → Int32 → Int32 → ST → Option (ST)
  | 0, _, _, _ => none
  | n + 1, v1, v2, x => if (gI x 0) ≤ v2 then fX12_frame_34 v1 x else (fX12_isLost v2 x).bind fun q2 => if q2.1 = 0 then fX12_frame_26 (fX12_frame_4 n) v2 0 v1 q2.2 else fX12_frame_26 (fX12_frame_4 n) v2 1 v1 q2.2
def fX12_frame  (x : ST) : Option (ST) := fX12_frame_4 200 0 0 x
-- RX12 frames(I)I
def fX12_frames_16 : Nat → Int32 → Int32 → ST → Option (Int32 × ST)
  | 0, _, _, _ => none
  | n + 1, v1, v2, x => if v1 ≤ v2 then some (gI x 5, x) else (fX12_frame x).bind fun q5 => fX12_frames_16 n v1 (v2 + 1) q5
def fX12_frames (v1 : Int32) (x : ST) : Option (Int32 × ST) := (fX12_in v1.toInt64 1 100).bind fun q1 => if q1 = 0 then some ((-1), x) else fX12_frames_16 200 v1 0 x
-- RX12 state(I)I
def fX12_state (v1 : Int32) (x : ST) : Option (Int32 × ST) := (fX12_in v1.toInt64 0 (((gI x 1) + 2).toInt64)).bind fun q1 => if q1 = 0 then some ((-10001), x) else if (gI x 1) ≤ v1 then if v1 = (gI x 1) then some (gI x 4, x) else if v1 = ((gI x 1) + 1) then some (gI x 5, x) else some (gI x 8, x) else if ixok v1 5 = true then some (gA x 19 v1.toNatClampNeg, x) else none
-- RX12 units(II)I
def fX12_units (v1 : Int32) (v2 : Int32) (x : ST) : Option (Int32 × ST) := (fX12_isPart v1 x).bind fun q1 => if q1.1 = 0 then some ((-10001), q1.2) else if ixok 4 7 = true then if ixok 4 7 = true then (fX12_in v2.toInt64 ((-(gA q1.2 4 (4 : Int32).toNatClampNeg)).toInt64) ((gA q1.2 4 (4 : Int32).toNatClampNeg).toInt64)).bind fun q6 => if q6 = 0 then some ((-10001), q1.2) else if ixok v1 5 = true then if ixok v1 5 = true then some (gA q1.2 19 v1.toNatClampNeg, sA q1.2 19 v1 v2) else none else none else none else none
-- RX12 shed()I
def fX12_shed_22 : Nat → Int32 → Int32 → ST → Option (Int32 × ST)
  | 0, _, _, _ => none
  | n + 1, v1, v2, x => if (gI x 1) ≤ v2 then some (v1, x) else if ixok v2 5 = true then if ixok v2 5 = true then fX12_shed_22 n v1 (v2 + 1) (sA x 19 v2 ((gA x 19 v2.toNatClampNeg) - v1)) else none else none
def fX12_shed  (x : ST) : Option (Int32 × ST) := (fX12_unitsAll x).bind fun q1 => if (gI q1.2 1) = 0 then none else fX12_shed_22 200 (q1.1 / (gI q1.2 1)) 0 (sI q1.2 4 ((gI q1.2 4) + (q1.1 / (gI q1.2 1))))
-- RX12 log(II)I
def fX12_log_18 (v1 : Int32) (v2 : Int32) (s0 : Int32) (x : ST) : Option (Int32 × ST) := (fX12_in v1.toInt64 0 ((s0 - 1).toInt64)).bind fun q2 => if q2 = 0 then some ((-10001), x) else (fX12_in v2.toInt64 0 2).bind fun q5 => if q5 = 0 then some ((-10001), x) else if (30 : Int32) = 0 then none else if v2 = 0 then if ixok ((((gI x 8) - 1) - v1) - (((gI x 8) - 1) - v1) / 30 * 30) 30 = true then some (gA x 20 ((((gI x 8) - 1) - v1) - (((gI x 8) - 1) - v1) / 30 * 30).toNatClampNeg, x) else none else if v2 = 1 then if ixok ((((gI x 8) - 1) - v1) - (((gI x 8) - 1) - v1) / 30 * 30) 30 = true then some (gA x 21 ((((gI x 8) - 1) - v1) - (((gI x 8) - 1) - v1) / 30 * 30).toNatClampNeg, x) else none else if ixok ((((gI x 8) - 1) - v1) - (((gI x 8) - 1) - v1) / 30 * 30) 30 = true then some (gA x 22 ((((gI x 8) - 1) - v1) - (((gI x 8) - 1) - v1) / 30 * 30).toNatClampNeg, x) else none
def fX12_log (v1 : Int32) (v2 : Int32) (x : ST) : Option (Int32 × ST) := if 30 ≤ (gI x 8) then fX12_log_18 v1 v2 30 x else fX12_log_18 v1 v2 (gI x 8) x
-- RX12 loop(IIIII)I
def fX12_loop_144 (kb107 : Int32 → Int32 → Int32 → Int32 → ST → Option (Int32 × ST)) (v1 : Int32) (v5 : Int32) (v7 : Int32) (v8 : Int32) (s0 : Int32) (s1 : Int32) (x : ST) : Option (Int32 × ST) := if ixok s1 10 = true then kb107 v1 v5 v7 (v8 + 1) (sA x 23 s1 s0) else none
def fX12_loop_107 : Nat → Int32 → Int32 → Int32 → Int32 → ST → Option (Int32 × ST)
  | 0, _, _, _, _, _ => none
  | n + 1, v1, v5, v7, v8, x => if 5 ≤ v8 then some (v5, x) else if v5 ≤ v8 then fX12_loop_144 (fX12_loop_107 n) v1 v5 v7 v8 0 ((5 * v1) + v8) x else if ixok (v7 + v8) 160 = true then fX12_loop_144 (fX12_loop_107 n) v1 v5 v7 v8 (gA x 30 (v7 + v8).toNatClampNeg) ((5 * v1) + v8) x else none
def fX12_loop_104 (v1 : Int32) (v5 : Int32) (v7 : Int32) (x : ST) : Option (Int32 × ST) := fX12_loop_107 200 v1 v5 v7 0 x
def fX12_loop_65 : Nat → Int32 → Int32 → Int32 → Int32 → ST → Option (Int32 × ST)
  | 0, _, _, _, _, _ => none
  | n + 1, v1, v5, v7, v8, x => if v5 ≤ v8 then fX12_loop_104 v1 v5 v7 x else if ixok (v7 + v8) 160 = true then (fX12_in ((gA x 30 (v7 + v8).toNatClampNeg).toInt64) (-50) 50).bind fun q15 => if q15 = 0 then some ((-2), x) else fX12_loop_65 n v1 v5 v7 (v8 + 1) x else none
def fX12_loop (v1 : Int32) (v2 : Int32) (v3 : Int32) (v4 : Int32) (v5 : Int32) (x : ST) : Option (Int32 × ST) := (fX12_in v1.toInt64 0 1).bind fun q1 => if q1 = 0 then some ((-1), x) else (fX12_isSheet v2 v3).bind fun q4 => if q4 = 0 then some ((-1), x) else (fX12_in v5.toInt64 1 5).bind fun q7 => if q7 = 0 then some ((-1), x) else (fX12_against v2 v3 v4 v5 x).bind fun q10 => if 0 ≤ q10.1 then fX12_loop_65 200 v1 v5 ((40 * v2) + v4) 0 q10.2 else some (q10.1, q10.2)
-- RX12 size(J)J
def fX12_size (v0 : Int64) : Option (Int64) := if 0 ≤ v0 then some v0 else some (-v0)
-- RX12 isSteady(I)Z
def fX12_isSteady_55 (kb4 : Int32 → Int32 → Int32 → ST → Option (Int32 × ST)) (v1 : Int32) (v3 : Int32) (s0 : Int32) (x : ST) : Option (Int32 × ST) := kb4 v1 s0 (v3 + 1) x
def fX12_isSteady_154 (kb68 : Int32 → ST → Option (Int32 × ST)) : Nat → Int32 → Int32 → ST → Option (Int32 × ST)
  | 0, _, _, _ => none
  | n + 1, v2, v3, x => if v2 < v3 then kb68 v2 x else if ixok v3 5 = true then if ixok v3 5 = true then fX12_isSteady_154 kb68 n v2 (v3 + 1) (sB x 24 v3 (gB x 25 v3.toNatClampNeg)) else none else none
def fX12_isSteady_149 (kb68 : Int32 → ST → Option (Int32 × ST)) (v2 : Int32) (x : ST) : Option (Int32 × ST) := fX12_isSteady_154 (kb68) 200 (v2 + (-1)) 0 x
def fX12_isSteady_99 (kb68 : Int32 → ST → Option (Int32 × ST)) : Nat → Int32 → Int32 → ST → Option (Int32 × ST)
  | 0, _, _, _ => none
  | n + 1, v2, v3, x => if v2 ≤ v3 then fX12_isSteady_149 (kb68) v2 x else if ixok v2 5 = true then if ixok (v3 + 1) 5 = true then if ixok 0 5 = true then if ixok ((v2 - 1) - v3) 5 = true then if ixok v3 5 = true then fX12_isSteady_99 kb68 n v2 (v3 + 1) (sB x 25 v3 (((gB x 24 v2.toNatClampNeg) * (gB x 24 (v3 + 1).toNatClampNeg)) - ((gB x 24 (0 : Int32).toNatClampNeg) * (gB x 24 ((v2 - 1) - v3).toNatClampNeg)))) else none else none else none else none else none
def fX12_isSteady_242 (x : ST) : Option (Int32 × ST) := if zb01 1 = true then some (1, x) else none
def fX12_isSteady_208 (v2 : Int32) (x : ST) : Option (Int32 × ST) := if v2 < 2 then fX12_isSteady_242 x else if ixok 1 5 = true then (fX12_size (gB x 24 (1 : Int32).toNatClampNeg)).bind fun q35 => if ixok 2 5 = true then if ixok 0 5 = true then (fX12_size ((gB x 24 (2 : Int32).toNatClampNeg) + (gB x 24 (0 : Int32).toNatClampNeg))).bind fun q39 => if q39 ≤ q35 then if zb01 0 = true then some (0, x) else none else fX12_isSteady_242 x else none else none else none
def fX12_isSteady_180 (v2 : Int32) (x : ST) : Option (Int32 × ST) := if v2 ≤ 0 then fX12_isSteady_208 v2 x else if ixok 0 5 = true then (fX12_size (gB x 24 (0 : Int32).toNatClampNeg)).bind fun q20 => if ixok v2 5 = true then (fX12_size (gB x 24 v2.toNatClampNeg)).bind fun q23 => if q20 < q23 then fX12_isSteady_208 v2 x else if zb01 0 = true then some (0, x) else none else none else none
def fX12_isSteady_68 : Nat → Int32 → ST → Option (Int32 × ST)
  | 0, _, _ => none
  | n + 1, v2, x => if v2 ≤ 2 then fX12_isSteady_180 v2 x else if ixok 0 5 = true then (fX12_size (gB x 24 (0 : Int32).toNatClampNeg)).bind fun q11 => if ixok v2 5 = true then (fX12_size (gB x 24 v2.toNatClampNeg)).bind fun q14 => if q11 < q14 then fX12_isSteady_99 (fX12_isSteady_68 n) 200 v2 0 x else if zb01 0 = true then some (0, x) else none else none else none
def fX12_isSteady_62 (v2 : Int32) (x : ST) : Option (Int32 × ST) := if 0 ≤ v2 then fX12_isSteady_68 200 v2 x else if zb01 0 = true then some (0, x) else none
def fX12_isSteady_4 : Nat → Int32 → Int32 → Int32 → ST → Option (Int32 × ST)
  | 0, _, _, _, _ => none
  | n + 1, v1, v2, v3, x => if 5 ≤ v3 then fX12_isSteady_62 v2 x else if ixok v3 10 = true then if ixok (5 + v3) 10 = true then if ixok v3 5 = true then if ixok v3 5 = true then if (gB (sB x 24 v3 ((100 * ((gA x 23 v3.toNatClampNeg).toInt64)) + (v1.toInt64 * ((gA x 23 (5 + v3).toNatClampNeg).toInt64)))) 24 v3.toNatClampNeg) = 0 then fX12_isSteady_55 (fX12_isSteady_4 n) v1 v3 v2 (sB x 24 v3 ((100 * ((gA x 23 v3.toNatClampNeg).toInt64)) + (v1.toInt64 * ((gA x 23 (5 + v3).toNatClampNeg).toInt64)))) else fX12_isSteady_55 (fX12_isSteady_4 n) v1 v3 v3 (sB x 24 v3 ((100 * ((gA x 23 v3.toNatClampNeg).toInt64)) + (v1.toInt64 * ((gA x 23 (5 + v3).toNatClampNeg).toInt64)))) else none else none else none else none
def fX12_isSteady (v1 : Int32) (x : ST) : Option (Int32 × ST) := fX12_isSteady_4 200 v1 (-1) 0 x
-- RX12 steady(I)I
def fX12_steady (v1 : Int32) (x : ST) : Option (Int32 × ST) := (fX12_in v1.toInt64 0 100).bind fun q1 => if q1 = 0 then some ((-1), x) else (fX12_isSteady v1 x).bind fun q4 => if q4.1 = 0 then some (0, q4.2) else some (1, q4.2)
-- RX12 unsteady(II)I
def fX12_unsteady_27 : Nat → Int32 → Int32 → ST → Option (Int32 × ST)
  | 0, _, _, _ => none
  | n + 1, v2, v3, x => if v2 < v3 then some ((-4), x) else (fX12_isSteady v3 x).bind fun q8 => if q8.1 = 0 then some (v3, q8.2) else fX12_unsteady_27 n v2 (v3 + 1) q8.2
def fX12_unsteady (v1 : Int32) (v2 : Int32) (x : ST) : Option (Int32 × ST) := (fX12_in v1.toInt64 0 v2.toInt64).bind fun q1 => if q1 = 0 then some ((-1), x) else (fX12_in v2.toInt64 0 100).bind fun q4 => if q4 = 0 then some ((-1), x) else fX12_unsteady_27 200 v2 v1 x
-- RX12 isLayer(I)Z
def fX12_isLayer (v0 : Int32) : Option (Int32) := (fX12_in v0.toInt64 0 2).bind fun q1 => if zb01 q1 = true then some q1 else none
-- RX12 cell(III)I
def fX12_cell (v1 : Int32) (v2 : Int32) (v3 : Int32) (x : ST) : Option (Int32 × ST) := (fX12_isLayer v1).bind fun q1 => if q1 = 0 then some ((-10001), x) else (fX12_in v2.toInt64 0 31).bind fun q4 => if q4 = 0 then some ((-10001), x) else (fX12_in v3.toInt64 (-99) 99).bind fun q7 => if q7 = 0 then some ((-10001), x) else if ixok ((32 * v1) + v2) 96 = true then if ixok ((32 * v1) + v2) 96 = true then some (gA x 26 ((32 * v1) + v2).toNatClampNeg, sA x 26 ((32 * v1) + v2) v3) else none else none
-- RX12 wind(II)I
def fX12_wind (v1 : Int32) (v2 : Int32) (x : ST) : Option (Int32 × ST) := (fX12_isLayer v1).bind fun q1 => if q1 = 0 then some ((-10001), x) else (fX12_in v2.toInt64 (-31) 31).bind fun q4 => if q4 = 0 then some ((-10001), x) else if ixok v1 3 = true then if ixok v1 3 = true then some (gA x 27 v1.toNatClampNeg, sA x 27 v1 v2) else none else none
-- RX12 foretell(II)I
def fX12_foretell_29 : Nat → Int32 → Int32 → Int32 → Int32 → ST → Option (Int32 × ST)
  | 0, _, _, _, _, _ => none
  | n + 1, v1, v2, v3, v4, x => if 3 ≤ v4 then some (v3, x) else if ixok 6 7 = true then if ixok v4 3 = true then if ixok ((32 * v4) + ((((((gA x 4 (6 : Int32).toNatClampNeg) * v1) + ((gA x 27 v4.toNatClampNeg) * v2)) &&& 31) + 1) &&& 31)) 96 = true then if ixok ((32 * v4) + ((((gA x 4 (6 : Int32).toNatClampNeg) * v1) + ((gA x 27 v4.toNatClampNeg) * v2)) &&& 31)) 96 = true then fX12_foretell_29 n v1 v2 (v3 + ((gA x 26 ((32 * v4) + ((((((gA x 4 (6 : Int32).toNatClampNeg) * v1) + ((gA x 27 v4.toNatClampNeg) * v2)) &&& 31) + 1) &&& 31)).toNatClampNeg) - (gA x 26 ((32 * v4) + ((((gA x 4 (6 : Int32).toNatClampNeg) * v1) + ((gA x 27 v4.toNatClampNeg) * v2)) &&& 31)).toNatClampNeg))) (v4 + 1) x else none else none else none else none
def fX12_foretell (v1 : Int32) (v2 : Int32) (x : ST) : Option (Int32 × ST) := (fX12_isSpot v1 x).bind fun q1 => if q1.1 = 0 then some ((-10001), q1.2) else (fX12_in v2.toInt64 0 9999).bind fun q4 => if q4 = 0 then some ((-10001), q1.2) else fX12_foretell_29 200 v1 v2 0 0 q1.2
-- RX12 guess(III)I
def fX12_guess_192 (kb102 : Int32 → Int32 → Int32 → Int64 → Int32 → ST → Option (Int32 × ST)) (v1 : Int32) (v2 : Int32) (v4 : Int32) (v5 : Int64) (v7 : Int32) (x : ST) : Option (Int32 × ST) := kb102 v1 v2 v4 v5 (v7 + 1) x
def fX12_guess_184 (kb102 : Int32 → Int32 → Int32 → Int64 → Int32 → ST → Option (Int32 × ST)) (v1 : Int32) (v2 : Int32) (v7 : Int32) (v8 : Int64) (x : ST) : Option (Int32 × ST) := fX12_guess_192 (kb102) v1 v2 v7 v8 v7 x
def fX12_guess_169 (kb102 : Int32 → Int32 → Int32 → Int64 → Int32 → ST → Option (Int32 × ST)) (v1 : Int32) (v2 : Int32) (v4 : Int32) (v5 : Int64) (v7 : Int32) (v8 : Int64) (x : ST) : Option (Int32 × ST) := if v5 < 0 then fX12_guess_184 (kb102) v1 v2 v7 v8 x else if v5 ≤ v8 then fX12_guess_192 (kb102) v1 v2 v4 v5 v7 x else fX12_guess_184 (kb102) v1 v2 v7 v8 x
def fX12_guess_115 (kb102 : Int32 → Int32 → Int32 → Int64 → Int32 → ST → Option (Int32 × ST)) : Nat → Int32 → Int32 → Int32 → Int64 → Int32 → Int64 → Int32 → ST → Option (Int32 × ST)
  | 0, _, _, _, _, _, _, _, _ => none
  | n + 1, v1, v2, v4, v5, v7, v8, v10, x => if 32 ≤ v10 then fX12_guess_169 (kb102) v1 v2 v4 v5 v7 v8 x else if ixok ((40 * v1) + v10) 160 = true then if (32 : Int32) = 0 then none else if ixok ((40 * v2) + ((v10 + v7) - (v10 + v7) / 32 * 32)) 160 = true then (fX12_size (((gA x 30 ((40 * v1) + v10).toNatClampNeg).toInt64) - ((gA x 30 ((40 * v2) + ((v10 + v7) - (v10 + v7) / 32 * 32)).toNatClampNeg).toInt64))).bind fun q24 => fX12_guess_115 kb102 n v1 v2 v4 v5 v7 (v8 + q24) (v10 + 1) x else none else none
def fX12_guess_102 : Nat → Int32 → Int32 → Int32 → Int64 → Int32 → ST → Option (Int32 × ST)
  | 0, _, _, _, _, _, _ => none
  | n + 1, v1, v2, v4, v5, v7, x => if 32 ≤ v7 then some (v4, x) else fX12_guess_115 (fX12_guess_102 n) 200 v1 v2 v4 v5 v7 0 0 x
def fX12_guess (v1 : Int32) (v2 : Int32) (v3 : Int32) (x : ST) : Option (Int32 × ST) := (fX12_isSheet v1 v3).bind fun q1 => if q1 = 0 then some ((-1), x) else (fX12_in v2.toInt64 0 3).bind fun q4 => if q4 = 0 then some ((-1), x) else if ixok v1 4 = true then if (gA x 28 v1.toNatClampNeg) < 0 then some ((-11), x) else if ixok v2 4 = true then if 0 ≤ (gA x 28 v2.toNatClampNeg) then if ixok v1 4 = true then if (gA x 28 v1.toNatClampNeg) = v3 then if ixok v2 4 = true then if (gA x 28 v2.toNatClampNeg) = v3 then if ixok v1 4 = true then if (gA x 29 v1.toNatClampNeg) < 32 then some ((-13), x) else if ixok v2 4 = true then if 32 ≤ (gA x 29 v2.toNatClampNeg) then fX12_guess_102 200 v1 v2 0 (-1) 0 x else some ((-13), x) else none else none else some ((-12), x) else none else some ((-12), x) else none else some ((-11), x) else none else none
-- RX12 sheet(III)I
def fX12_sheet_40 : Nat → Int32 → Int32 → Int32 → ST → Option (Int32 × ST)
  | 0, _, _, _, _ => none
  | n + 1, v1, v3, v4, x => if 40 ≤ v4 then some (v3, x) else if ixok ((40 * v1) + v4) 160 = true then fX12_sheet_40 n v1 v3 (v4 + 1) (sA x 30 ((40 * v1) + v4) 0) else none
def fX12_sheet (v1 : Int32) (v2 : Int32) (v3 : Int32) (x : ST) : Option (Int32 × ST) := (fX12_isSheet v1 v2).bind fun q1 => if q1 = 0 then some ((-1), x) else if v3 ≤ 40 then if 0 ≤ v3 then if ixok v1 4 = true then if ixok v1 4 = true then fX12_sheet_40 200 v1 v3 0 (sA (sA x 28 v1 v2) 29 v1 v3) else none else none else some ((-14), x) else some ((-1), x)
-- RX12 drop(I)I
def fX12_drop (v1 : Int32) (x : ST) : Option (Int32 × ST) := (fX12_in v1.toInt64 0 3).bind fun q1 => if q1 = 0 then some ((-1), x) else if ixok v1 4 = true then if 0 ≤ (gA x 28 v1.toNatClampNeg) then if ixok v1 4 = true then if ixok v1 4 = true then some (gA (sA x 28 v1 (-1)) 29 v1.toNatClampNeg, sA x 28 v1 (-1)) else none else none else some ((-11), x) else none
-- RX12 item(IIII)I
def fX12_item_71 (s0 : Int32) (s1 : Int32) (x : ST) : Option (Int32 × ST) := if ixok s1 160 = true then some (1, sA x 30 s1 s0) else none
def fX12_item (v1 : Int32) (v2 : Int32) (v3 : Int32) (v4 : Int32) (x : ST) : Option (Int32 × ST) := (fX12_isSheet v1 v2).bind fun q1 => if q1 = 0 then some ((-1), x) else (fX12_against v1 v2 v3 1 x).bind fun q4 => if 0 ≤ q4.1 then if v2 = 0 then fX12_item_71 ((v4 <<< ((24 : Int32) &&& 31)) >>> ((24 : Int32) &&& 31)) ((40 * v1) + v3) q4.2 else if v2 = 1 then fX12_item_71 ((v4 <<< ((16 : Int32) &&& 31)) >>> ((16 : Int32) &&& 31)) ((40 * v1) + v3) q4.2 else fX12_item_71 v4 ((40 * v1) + v3) q4.2 else some (q4.1, q4.2)
-- RX12 board(IIII)I
def fX12_board_85 (kb50 : Int32 → Int32 → Int32 → Int32 → ST → Option (Int32 × ST)) (v1 : Int32) (v3 : Int32) (v6 : Int32) (v7 : Int32) (x : ST) : Option (Int32 × ST) := kb50 v1 v3 v6 (v7 + 1) x
def fX12_board_94 : Nat → Int32 → Int32 → Int32 → ST → Option (Int32 × ST)
  | 0, _, _, _, _ => none
  | n + 1, v1, v6, v7, x => if 16 ≤ v7 then some (1, x) else if ixok (v6 + v7) 160 = true then if ixok ((16 * v1) + v7) 128 = true then fX12_board_94 n v1 v6 (v7 + 1) (sA x 1 ((16 * v1) + v7) ((gA x 30 (v6 + v7).toNatClampNeg) &&& 255)) else none else none
def fX12_board_91 (v1 : Int32) (v6 : Int32) (x : ST) : Option (Int32 × ST) := fX12_board_94 200 v1 v6 0 x
def fX12_board_50 : Nat → Int32 → Int32 → Int32 → Int32 → ST → Option (Int32 × ST)
  | 0, _, _, _, _, _ => none
  | n + 1, v1, v3, v6, v7, x => if 16 ≤ v7 then fX12_board_91 v1 v6 x else if v3 ≤ 0 then fX12_board_85 (fX12_board_50 n) v1 v3 v6 v7 x else if ixok (v6 + v7) 160 = true then (fX12_in ((gA x 30 (v6 + v7).toNatClampNeg).toInt64) 0 255).bind fun q13 => if q13 = 0 then some ((-2), x) else fX12_board_85 (fX12_board_50 n) v1 v3 v6 v7 x else none
def fX12_board (v1 : Int32) (v2 : Int32) (v3 : Int32) (v4 : Int32) (x : ST) : Option (Int32 × ST) := (fX12_isSpot v1 x).bind fun q1 => if q1.1 = 0 then some ((-1), q1.2) else (fX12_isSheet v2 v3).bind fun q4 => if q4 = 0 then some ((-1), q1.2) else (fX12_against v2 v3 v4 16 q1.2).bind fun q7 => if 0 ≤ q7.1 then fX12_board_50 200 v1 v3 ((40 * v2) + v4) 0 q7.2 else some (q7.1, q7.2)
-- RX12 layer(IIII)I
def fX12_layer_91 : Nat → Int32 → Int32 → Int32 → ST → Option (Int32 × ST)
  | 0, _, _, _, _ => none
  | n + 1, v1, v6, v7, x => if 32 ≤ v7 then some (32, x) else if ixok (v6 + v7) 160 = true then if ixok ((32 * v1) + v7) 96 = true then fX12_layer_91 n v1 v6 (v7 + 1) (sA x 26 ((32 * v1) + v7) (gA x 30 (v6 + v7).toNatClampNeg)) else none else none
def fX12_layer_88 (v1 : Int32) (v6 : Int32) (x : ST) : Option (Int32 × ST) := fX12_layer_91 200 v1 v6 0 x
def fX12_layer_49 : Nat → Int32 → Int32 → Int32 → ST → Option (Int32 × ST)
  | 0, _, _, _, _ => none
  | n + 1, v1, v6, v7, x => if 32 ≤ v7 then fX12_layer_88 v1 v6 x else if ixok (v6 + v7) 160 = true then (fX12_in ((gA x 30 (v6 + v7).toNatClampNeg).toInt64) (-99) 99).bind fun q12 => if q12 = 0 then some ((-2), x) else fX12_layer_49 n v1 v6 (v7 + 1) x else none
def fX12_layer (v1 : Int32) (v2 : Int32) (v3 : Int32) (v4 : Int32) (x : ST) : Option (Int32 × ST) := (fX12_isLayer v1).bind fun q1 => if q1 = 0 then some ((-1), x) else (fX12_isSheet v2 v3).bind fun q4 => if q4 = 0 then some ((-1), x) else (fX12_against v2 v3 v4 32 x).bind fun q7 => if 0 ≤ q7.1 then fX12_layer_49 200 v1 ((40 * v2) + v4) 0 q7.2 else some (q7.1, q7.2)
