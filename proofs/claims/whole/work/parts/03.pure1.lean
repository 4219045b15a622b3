abbrev wX0 (k : Nat → ClassId) (vh vaL vaS : Nat) (vKe : Int32) : va_W := [(vh, .inr (0, [.int vKe, .ref vaL, .ref vaS]))]
abbrev wX1 (k : Nat → ClassId) (vh vrNa vrMo vrWa vrDe : Nat) (vPe : Int32) (vDa : Int32) (vDr : Int32) (vNa : (Nat → Int32)) (vMo : (Nat → Int32)) (vWa : (Nat → Int32)) (vDe : (Nat → Int32)) : va_W := [(vh, .inr (1, [.int vPe, .int vDa, .int vDr, .ref vrNa, .ref vrMo, .ref vrWa, .ref vrDe])), (vrNa, .inl (k 0, 5, .inl vNa)), (vrMo, .inl (k 0, 5, .inl vMo)), (vrWa, .inl (k 0, 5, .inl vWa)), (vrDe, .inl (k 0, 25, .inl vDe))]
abbrev wX2 (k : Nat → ClassId) (vh vaA : Nat) : va_W := [(vh, .inr (2, [.ref vaA]))]
abbrev wX3 (k : Nat → ClassId) (vh vrBy vaD : Nat) (vBy : (Nat → Int32)) (vLe : Int32) (vLi : Int32) (vFf : Int32) (vFp : Int32) (vPl : Int32) (vSo : Int32) (vSt : Int32) (vVa : Int32) (vDt : Int32) (vHo : Int32) : va_W := [(vh, .inr (3, [.ref vrBy, .int vLe, .ref vaD, .int vLi, .int vFf, .int vFp, .int vPl, .int vSo, .int vSt, .int vVa, .int vDt, .int vHo])), (vrBy, .inl (k 0, 160, .inl vBy))]
abbrev wX4 (k : Nat → ClassId) (vh vrRo : Nat) (vRo : (Nat → Int32)) (vSz : Int32) : va_W := [(vh, .inr (4, [.ref vrRo, .int vSz])), (vrRo, .inl (k 0, 5, .inl vRo))]
abbrev wX5 (k : Nat → ClassId) (vh vrDy vrWo vrRi : Nat) (vDy : (Nat → Int32)) (vWo : (Nat → Int32)) (vRi : (Nat → Int32)) (vSz : Int32) : va_W := [(vh, .inr (5, [.ref vrDy, .ref vrWo, .ref vrRi, .int vSz])), (vrDy, .inl (k 0, 6, .inl vDy)), (vrWo, .inl (k 0, 6, .inl vWo)), (vrRi, .inl (k 0, 6, .inl vRi))]
abbrev wX6 (k : Nat → ClassId) (vh vrCe : Nat) (vTh : Int32) (vLa : Int32) (vSz : Int32) (vCe : (Nat → Int32)) : va_W := [(vh, .inr (6, [.int vTh, .int vLa, .int vSz, .ref vrCe])), (vrCe, .inl (k 0, 40, .inl vCe))]
abbrev wX7 (k : Nat → ClassId) (vh vaL vaT vaO vaF vaS vaI vaH vaR vaU : Nat) (vTf : Int32) (vTb : Int32) : va_W := [(vh, .inr (7, [.ref vaL, .ref vaT, .ref vaO, .ref vaF, .ref vaS, .ref vaI, .ref vaH, .ref vaR, .ref vaU, .int vTf, .int vTb]))]
abbrev wX8 (k : Nat → ClassId) (vh vrSt vrNow vrIsKept vrDraft vrTape vrRow vrRode vrWays vrLanes vrSizes vrCells vrBefore : Nat) (vSt : (Nat → Int32)) (vNow : (Nat → Int32)) (vIsKept : (Nat → Int32)) (vPeople : Int32) (vDraft : (Nat → Int32)) (vDPeople : Int32) (vHasDry : Int32) (vToldDebts : Int32) (vHighest : Int32) (vTape : (Nat → Int32)) (vTaped : Int32) (vPos : Int32) (vBegun : Int32) (vSort : Int32) (vValue : Int32) (vFault : Int32) (vWrongAt : Int32) (vPaid : Int32) (vRow : (Nat → Int32)) (vRingMuch : Int32) (vRideSum : Int64) (vOwedSum : Int64) (vAllWays : Int64) (vRode : (Nat → Int32)) (vWays : (Nat → Int32)) (vLanes : (Nat → Int32)) (vSizes : (Nat → Int32)) (vCells : (Nat → Int32)) (vTorn : Int32) (vBefore : (Nat → Int32)) : va_W := [(vh, .inr (8, [.ref vrSt, .ref vrNow, .ref vrIsKept, .int vPeople, .ref vrDraft, .int vDPeople, .int vHasDry, .int vToldDebts, .int vHighest, .ref vrTape, .int vTaped, .int vPos, .int vBegun, .int vSort, .int vValue, .int vFault, .int vWrongAt, .int vPaid, .ref vrRow, .int vRingMuch, .long vRideSum, .long vOwedSum, .long vAllWays, .ref vrRode, .ref vrWays, .ref vrLanes, .ref vrSizes, .ref vrCells, .int vTorn, .ref vrBefore])), (vrSt, .inl (k 0, 183, .inl vSt)), (vrNow, .inl (k 0, 61, .inl vNow)), (vrIsKept, .inl (k 1, 2, .inl vIsKept)), (vrDraft, .inl (k 0, 61, .inl vDraft)), (vrTape, .inl (k 0, 160, .inl vTape)), (vrRow, .inl (k 0, 5, .inl vRow)), (vrRode, .inl (k 0, 31, .inl vRode)), (vrWays, .inl (k 0, 31, .inl vWays)), (vrLanes, .inl (k 0, 4, .inl vLanes)), (vrSizes, .inl (k 0, 4, .inl vSizes)), (vrCells, .inl (k 0, 160, .inl vCells)), (vrBefore, .inl (k 0, 61, .inl vBefore))]
abbrev wU (k : Nat → ClassId) (vh : Nat) (vUb : (Nat → Int32)) : va_W := [(vh, .inl (k 0, 31, .inl vUb))]
abbrev wIA (k : Nat → ClassId) (vh v0 v1 : Nat) : va_W := [(vh, .inl (k 2, 2, .inr (.inr (.inr (.inr (rl [v0, v1]))))))]
abbrev wHA (k : Nat → ClassId) (vh v0 v1 v2 v3 : Nat) : va_W := [(vh, .inl (k 4, 4, .inr (.inr (.inr (.inr (rl [v0, v1, v2, v3]))))))]
abbrev wOA (k : Nat → ClassId) (vh v0 v1 v2 v3 v4 v5 v6 v7 v8 : Nat) : va_W := [(vh, .inl (k 3, 9, .inr (.inr (.inr (.inr (rl [v0, v1, v2, v3, v4, v5, v6, v7, v8]))))))]
abbrev wROW5 (k : Nat → ClassId) (a : Nat) (f : Nat → Int32) : va_W := [(a, .inl (k 0, 5, .inl f))]
def f_X7_within (p1 : Int32) (p2 : Int32) (p3 : Int32) : Option (Int32) :=
  if p1 < p2 then
    some 0
  else
    if p3 < p1 then
      some 0
    else
      some 1
def f_J6_bitCount_0f7a4 (p1 : Int32) : Option (Int32) :=
  b1 (some (p1 - (((p1.toUInt32 >>> ((1 : Int32).toUInt32 &&& Int32.toUInt32 31)).toInt32) &&& 1431655765))) fun (z_1 : Int32) =>
  b1 (some ((z_1 &&& 858993459) + (((z_1.toUInt32 >>> ((2 : Int32).toUInt32 &&& Int32.toUInt32 31)).toInt32) &&& 858993459))) fun (z_2 : Int32) =>
  b1 (some ((z_2 + ((z_2.toUInt32 >>> ((4 : Int32).toUInt32 &&& Int32.toUInt32 31)).toInt32)) &&& 252645135)) fun (z_3 : Int32) =>
  b1 (some (z_3 + ((z_3.toUInt32 >>> ((8 : Int32).toUInt32 &&& Int32.toUInt32 31)).toInt32))) fun (z_4 : Int32) =>
  b1 (some (z_4 + ((z_4.toUInt32 >>> ((16 : Int32).toUInt32 &&& Int32.toUInt32 31)).toInt32))) fun (z_5 : Int32) =>
  some (z_5 &&& 63)
def f_X1_empty : Option (Int32 × Int32 × Int32 × (Nat → Int32)) :=
  some (0, 0, 0, (fun _ => 0))
def f_X1_become (oPe : Int32) (oDa : Int32) (oDr : Int32) (oNa : (Nat → Int32)) (oMo : (Nat → Int32)) (oWa : (Nat → Int32)) (oDe : (Nat → Int32)) : Option (Int32 × Int32 × Int32 × (Nat → Int32) × (Nat → Int32) × (Nat → Int32) × (Nat → Int32)) :=
  some (oPe, oDa, oDr, oNa, oMo, oWa, oDe)
def f_X1_has (xPe : Int32) (p1 : Int32) : Option (Int32) :=
  if p1 < 0 then
    some 0
  else
    if xPe ≤ p1 then
      some 0
    else
      some 1
def f_X1_hasPair (xPe : Int32) (p1 : Int32) (p2 : Int32) : Option (Int32) :=
  b1 (f_X1_has xPe p1) fun (r_1 : Int32) =>
  if r_1 = 0 then
    some 0
  else
    b1 (f_X1_has xPe p2) fun (r_2 : Int32) =>
    if r_2 = 0 then
      some 0
    else
      if p1 = p2 then
        some 0
      else
        some 1
def f_X1_debt (xDe : (Nat → Int32)) (p1 : Int32) (p2 : Int32) : Option (Int32) :=
  b1 (rd xDe 25 ((p1 * 5) + p2)) fun (a_1 : Int32) =>
  some a_1
def f_X1_setDebt (xDe : (Nat → Int32)) (p1 : Int32) (p2 : Int32) (p3 : Int32) : Option ((Nat → Int32)) :=
  b1 (wr xDe 25 ((p1 * 5) + p2) p3) fun (xDe_1 : Nat → Int32) =>
  some xDe_1
def f_X1_owedBy_L4 (xPe : Int32) (xDe : (Nat → Int32)) (p1 : Int32) : Nat → Int32 → Int32 → Option (Int32)
  | 0, _, _ => none
  | n + 1, v2_1, v3_2 =>
    if xPe ≤ v3_2 then
      some v2_1
    else
      b1 (rd xDe 25 ((p1 * 5) + v3_2)) fun (a_4 : Int32) =>
      f_X1_owedBy_L4 xPe xDe p1 n (v2_1 + a_4) (v3_2 + 1)
def f_X1_owedBy (xPe : Int32) (xDe : (Nat → Int32)) (p1 : Int32) : Option (Int32) :=
  b1 (f_X1_owedBy_L4 xPe xDe p1 400 0 0) fun (v2_3 : Int32) =>
  some v2_3
def f_X1_owedTo_L4 (xPe : Int32) (xDe : (Nat → Int32)) (p1 : Int32) : Nat → Int32 → Int32 → Option (Int32)
  | 0, _, _ => none
  | n + 1, v2_1, v3_2 =>
    if xPe ≤ v3_2 then
      some v2_1
    else
      b1 (rd xDe 25 ((v3_2 * 5) + p1)) fun (a_4 : Int32) =>
      f_X1_owedTo_L4 xPe xDe p1 n (v2_1 + a_4) (v3_2 + 1)
def f_X1_owedTo (xPe : Int32) (xDe : (Nat → Int32)) (p1 : Int32) : Option (Int32) :=
  b1 (f_X1_owedTo_L4 xPe xDe p1 400 0 0) fun (v2_3 : Int32) =>
  some v2_3
def f_X1_netOf (xPe : Int32) (xDe : (Nat → Int32)) (p1 : Int32) : Option (Int32) :=
  b1 (f_X1_owedBy xPe xDe p1) fun (r_1 : Int32) =>
  b1 (f_X1_owedTo xPe xDe p1) fun (r_2 : Int32) =>
  some (r_1 - r_2)
def f_X1_owedInAll_L4 (xPe : Int32) (xDe : (Nat → Int32)) : Nat → Int32 → Int32 → Option (Int32)
  | 0, _, _ => none
  | n + 1, v1_1, v2_2 =>
    if xPe ≤ v2_2 then
      some v1_1
    else
      b1 (f_X1_owedBy xPe xDe v2_2) fun (r_4 : Int32) =>
      f_X1_owedInAll_L4 xPe xDe n (v1_1 + r_4) (v2_2 + 1)
def f_X1_owedInAll (xPe : Int32) (xDe : (Nat → Int32)) : Option (Int32) :=
  b1 (f_X1_owedInAll_L4 xPe xDe 400 0 0) fun (v1_3 : Int32) =>
  some v1_3
def f_X1_debtsInAll_L4 (xDe : (Nat → Int32)) : Nat → Int32 → Int32 → Option (Int32)
  | 0, _, _ => none
  | n + 1, v1_1, v2_2 =>
    if 25 ≤ v2_2 then
      some v1_1
    else
      b1 (rd xDe 25 v2_2) fun (a_4 : Int32) =>
      if a_4 ≤ 0 then
        f_X1_debtsInAll_L4 xDe n v1_1 (v2_2 + 1)
      else
        f_X1_debtsInAll_L4 xDe n (v1_1 + 1) (v2_2 + 1)
def f_X1_debtsInAll (xDe : (Nat → Int32)) : Option (Int32) :=
  b1 (f_X1_debtsInAll_L4 xDe 400 0 0) fun (v1_3 : Int32) =>
  some v1_3
def f_X1_moneyInAll_L4 (xPe : Int32) (xMo : (Nat → Int32)) : Nat → Int32 → Int32 → Option (Int32)
  | 0, _, _ => none
  | n + 1, v1_1, v2_2 =>
    if xPe ≤ v2_2 then
      some v1_1
    else
      b1 (rd xMo 5 v2_2) fun (a_4 : Int32) =>
      f_X1_moneyInAll_L4 xPe xMo n (v1_1 + a_4) (v2_2 + 1)
def f_X1_moneyInAll (xPe : Int32) (xMo : (Nat → Int32)) : Option (Int32) :=
  b1 (f_X1_moneyInAll_L4 xPe xMo 400 0 0) fun (v1_3 : Int32) =>
  some v1_3
def f_X1_isRiding (xPe : Int32) (xDe : (Nat → Int32)) (p1 : Int32) : Option (Int32) :=
  b1 (f_X1_owedBy xPe xDe p1) fun (r_1 : Int32) =>
  if r_1 = 0 then
    some 1
  else
    some 0
def f_X1_riders_L4 (xPe : Int32) (xDe : (Nat → Int32)) : Nat → Int32 → Int32 → Option (Int32)
  | 0, _, _ => none
  | n + 1, v1_1, v2_2 =>
    if xPe ≤ v2_2 then
      some v1_1
    else
      b1 (f_X1_isRiding xPe xDe v2_2) fun (r_4 : Int32) =>
      if r_4 = 0 then
        f_X1_riders_L4 xPe xDe n v1_1 (v2_2 + 1)
      else
        f_X1_riders_L4 xPe xDe n (v1_1 ||| ((1 : Int32) <<< (v2_2 &&& 31))) (v2_2 + 1)
def f_X1_riders (xPe : Int32) (xDe : (Nat → Int32)) : Option (Int32) :=
  b1 (f_X1_riders_L4 xPe xDe 400 0 0) fun (v1_3 : Int32) =>
  some v1_3
def f_X1_heightOf (xPe : Int32) (xNa : (Nat → Int32)) (xDe : (Nat → Int32)) (p1 : Int32) : Option (Int32) :=
  b1 (f_X1_isRiding xPe xDe p1) fun (r_1 : Int32) =>
  if r_1 = 0 then
    some 0
  else
    b1 (f_X1_owedTo xPe xDe p1) fun (r_2 : Int32) =>
    b1 (rd xNa 5 p1) fun (a_3 : Int32) =>
    if a_3 = 0 then
      some r_2
    else
      if a_3 = 1 then
        some ((r_2 + 1) / 2)
      else
        if a_3 = 2 then
          some ((2 * r_2) + 1)
        else
          b1 (some (if 0 < (((r_2 + 1) / 2) - 1) then (((r_2 + 1) / 2) - 1) else 0)) fun (z_4 : Int32) =>
          some z_4
def f_X1_willOf (xPe : Int32) (xNa : (Nat → Int32)) (xMo : (Nat → Int32)) (xDe : (Nat → Int32)) (p1 : Int32) : Option (Int32) :=
  b1 (rd xNa 5 p1) fun (a_1 : Int32) =>
  if a_1 = 0 then
    b1 (rd xMo 5 p1) fun (a_2 : Int32) =>
    some a_2
  else
    if a_1 = 1 then
      b1 (rd xMo 5 p1) fun (a_3 : Int32) =>
      some (a_3 / 2)
    else
      if a_1 = 2 then
        b1 (rd xMo 5 p1) fun (a_4 : Int32) =>
        some (a_4 / 4)
      else
        b1 (f_X1_owedBy xPe xDe p1) fun (r_5 : Int32) =>
        if r_5 < 10 then
          some 0
        else
          b1 (rd xMo 5 p1) fun (a_6 : Int32) =>
          some (a_6 / 2)
def f_X1_gain (xMo : (Nat → Int32)) (p1 : Int32) (p2 : Int32) : Option ((Nat → Int32)) :=
  b1 (rd xMo 5 p1) fun (a_1 : Int32) =>
  b1 (
    if (a_1 + p2) ≤ 999 then
      some (a_1 + p2)
    else
      some 999) fun (t_2 : Int32) =>
  b1 (wr xMo 5 p1 t_2) fun (xMo_3 : Nat → Int32) =>
  some xMo_3
def f_X1_lendTo (xPe : Int32) (xMo : (Nat → Int32)) (xDe : (Nat → Int32)) (p1 : Int32) (p2 : Int32) (p3 : Int32) : Option (Int32 × (Nat → Int32) × (Nat → Int32)) :=
  b1 (f_X1_hasPair xPe p1 p2) fun (r_1 : Int32) =>
  if r_1 = 0 then
    some ((-1), xMo, xDe)
  else
    b1 (f_X7_within p3 1 99) fun (r_2 : Int32) =>
    if r_2 = 0 then
      some ((-1), xMo, xDe)
    else
      b1 (f_X1_debt xDe p2 p1) fun (r_3 : Int32) =>
      b1 (rd xMo 5 p1) fun (a_4 : Int32) =>
      if a_4 < p3 then
        some ((-2), xMo, xDe)
      else
        if 99 < (r_3 + p3) then
          some ((-2), xMo, xDe)
        else
          b1 (rd xMo 5 p2) fun (a_5 : Int32) =>
          if (a_5 + p3) ≤ 999 then
            b1 (rd xMo 5 p1) fun (a_6 : Int32) =>
            b1 (wr xMo 5 p1 (a_6 - p3)) fun (xMo_7 : Nat → Int32) =>
            b1 (rd xMo_7 5 p2) fun (a_8 : Int32) =>
            b1 (wr xMo_7 5 p2 (a_8 + p3)) fun (xMo_9 : Nat → Int32) =>
            b1 (f_X1_setDebt xDe p2 p1 (r_3 + p3)) fun (xDe_10 : (Nat → Int32)) =>
            some (r_3 + p3, xMo_9, xDe_10)
          else
            some ((-2), xMo, xDe)
def f_X1_handOver (xMo : (Nat → Int32)) (xDe : (Nat → Int32)) (p1 : Int32) (p2 : Int32) (p3 : Int32) : Option ((Nat → Int32) × (Nat → Int32)) :=
  b1 (rd xMo 5 p1) fun (a_1 : Int32) =>
  b1 (wr xMo 5 p1 (a_1 - p3)) fun (xMo_2 : Nat → Int32) =>
  b1 (f_X1_debt xDe p1 p2) fun (r_3 : Int32) =>
  b1 (f_X1_setDebt xDe p1 p2 (r_3 - p3)) fun (xDe_4 : (Nat → Int32)) =>
  b1 (f_X1_gain xMo_2 p2 p3) fun (xMo_5 : (Nat → Int32)) =>
  some (xMo_5, xDe_4)
def f_X1_payTo (xPe : Int32) (xMo : (Nat → Int32)) (xDe : (Nat → Int32)) (p1 : Int32) (p2 : Int32) (p3 : Int32) : Option (Int32 × (Nat → Int32) × (Nat → Int32)) :=
  b1 (f_X1_hasPair xPe p1 p2) fun (r_1 : Int32) =>
  if r_1 = 0 then
    some ((-1), xMo, xDe)
  else
    b1 (f_X7_within p3 1 99) fun (r_2 : Int32) =>
    if r_2 = 0 then
      some ((-1), xMo, xDe)
    else
      b1 (f_X1_debt xDe p1 p2) fun (r_3 : Int32) =>
      if r_3 < p3 then
        some ((-2), xMo, xDe)
      else
        b1 (rd xMo 5 p1) fun (a_4 : Int32) =>
        if p3 ≤ a_4 then
          b2 (f_X1_handOver xMo xDe p1 p2 p3) fun (xMo_5 : (Nat → Int32)) (xDe_6 : (Nat → Int32)) =>
          b1 (f_X1_debt xDe_6 p1 p2) fun (r_7 : Int32) =>
          some (r_7, xMo_5, xDe_6)
        else
          some ((-2), xMo, xDe)
def f_X1_payOut_L11 (xPe : Int32) (p1 : Int32) : Nat → Int32 → Int32 → (Nat → Int32) → (Nat → Int32) → Option (Int32 × (Nat → Int32) × (Nat → Int32))
  | 0, _, _, _, _ => none
  | n + 1, v3_2, v4_3, xMo_4, xDe_5 =>
    if xPe ≤ v4_3 then
      some (v3_2, xMo_4, xDe_5)
    else
      if v3_2 ≤ 0 then
        some (v3_2, xMo_4, xDe_5)
      else
        b1 (f_X1_debt xDe_5 p1 v4_3) fun (r_9 : Int32) =>
        b1 (some (if r_9 < v3_2 then r_9 else v3_2)) fun (z_10 : Int32) =>
        if z_10 ≤ 0 then
          f_X1_payOut_L11 xPe p1 n v3_2 (v4_3 + 1) xMo_4 xDe_5
        else
          b2 (f_X1_handOver xMo_4 xDe_5 p1 v4_3 z_10) fun (xMo_11 : (Nat → Int32)) (xDe_12 : (Nat → Int32)) =>
          f_X1_payOut_L11 xPe p1 n (v3_2 - z_10) (v4_3 + 1) xMo_11 xDe_12
def f_X1_payOut (xPe : Int32) (xNa : (Nat → Int32)) (xMo : (Nat → Int32)) (xDe : (Nat → Int32)) (p1 : Int32) : Option (Int32 × (Nat → Int32) × (Nat → Int32)) :=
  b1 (f_X1_willOf xPe xNa xMo xDe p1) fun (r_1 : Int32) =>
  b3 (f_X1_payOut_L11 xPe p1 400 r_1 0 xMo xDe) fun (v3_6 : Int32) (xMo_7 : (Nat → Int32)) (xDe_8 : (Nat → Int32)) =>
  some (r_1 - v3_6, xMo_7, xDe_8)
def f_X1_runDay_L2 (xPe : Int32) (xWa : (Nat → Int32)) (p1 : Int32) : Nat → Int32 → (Nat → Int32) → Option ((Nat → Int32))
  | 0, _, _ => none
  | n + 1, v2_1, xMo_2 =>
    if xPe ≤ v2_1 then
      some xMo_2
    else
      b1 (rd xWa 5 v2_1) fun (a_4 : Int32) =>
      b1 (some (if 0 < (a_4 - p1) then (a_4 - p1) else 0)) fun (z_5 : Int32) =>
      b1 (f_X1_gain xMo_2 v2_1 z_5) fun (xMo_6 : (Nat → Int32)) =>
      f_X1_runDay_L2 xPe xWa p1 n (v2_1 + 1) xMo_6
def f_X1_runDay_L37 (xPe : Int32) (xNa : (Nat → Int32)) : Nat → Int32 → Int32 → (Nat → Int32) → (Nat → Int32) → Option (Int32 × (Nat → Int32) × (Nat → Int32))
  | 0, _, _, _, _ => none
  | n + 1, v2_7, v3_8, xMo_9, xDe_10 =>
    if xPe ≤ v3_8 then
      some (v2_7, xMo_9, xDe_10)
    else
      b3 (f_X1_payOut xPe xNa xMo_9 xDe_10 v3_8) fun (r_14 : Int32) (xMo_15 : (Nat → Int32)) (xDe_16 : (Nat → Int32)) =>
      f_X1_runDay_L37 xPe xNa n (v2_7 + r_14) (v3_8 + 1) xMo_15 xDe_16
def f_X1_runDay (xPe : Int32) (xDa : Int32) (xNa : (Nat → Int32)) (xMo : (Nat → Int32)) (xWa : (Nat → Int32)) (xDe : (Nat → Int32)) (p1 : Int32) : Option (Int32 × Int32 × (Nat → Int32) × (Nat → Int32)) :=
  b1 (f_X1_runDay_L2 xPe xWa p1 400 0 xMo) fun (xMo_3 : (Nat → Int32)) =>
  b3 (f_X1_runDay_L37 xPe xNa 400 0 0 xMo_3 xDe) fun (v2_11 : Int32) (xMo_12 : (Nat → Int32)) (xDe_13 : (Nat → Int32)) =>
  some (v2_11, xDa + 1, xMo_12, xDe_13)
def f_X1_runDays_L4 (xPe : Int32) (xDr : Int32) (xNa : (Nat → Int32)) (xWa : (Nat → Int32)) (p1 : Int32) : Nat → Int32 → Int32 → Int32 → (Nat → Int32) → (Nat → Int32) → Option (Int32 × Int32 × (Nat → Int32) × (Nat → Int32))
  | 0, _, _, _, _, _ => none
  | n + 1, v2_1, v3_2, xDa_3, xMo_4, xDe_5 =>
    if p1 ≤ v3_2 then
      some (v2_1, xDa_3, xMo_4, xDe_5)
    else
      b4 (f_X1_runDay xPe xDa_3 xNa xMo_4 xWa xDe_5 xDr) fun (r_10 : Int32) (xDa_11 : Int32) (xMo_12 : (Nat → Int32)) (xDe_13 : (Nat → Int32)) =>
      f_X1_runDays_L4 xPe xDr xNa xWa p1 n (v2_1 + r_10) (v3_2 + 1) xDa_11 xMo_12 xDe_13
def f_X1_runDays (xPe : Int32) (xDa : Int32) (xDr : Int32) (xNa : (Nat → Int32)) (xMo : (Nat → Int32)) (xWa : (Nat → Int32)) (xDe : (Nat → Int32)) (p1 : Int32) : Option (Int32 × Int32 × (Nat → Int32) × (Nat → Int32)) :=
  b4 (f_X1_runDays_L4 xPe xDr xNa xWa p1 400 0 0 xDa xMo xDe) fun (v2_6 : Int32) (xDa_7 : Int32) (xMo_8 : (Nat → Int32)) (xDe_9 : (Nat → Int32)) =>
  some (v2_6, xDa_7, xMo_8, xDe_9)
def f_X1_ridersInTheEnd_L2 (xPe : Int32) (xDr : Int32) (xNa : (Nat → Int32)) (xWa : (Nat → Int32)) : Nat → Int32 → Int32 → (Nat → Int32) → (Nat → Int32) → Option (Int32 × (Nat → Int32) × (Nat → Int32))
  | 0, _, _, _, _ => none
  | n + 1, v1_1, xDa_2, xMo_3, xDe_4 =>
    if 30 ≤ v1_1 then
      some (xDa_2, xMo_3, xDe_4)
    else
      b4 (f_X1_runDay xPe xDa_2 xNa xMo_3 xWa xDe_4 xDr) fun (r_8 : Int32) (xDa_9 : Int32) (xMo_10 : (Nat → Int32)) (xDe_11 : (Nat → Int32)) =>
      f_X1_ridersInTheEnd_L2 xPe xDr xNa xWa n (v1_1 + 1) xDa_9 xMo_10 xDe_11
def f_X1_ridersInTheEnd (xPe : Int32) (xDa : Int32) (xDr : Int32) (xNa : (Nat → Int32)) (xMo : (Nat → Int32)) (xWa : (Nat → Int32)) (xDe : (Nat → Int32)) : Option (Int32 × Int32 × (Nat → Int32) × (Nat → Int32)) :=
  b3 (f_X1_ridersInTheEnd_L2 xPe xDr xNa xWa 400 0 xDa xMo xDe) fun (xDa_5 : Int32) (xMo_6 : (Nat → Int32)) (xDe_7 : (Nat → Int32)) =>
  b1 (f_X1_riders xPe xDe_7) fun (r_12 : Int32) =>
  b1 (f_J6_bitCount_0f7a4 r_12) fun (r_13 : Int32) =>
  some (r_13, xDa_5, xMo_6, xDe_7)
def f_X1_daysTillRiding_L2 (xPe : Int32) (xDr : Int32) (xNa : (Nat → Int32)) (xWa : (Nat → Int32)) (p1 : Int32) : Nat → Int32 → Int32 → (Nat → Int32) → (Nat → Int32) → Option ((Int32 × Int32 × (Nat → Int32) × (Nat → Int32)) ⊕ (Int32 × (Nat → Int32) × (Nat → Int32)))
  | 0, _, _, _, _ => none
  | n + 1, v2_1, xDa_2, xMo_3, xDe_4 =>
    if 60 < v2_1 then
      some (Sum.inr (xDa_2, xMo_3, xDe_4))
    else
      b1 (f_X1_isRiding xPe xDe_4 p1) fun (r_8 : Int32) =>
      if r_8 = 0 then
        b4 (f_X1_runDay xPe xDa_2 xNa xMo_3 xWa xDe_4 xDr) fun (r_9 : Int32) (xDa_10 : Int32) (xMo_11 : (Nat → Int32)) (xDe_12 : (Nat → Int32)) =>
        f_X1_daysTillRiding_L2 xPe xDr xNa xWa p1 n (v2_1 + 1) xDa_10 xMo_11 xDe_12
      else
        some (Sum.inl (v2_1, xDa_2, xMo_3, xDe_4))
def f_X1_daysTillRiding (xPe : Int32) (xDa : Int32) (xDr : Int32) (xNa : (Nat → Int32)) (xMo : (Nat → Int32)) (xWa : (Nat → Int32)) (xDe : (Nat → Int32)) (p1 : Int32) : Option (Int32 × Int32 × (Nat → Int32) × (Nat → Int32)) :=
  bs3 (f_X1_daysTillRiding_L2 xPe xDr xNa xWa p1 400 0 xDa xMo xDe) fun (xDa_5 : Int32) (xMo_6 : (Nat → Int32)) (xDe_7 : (Nat → Int32)) =>
  some ((-4), xDa_5, xMo_6, xDe_7)
def f_X1_daysTillAllRide_L2 (xPe : Int32) (xDr : Int32) (xNa : (Nat → Int32)) (xWa : (Nat → Int32)) (p1 : Int32) : Nat → Int32 → Int32 → (Nat → Int32) → (Nat → Int32) → Option ((Int32 × Int32 × (Nat → Int32) × (Nat → Int32)) ⊕ (Int32 × (Nat → Int32) × (Nat → Int32)))
  | 0, _, _, _, _ => none
  | n + 1, v2_1, xDa_2, xMo_3, xDe_4 =>
    if p1 < v2_1 then
      some (Sum.inr (xDa_2, xMo_3, xDe_4))
    else
      b1 (f_X1_owedInAll xPe xDe_4) fun (r_8 : Int32) =>
      if r_8 = 0 then
        some (Sum.inl (v2_1, xDa_2, xMo_3, xDe_4))
      else
        b4 (f_X1_runDay xPe xDa_2 xNa xMo_3 xWa xDe_4 xDr) fun (r_9 : Int32) (xDa_10 : Int32) (xMo_11 : (Nat → Int32)) (xDe_12 : (Nat → Int32)) =>
        f_X1_daysTillAllRide_L2 xPe xDr xNa xWa p1 n (v2_1 + 1) xDa_10 xMo_11 xDe_12
def f_X1_daysTillAllRide (xPe : Int32) (xDa : Int32) (xDr : Int32) (xNa : (Nat → Int32)) (xMo : (Nat → Int32)) (xWa : (Nat → Int32)) (xDe : (Nat → Int32)) (p1 : Int32) : Option (Int32 × Int32 × (Nat → Int32) × (Nat → Int32)) :=
  bs3 (f_X1_daysTillAllRide_L2 xPe xDr xNa xWa p1 400 0 xDa xMo xDe) fun (xDa_5 : Int32) (xMo_6 : (Nat → Int32)) (xDe_7 : (Nat → Int32)) =>
  some ((-4), xDa_5, xMo_6, xDe_7)
