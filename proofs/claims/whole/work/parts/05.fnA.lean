def xX4_now (P : Nat → Nat → Int32)   : Option (Int32) :=
  some (P 9 0)
def xX4_newThing_2   : Nat → Int32 → Int32 → Int32 → (Nat → Nat → Int32) → Option (Int32 × (Nat → Nat → Int32))
  | 0, _, _, _, _ => none
  | n + 1, x1, x2, x3, P => if (20 : Int32) ≤ x3 then some ((-4), P) else grd (ix x3 20) (if (P 0 (Int32.toNatClampNeg x3)) = (-1) then grd (ix x3 20) (lt1 (st P 0 (Int32.toNatClampNeg x3) x1) (fun P5 => grd (ix x3 20) (lt1 (st P5 1 (Int32.toNatClampNeg x3) x2) (fun P8 => some (x3, P8))))) else (xX4_newThing_2 n) x1 x2 (x3 + 1) P)
def xX4_newThing  (P : Nat → Nat → Int32) (p1 : Int32) (p2 : Int32) : Option (Int32 × (Nat → Nat → Int32)) :=
  xX4_newThing_2 600 p1 p2 0 P
def xX4_setQuota  (P : Nat → Nat → Int32) (p1 : Int32) (p2 : Int32) : Option ((Nat → Nat → Int32)) :=
  if p1 < 0 then some P else if (20 : Int32) ≤ p1 then some P else grd (ix p1 20) (lt1 (st P 5 (Int32.toNatClampNeg p1) p2) (fun P4 => some P4))
def xX4_refusalOfNumber (P : Nat → Nat → Int32)  (p1 : Int32) : Option (Int32) :=
  if p1 < 0 then some (-12) else if p1 < 20 then grd (ix p1 20) (if (P 0 (Int32.toNatClampNeg p1)) = (-1) then some (-11) else some 0) else some (-12)
def xX4_kindOf (P : Nat → Nat → Int32)  (p1 : Int32) : Option (Int32) :=
  if p1 < 0 then some (-1) else if (20 : Int32) ≤ p1 then some (-1) else grd (ix p1 20) (some (P 0 (Int32.toNatClampNeg p1)))
def xX4_refusalAs_51 (P : Nat → Nat → Int32)  (y0 : Int32)  : Option (Int32) :=
  if y0 = 0 then some (-13) else some 0
def xX4_refusalAs_35 (P : Nat → Nat → Int32)  (x2 : Int32) (x4 : Int32)  : Option (Int32) :=
  if x4 = 3 then if x2 = 2 then xX4_refusalAs_51 P 1 else xX4_refusalAs_51 P 0 else xX4_refusalAs_51 P 0
def xX4_refusalAs (P : Nat → Nat → Int32)  (p1 : Int32) (p2 : Int32) : Option (Int32) :=
  bn1 (xX4_refusalOfNumber P p1) (fun v4 => if v4 = 0 then bn1 (xX4_kindOf P p1) (fun v7 => if v7 = p2 then xX4_refusalAs_51 P 1 else if v7 = 1 then if p2 = 0 then xX4_refusalAs_51 P 1 else xX4_refusalAs_35 P p2 v7 else xX4_refusalAs_35 P p2 v7) else some v4)
def xX4_quotaOf (P : Nat → Nat → Int32)  (p1 : Int32) : Option (Int32) :=
  if p1 < 0 then some (-1) else if (20 : Int32) ≤ p1 then some (-1) else grd (ix p1 20) (some (P 5 (Int32.toNatClampNeg p1)))
def xX4_blockIn (P : Nat → Nat → Int32)  (p1 : Int32) (p2 : Int32) : Option (Int32) :=
  if p1 < 0 then some (-1) else if (20 : Int32) ≤ p1 then some (-1) else if p2 < 0 then some (-1) else if (12 : Int32) ≤ p2 then some (-1) else grd (ix ((p1 * 12) + p2) 240) (some (P 6 (Int32.toNatClampNeg ((p1 * 12) + p2))))
def xX4_sizeOf (P : Nat → Nat → Int32)  (p1 : Int32) : Option (Int32) :=
  if p1 < 0 then some 0 else if (96 : Int32) ≤ p1 then some 0 else grd (ix p1 96) (some (P 7 (Int32.toNatClampNeg p1)))
def xX4_spaceOf_5 (P : Nat → Nat → Int32)  : Nat → Int32 → Int64 → Int32 → Option (Int64)
  | 0, _, _, _ => none
  | n + 1, x1, x2, x4 => if (12 : Int32) ≤ x4 then some x2 else bn1 (xX4_blockIn P x1 x4) (fun v2 => bn1 (xX4_sizeOf P v2) (fun v4 => (xX4_spaceOf_5 P n) x1 (x2 + (Int32.toInt64 v4)) (x4 + 1)))
def xX4_spaceOf (P : Nat → Nat → Int32)  (p1 : Int32) : Option (Int64) :=
  xX4_spaceOf_5 P 600 p1 0 0
def xX4_newBlock_2   : Nat → Int32 → Int32 → (Nat → Nat → Int32) → Option (Int32 × (Nat → Nat → Int32))
  | 0, _, _, _ => none
  | n + 1, x1, x2, P => if (96 : Int32) ≤ x2 then some ((-4), P) else grd (ix x2 96) (if (P 7 (Int32.toNatClampNeg x2)) = 0 then grd (ix x2 96) (lt1 (st P 7 (Int32.toNatClampNeg x2) x1) (fun P5 => grd (ix x2 96) (lt1 (st P5 8 (Int32.toNatClampNeg x2) (P5 9 0)) (fun P8 => some (x2, P8))))) else (xX4_newBlock_2 n) x1 (x2 + 1) P)
def xX4_newBlock  (P : Nat → Nat → Int32) (p1 : Int32) : Option (Int32 × (Nat → Nat → Int32)) :=
  xX4_newBlock_2 600 p1 0 P
def xX4_setSlot  (P : Nat → Nat → Int32) (p1 : Int32) (p2 : Int32) (p3 : Int32) : Option ((Nat → Nat → Int32)) :=
  if p1 < 0 then some P else if (20 : Int32) ≤ p1 then some P else if p2 < 0 then some P else if (12 : Int32) ≤ p2 then some P else grd (ix ((p1 * 12) + p2) 240) (lt1 (st P 6 (Int32.toNatClampNeg ((p1 * 12) + p2)) p3) (fun P6 => some P6))
def xX4_birthOf (P : Nat → Nat → Int32)  (p1 : Int32) : Option (Int32) :=
  if p1 < 0 then some 0 else if (96 : Int32) ≤ p1 then some 0 else grd (ix p1 96) (some (P 8 (Int32.toNatClampNeg p1)))
def xX4_prevOf (P : Nat → Nat → Int32)  (p1 : Int32) : Option (Int32) :=
  if p1 < 0 then some (-1) else if (20 : Int32) ≤ p1 then some (-1) else grd (ix p1 20) (some (P 2 (Int32.toNatClampNeg p1)))
def xX4_madeOf (P : Nat → Nat → Int32)  (p1 : Int32) : Option (Int32) :=
  if p1 < 0 then some 0 else if (20 : Int32) ≤ p1 then some 0 else grd (ix p1 20) (some (P 1 (Int32.toNatClampNeg p1)))
def xX4_freeBlock  (P : Nat → Nat → Int32) (p1 : Int32) : Option ((Nat → Nat → Int32)) :=
  if p1 < 0 then some P else if (96 : Int32) ≤ p1 then some P else grd (ix p1 96) (lt1 (st P 7 (Int32.toNatClampNeg p1) 0) (fun P4 => grd (ix p1 96) (lt1 (st P4 8 (Int32.toNatClampNeg p1) 0) (fun P7 => lt1 (st P7 10 0 ((P7 10 0) + 1)) (fun P9 => some P9)))))
def xX4_copySlots_2   : Nat → Int32 → Int32 → Int32 → (Nat → Nat → Int32) → Option ((Nat → Nat → Int32))
  | 0, _, _, _, _ => none
  | n + 1, x1, x2, x3, P => if (12 : Int32) ≤ x3 then some P else bn1 (xX4_blockIn P x1 x3) (fun v2 => bn1 (xX4_setSlot P x2 x3 v2) (fun P4 => (xX4_copySlots_2 n) x1 x2 (x3 + 1) P4))
def xX4_copySlots  (P : Nat → Nat → Int32) (p1 : Int32) (p2 : Int32) : Option ((Nat → Nat → Int32)) :=
  xX4_copySlots_2 600 p1 p2 0 P
def xX4_setPrev  (P : Nat → Nat → Int32) (p1 : Int32) (p2 : Int32) : Option ((Nat → Nat → Int32)) :=
  if p1 < 0 then some P else if (20 : Int32) ≤ p1 then some P else grd (ix p1 20) (lt1 (st P 2 (Int32.toNatClampNeg p1) p2) (fun P4 => some P4))
def xX4_setOwner  (P : Nat → Nat → Int32) (p1 : Int32) (p2 : Int32) : Option ((Nat → Nat → Int32)) :=
  if p1 < 0 then some P else if (20 : Int32) ≤ p1 then some P else grd (ix p1 20) (lt1 (st P 3 (Int32.toNatClampNeg p1) p2) (fun P4 => some P4))
def xX4_setTags  (P : Nat → Nat → Int32) (p1 : Int32) (p2 : Int32) : Option ((Nat → Nat → Int32)) :=
  if p1 < 0 then some P else if (20 : Int32) ≤ p1 then some P else grd (ix p1 20) (lt1 (st P 4 (Int32.toNatClampNeg p1) p2) (fun P4 => some P4))
def xX4_setTime  (P : Nat → Nat → Int32) (p1 : Int32) : Option ((Nat → Nat → Int32)) :=
  lt1 (st P 9 0 p1) (fun P1 => some P1)
def xX4_tagsOf (P : Nat → Nat → Int32)  (p1 : Int32) : Option (Int32) :=
  if p1 < 0 then some 0 else if (20 : Int32) ≤ p1 then some 0 else grd (ix p1 20) (some (P 4 (Int32.toNatClampNeg p1)))
def xX4_isSnapshot (P : Nat → Nat → Int32)  (p1 : Int32) : Option (Int32) :=
  bn1 (xX4_kindOf P p1) (fun v1 => if v1 = 2 then some 1 else if v1 = 3 then some 1 else some 0)
def xX4_nextCount_4 (P : Nat → Nat → Int32)  : Nat → Int32 → Int32 → Int32 → Option (Int32)
  | 0, _, _, _ => none
  | n + 1, x1, x2, x3 => if (20 : Int32) ≤ x3 then some x2 else grd (ix x3 20) (if (P 2 (Int32.toNatClampNeg x3)) = x1 then (xX4_nextCount_4 P n) x1 (x2 + 1) (x3 + 1) else (xX4_nextCount_4 P n) x1 x2 (x3 + 1))
def xX4_nextCount (P : Nat → Nat → Int32)  (p1 : Int32) : Option (Int32) :=
  xX4_nextCount_4 P 600 p1 0 0
def xX4_isLoose (P : Nat → Nat → Int32)  (p1 : Int32) : Option (Int32) :=
  bn1 (xX4_isSnapshot P p1) (fun v1 => if v1 = 0 then some 0 else bn1 (xX4_tagsOf P p1) (fun v4 => if v4 = 0 then bn1 (xX4_nextCount P p1) (fun v7 => if v7 = 1 then some 1 else some 0) else some 0))
def xX4_firstNext_2 (P : Nat → Nat → Int32)  : Nat → Int32 → Int32 → Option (Int32)
  | 0, _, _ => none
  | n + 1, x1, x2 => if (20 : Int32) ≤ x2 then some (-1) else grd (ix x2 20) (if (P 0 (Int32.toNatClampNeg x2)) = (-1) then (xX4_firstNext_2 P n) x1 (x2 + 1) else grd (ix x2 20) (if (P 2 (Int32.toNatClampNeg x2)) = x1 then some x2 else (xX4_firstNext_2 P n) x1 (x2 + 1)))
def xX4_firstNext (P : Nat → Nat → Int32)  (p1 : Int32) : Option (Int32) :=
  xX4_firstNext_2 P 600 p1 0
def xX4_dropThing_55   : Nat → Int32 → Int32 → (Nat → Nat → Int32) → Option ((Nat → Nat → Int32))
  | 0, _, _, _ => none
  | n + 1, x1, x2, P => if (12 : Int32) ≤ x2 then some P else grd (ix ((x1 * 12) + x2) 240) (lt1 (st P 6 (Int32.toNatClampNeg ((x1 * 12) + x2)) (-1)) (fun P3 => (xX4_dropThing_55 n) x1 (x2 + 1) P3))
def xX4_dropThing  (P : Nat → Nat → Int32) (p1 : Int32) : Option ((Nat → Nat → Int32)) :=
  if p1 < 0 then some P else if p1 < 20 then grd (ix p1 20) (lt1 (st P 0 (Int32.toNatClampNeg p1) (-1)) (fun P8 => grd (ix p1 20) (lt1 (st P8 1 (Int32.toNatClampNeg p1) 0) (fun P11 => grd (ix p1 20) (lt1 (st P11 2 (Int32.toNatClampNeg p1) (-1)) (fun P14 => grd (ix p1 20) (lt1 (st P14 3 (Int32.toNatClampNeg p1) (-1)) (fun P17 => grd (ix p1 20) (lt1 (st P17 4 (Int32.toNatClampNeg p1) 0) (fun P20 => grd (ix p1 20) (lt1 (st P20 5 (Int32.toNatClampNeg p1) (-1)) (fun P23 => xX4_dropThing_55 600 p1 0 P23)))))))))))) else some P
def xX4_ownCount_4 (P : Nat → Nat → Int32)  : Nat → Int32 → Int32 → Int32 → Option (Int32)
  | 0, _, _, _ => none
  | n + 1, x1, x2, x3 => if (20 : Int32) ≤ x3 then some x2 else grd (ix x3 20) (if (P 3 (Int32.toNatClampNeg x3)) = x1 then (xX4_ownCount_4 P n) x1 (x2 + 1) (x3 + 1) else (xX4_ownCount_4 P n) x1 x2 (x3 + 1))
def xX4_ownCount (P : Nat → Nat → Int32)  (p1 : Int32) : Option (Int32) :=
  xX4_ownCount_4 P 600 p1 0 0
def xX4_isFiles (P : Nat → Nat → Int32)  (p1 : Int32) : Option (Int32) :=
  bn1 (xX4_kindOf P p1) (fun v1 => if v1 = 0 then some 1 else if v1 = 1 then some 1 else some 0)
def xX4_inChain_21 (P : Nat → Nat → Int32)  : Nat → Int32 → Int32 → Int32 → Option (Int32)
  | 0, _, _, _ => none
  | n + 1, x2, x3, x4 => if x2 ≤ x4 then some x3 else if x3 = (-1) then some x3 else bn1 (xX4_prevOf P x3) (fun v3 => (xX4_inChain_21 P n) x2 v3 (x4 + 1))
def xX4_inChain (P : Nat → Nat → Int32)  (p1 : Int32) (p2 : Int32) : Option (Int32) :=
  if p2 < 0 then some (-1) else if p2 < 20 then bn1 (xX4_prevOf P p1) (fun v7 => xX4_inChain_21 P 600 p2 v7 0) else some (-1)
def xX4_originOf (P : Nat → Nat → Int32)  (p1 : Int32) : Option (Int32) :=
  bn1 (xX4_isFiles P p1) (fun v1 => if v1 = 0 then some (-1) else bn1 (xX4_ownCount P p1) (fun v4 => bn1 (xX4_inChain P p1 v4) (fun v6 => some v6)))
def xX4_ownerOf (P : Nat → Nat → Int32)  (p1 : Int32) : Option (Int32) :=
  if p1 < 0 then some (-1) else if (20 : Int32) ≤ p1 then some (-1) else grd (ix p1 20) (some (P 3 (Int32.toNatClampNeg p1)))
def xX4_copyFrom (O : Nat → Nat → Int32) (P : Nat → Nat → Int32)  : Option ((Nat → Nat → Int32)) :=
  lt1 (stR P 0 (va_cpy (O 0) (P 0) 0 0 20)) (fun P1 => lt1 (stR P1 1 (va_cpy (O 1) (P1 1) 0 0 20)) (fun P3 => lt1 (stR P3 2 (va_cpy (O 2) (P3 2) 0 0 20)) (fun P5 => lt1 (stR P5 3 (va_cpy (O 3) (P5 3) 0 0 20)) (fun P7 => lt1 (stR P7 4 (va_cpy (O 4) (P7 4) 0 0 20)) (fun P9 => lt1 (stR P9 5 (va_cpy (O 5) (P9 5) 0 0 20)) (fun P11 => lt1 (stR P11 6 (va_cpy (O 6) (P11 6) 0 0 240)) (fun P13 => lt1 (stR P13 7 (va_cpy (O 7) (P13 7) 0 0 96)) (fun P15 => lt1 (stR P15 8 (va_cpy (O 8) (P15 8) 0 0 96)) (fun P17 => lt1 (st P17 9 0 (O 9 0)) (fun P19 => lt1 (st P19 10 0 (O 10 0)) (fun P21 => some P21)))))))))))
def xX4_isHolder (P : Nat → Nat → Int32)  (p1 : Int32) : Option (Int32) :=
  bn1 (xX4_kindOf P p1) (fun v1 => if v1 = (-1) then some 0 else if v1 = 4 then some 0 else some 1)
def xX4_refusalAsHolder (P : Nat → Nat → Int32)  (p1 : Int32) : Option (Int32) :=
  bn1 (xX4_refusalOfNumber P p1) (fun v1 => if v1 = 0 then bn1 (xX4_kindOf P p1) (fun v4 => if v4 = 4 then some (-13) else some 0) else some v1)
def xX4_thingCount_4 (P : Nat → Nat → Int32)  : Nat → Int32 → Int32 → Option (Int32)
  | 0, _, _ => none
  | n + 1, x1, x2 => if (20 : Int32) ≤ x2 then some x1 else grd (ix x2 20) (if (P 0 (Int32.toNatClampNeg x2)) = (-1) then (xX4_thingCount_4 P n) x1 (x2 + 1) else (xX4_thingCount_4 P n) (x1 + 1) (x2 + 1))
def xX4_thingCount (P : Nat → Nat → Int32)   : Option (Int32) :=
  xX4_thingCount_4 P 600 0 0
def xX4_blockCount_4 (P : Nat → Nat → Int32)  : Nat → Int32 → Int32 → Option (Int32)
  | 0, _, _ => none
  | n + 1, x1, x2 => if (96 : Int32) ≤ x2 then some x1 else grd (ix x2 96) (if (P 7 (Int32.toNatClampNeg x2)) = 0 then (xX4_blockCount_4 P n) x1 (x2 + 1) else (xX4_blockCount_4 P n) (x1 + 1) (x2 + 1))
def xX4_blockCount (P : Nat → Nat → Int32)   : Option (Int32) :=
  xX4_blockCount_4 P 600 0 0
def xX4_sizeOfAll_4 (P : Nat → Nat → Int32)  : Nat → Int64 → Int32 → Option (Int64)
  | 0, _, _ => none
  | n + 1, x1, x3 => if (96 : Int32) ≤ x3 then some x1 else grd (ix x3 96) ((xX4_sizeOfAll_4 P n) (x1 + (Int32.toInt64 (P 7 (Int32.toNatClampNeg x3)))) (x3 + 1))
def xX4_sizeOfAll (P : Nat → Nat → Int32)   : Option (Int64) :=
  xX4_sizeOfAll_4 P 600 0 0
def xX4_freedCount (P : Nat → Nat → Int32)   : Option (Int32) :=
  some (P 10 0)
def xJ6_bitCount_0f7a4   (p0 : Int32) : Option (Int32) :=
  some ((((((((p0 - (((Int32.toUInt32 p0 >>> (Int32.toUInt32 1 &&& Int32.toUInt32 31)).toInt32) &&& 1431655765)) &&& 858993459) + (((Int32.toUInt32 (p0 - (((Int32.toUInt32 p0 >>> (Int32.toUInt32 1 &&& Int32.toUInt32 31)).toInt32) &&& 1431655765)) >>> (Int32.toUInt32 2 &&& Int32.toUInt32 31)).toInt32) &&& 858993459)) + ((Int32.toUInt32 (((p0 - (((Int32.toUInt32 p0 >>> (Int32.toUInt32 1 &&& Int32.toUInt32 31)).toInt32) &&& 1431655765)) &&& 858993459) + (((Int32.toUInt32 (p0 - (((Int32.toUInt32 p0 >>> (Int32.toUInt32 1 &&& Int32.toUInt32 31)).toInt32) &&& 1431655765)) >>> (Int32.toUInt32 2 &&& Int32.toUInt32 31)).toInt32) &&& 858993459)) >>> (Int32.toUInt32 4 &&& Int32.toUInt32 31)).toInt32)) &&& 252645135) + ((Int32.toUInt32 (((((p0 - (((Int32.toUInt32 p0 >>> (Int32.toUInt32 1 &&& Int32.toUInt32 31)).toInt32) &&& 1431655765)) &&& 858993459) + (((Int32.toUInt32 (p0 - (((Int32.toUInt32 p0 >>> (Int32.toUInt32 1 &&& Int32.toUInt32 31)).toInt32) &&& 1431655765)) >>> (Int32.toUInt32 2 &&& Int32.toUInt32 31)).toInt32) &&& 858993459)) + ((Int32.toUInt32 (((p0 - (((Int32.toUInt32 p0 >>> (Int32.toUInt32 1 &&& Int32.toUInt32 31)).toInt32) &&& 1431655765)) &&& 858993459) + (((Int32.toUInt32 (p0 - (((Int32.toUInt32 p0 >>> (Int32.toUInt32 1 &&& Int32.toUInt32 31)).toInt32) &&& 1431655765)) >>> (Int32.toUInt32 2 &&& Int32.toUInt32 31)).toInt32) &&& 858993459)) >>> (Int32.toUInt32 4 &&& Int32.toUInt32 31)).toInt32)) &&& 252645135) >>> (Int32.toUInt32 8 &&& Int32.toUInt32 31)).toInt32)) + ((Int32.toUInt32 ((((((p0 - (((Int32.toUInt32 p0 >>> (Int32.toUInt32 1 &&& Int32.toUInt32 31)).toInt32) &&& 1431655765)) &&& 858993459) + (((Int32.toUInt32 (p0 - (((Int32.toUInt32 p0 >>> (Int32.toUInt32 1 &&& Int32.toUInt32 31)).toInt32) &&& 1431655765)) >>> (Int32.toUInt32 2 &&& Int32.toUInt32 31)).toInt32) &&& 858993459)) + ((Int32.toUInt32 (((p0 - (((Int32.toUInt32 p0 >>> (Int32.toUInt32 1 &&& Int32.toUInt32 31)).toInt32) &&& 1431655765)) &&& 858993459) + (((Int32.toUInt32 (p0 - (((Int32.toUInt32 p0 >>> (Int32.toUInt32 1 &&& Int32.toUInt32 31)).toInt32) &&& 1431655765)) >>> (Int32.toUInt32 2 &&& Int32.toUInt32 31)).toInt32) &&& 858993459)) >>> (Int32.toUInt32 4 &&& Int32.toUInt32 31)).toInt32)) &&& 252645135) + ((Int32.toUInt32 (((((p0 - (((Int32.toUInt32 p0 >>> (Int32.toUInt32 1 &&& Int32.toUInt32 31)).toInt32) &&& 1431655765)) &&& 858993459) + (((Int32.toUInt32 (p0 - (((Int32.toUInt32 p0 >>> (Int32.toUInt32 1 &&& Int32.toUInt32 31)).toInt32) &&& 1431655765)) >>> (Int32.toUInt32 2 &&& Int32.toUInt32 31)).toInt32) &&& 858993459)) + ((Int32.toUInt32 (((p0 - (((Int32.toUInt32 p0 >>> (Int32.toUInt32 1 &&& Int32.toUInt32 31)).toInt32) &&& 1431655765)) &&& 858993459) + (((Int32.toUInt32 (p0 - (((Int32.toUInt32 p0 >>> (Int32.toUInt32 1 &&& Int32.toUInt32 31)).toInt32) &&& 1431655765)) >>> (Int32.toUInt32 2 &&& Int32.toUInt32 31)).toInt32) &&& 858993459)) >>> (Int32.toUInt32 4 &&& Int32.toUInt32 31)).toInt32)) &&& 252645135) >>> (Int32.toUInt32 8 &&& Int32.toUInt32 31)).toInt32)) >>> (Int32.toUInt32 16 &&& Int32.toUInt32 31)).toInt32)) &&& 63)
def xJ6_compare_7cf53   (p0 : Int32) (p1 : Int32) : Option (Int32) :=
  if p1 ≤ p0 then if p0 = p1 then some 0 else some 1 else some (-1)
def xX5_size (le : Int32)   : Option (Int32) :=
  some le
def xX5_has (le : Int32)  (p1 : Int32) : Option (Int32) :=
  if p1 < 0 then some 0 else if le ≤ p1 then some 0 else if (40 : Int32) ≤ p1 then some 0 else some 1
def xX5_at (le : Int32) (ro : Nat → Int64)  (p1 : Int32) : Option (Int64) :=
  bn1 (xX5_has le p1) (fun v1 => if v1 = 0 then some 0 else grd (ix p1 40) (some (ro (Int32.toNatClampNeg p1))))
def xX5_layAside  (so : Int32) (le : Int32)  : Option (Int32 × Int32) :=
  lt1 (-1) (fun so1 => lt1 0 (fun le3 => some (so1, le3)))
def xX5_layOut_21   : Nat → Int32 → Int32 → Int32 → (Nat → Int64) → Option (Int32 × Int32 × (Nat → Int64))
  | 0, _, _, _, _ => none
  | n + 1, x3, so, le, ro => if (40 : Int32) ≤ x3 then some (so, le, ro) else grd (ix x3 40) (lt1 (vp_updL ro (Int32.toNatClampNeg x3) 0) (fun ro3 => (xX5_layOut_21 n) (x3 + 1) so le ro3))
def xX5_layOut  (so : Int32) (le : Int32) (ro : Nat → Int64) (p1 : Int32) (p2 : Int32) : Option (Int32 × Int32 × (Nat → Int64)) :=
  lt1 p1 (fun so5 => lt1 (if 0 < (if 40 < p2 then 40 else p2) then (if 40 < p2 then 40 else p2) else 0) (fun le7 => xX5_layOut_21 600 0 so5 le7 ro))
def xX5_isMissing (so : Int32)   : Option (Int32) :=
  if so = (-1) then some 1 else some 0
def xX5_refusalAsSort (so : Int32)  (p1 : Int32) : Option (Int32) :=
  bn1 (xX5_isMissing so) (fun v1 => if v1 = 0 then if so = p1 then some 0 else some (-13) else some (-11))
def xX5_put (so : Int32) (le : Int32) (ro : Nat → Int64) (p1 : Int32) (p2 : Int64) : Option (Int32 × (Nat → Int64)) :=
  if p1 < 0 then some (0, ro) else if le ≤ p1 then some (0, ro) else if p1 < 40 then if so = 0 then grd (ix p1 40) (lt1 (vp_updL ro (Int32.toNatClampNeg p1) (Int32.toInt64 (Int64.toInt32 p2))) (fun ro9 => some (1, ro9))) else grd (ix p1 40) (lt1 (vp_updL ro (Int32.toNatClampNeg p1) p2) (fun ro6 => some (1, ro6))) else some (0, ro)
def xX5_append (so : Int32) (le : Int32) (ro : Nat → Int64) (p1 : Int64) : Option (Int32 × (Nat → Int64)) :=
  if (40 : Int32) ≤ le then some (le, ro) else lt1 (le + 1) (fun le2 => bn2 (xX5_put so le2 ro (le2 - 1) p1) (fun v4 ro5 => some (le2, ro5)))
def xX0_addFiles_28   (x1 : Int32) (y1 : Int32) (P : Nat → Nat → Int32) : Option (Int32 × (Nat → Nat → Int32)) :=
  bn1 (xX4_now P) (fun v1 => bn2 (xX4_newThing P y1 v1) (fun v3 P4 => if v3 = (-4) then some (v3, P4) else bn1 (xX4_setQuota P4 v3 x1) (fun P7 => some (v3, P7))))
def xX0_addFiles  (P : Nat → Nat → Int32) (p1 : Int32) : Option (Int32 × (Nat → Nat → Int32)) :=
  if p1 < (-1) then some ((-2), P) else if p1 ≤ 1000000000 then if p1 = (-1) then xX0_addFiles_28 p1 0 P else xX0_addFiles_28 p1 1 P else some ((-2), P)
def xX0_emptySlot  (P : Nat → Nat → Int32) (p1 : Int32) (p2 : Int32) : Option (Int32 × (Nat → Nat → Int32)) :=
  bn1 (xX4_blockIn P p1 p2) (fun v1 => bn1 (xX4_setSlot P p1 p2 (-1)) (fun P3 => if v1 = (-1) then some (0, P3) else bn1 (xX4_birthOf P3 v1) (fun v6 => bn1 (xX4_prevOf P3 p1) (fun v8 => bn1 (xX4_madeOf P3 v8) (fun v10 => if v10 < v6 then bn1 (xX4_freeBlock P3 v1) (fun P13 => some (1, P13)) else some (0, P3))))))
def xX0_fillSlot_59   (x1 : Int32) (x2 : Int32) (x3 : Int32) (P : Nat → Nat → Int32) : Option (Int32 × (Nat → Nat → Int32)) :=
  bn2 (xX4_newBlock P x3) (fun v1 P2 => if v1 = (-4) then some (v1, P2) else bn2 (xX0_emptySlot P2 x1 x2) (fun v5 P6 => bn1 (xX4_setSlot P6 x1 x2 v1) (fun P8 => some (v1, P8))))
def xX0_fillSlot  (P : Nat → Nat → Int32) (p1 : Int32) (p2 : Int32) (p3 : Int32) : Option (Int32 × (Nat → Nat → Int32)) :=
  bn1 (xX4_quotaOf P p1) (fun v10 => bn1 (xX4_spaceOf P p1) (fun v12 => bn1 (xX4_blockIn P p1 p2) (fun v14 => bn1 (xX4_sizeOf P v14) (fun v16 => if v10 = (-1) then xX0_fillSlot_59 p1 p2 p3 P else if (lg_cmp ((v12 - (Int32.toInt64 v16)) + (Int32.toInt64 p3)) (Int32.toInt64 v10)) ≤ 0 then xX0_fillSlot_59 p1 p2 p3 P else some ((-4), P)))))
def xX0_writeSlot  (P : Nat → Nat → Int32) (p1 : Int32) (p2 : Int32) (p3 : Int32) : Option (Int32 × (Nat → Nat → Int32)) :=
  if p2 < 0 then some ((-2), P) else if (12 : Int32) ≤ p2 then some ((-2), P) else if p3 < 1 then some ((-2), P) else if p3 ≤ 1000000000 then bn1 (xX4_refusalAs P p1 0) (fun v5 => if v5 = 0 then bn2 (xX0_fillSlot P p1 p2 p3) (fun v8 P9 => some (v8, P9)) else some (v5, P)) else some ((-2), P)
def xX0_eraseSlot  (P : Nat → Nat → Int32) (p1 : Int32) (p2 : Int32) : Option (Int32 × (Nat → Nat → Int32)) :=
  if p2 < 0 then some ((-2), P) else if p2 < 12 then bn1 (xX4_refusalAs P p1 0) (fun v3 => if v3 = 0 then bn1 (xX4_blockIn P p1 p2) (fun v6 => bn2 (xX0_emptySlot P p1 p2) (fun v8 P9 => some (v6, P9))) else some (v3, P)) else some ((-2), P)
def xX0_addSnapshot_42   (x1 : Int32) (x2 : Int32) (y1 : Int32) (P : Nat → Nat → Int32) : Option (Int32 × (Nat → Nat → Int32)) :=
  bn1 (xX4_now P) (fun v1 => bn2 (xX4_newThing P y1 v1) (fun v3 P4 => if v3 = (-4) then some ((-4), P4) else bn1 (xX4_copySlots P4 x1 v3) (fun P7 => bn1 (xX4_prevOf P7 x1) (fun v9 => bn1 (xX4_setPrev P7 v3 v9) (fun P11 => bn1 (xX4_setOwner P11 v3 x1) (fun P13 => bn1 (xX4_setTags P13 v3 x2) (fun P15 => bn1 (xX4_setPrev P15 x1 v3) (fun P17 => bn1 (xX4_now P17) (fun v19 => bn1 (xX4_setTime P17 (v19 + 1)) (fun P21 => some (v3, P21)))))))))))
def xX0_addSnapshot  (P : Nat → Nat → Int32) (p1 : Int32) (p2 : Int32) : Option (Int32 × (Nat → Nat → Int32)) :=
  if p2 < 0 then some ((-2), P) else if p2 ≤ 1 then bn1 (xX4_refusalAs P p1 0) (fun v25 => if v25 = 0 then if p2 = 1 then xX0_addSnapshot_42 p1 p2 3 P else xX0_addSnapshot_42 p1 p2 2 P else some (v25, P)) else some ((-2), P)
def xX0_changeTags  (P : Nat → Nat → Int32) (p1 : Int32) (p2 : Int32) : Option (Int32 × (Nat → Nat → Int32)) :=
  if p2 < 0 then some ((-2), P) else if p2 ≤ 9 then bn1 (xX4_refusalAs P p1 3) (fun v3 => if v3 = 0 then bn1 (xX4_tagsOf P p1) (fun v6 => bn1 (xX4_setTags P p1 p2) (fun P8 => some (v6, P8))) else some (v3, P)) else some ((-2), P)
def xX0_addBookmark  (P : Nat → Nat → Int32) (p1 : Int32) : Option (Int32 × (Nat → Nat → Int32)) :=
  bn1 (xX4_refusalAs P p1 2) (fun v1 => if v1 = 0 then bn1 (xX4_madeOf P p1) (fun v4 => bn2 (xX4_newThing P 4 v4) (fun v6 P7 => some (v6, P7))) else some (v1, P))
def xX0_removeSnapshot_69  (k24 : Int32 → Int32 → Int32 → Int32 → Int32 → (Nat → Nat → Int32) → Option (Int32 × (Nat → Nat → Int32))) (x1 : Int32) (x2 : Int32) (x3 : Int32) (x4 : Int32) (x5 : Int32) (x6 : Int32) (y0 : Int32) (P : Nat → Nat → Int32) : Option (Int32 × (Nat → Nat → Int32)) :=
  if y0 = 0 then k24 x1 x2 x3 x4 (x5 + 1) P else bn1 (xX4_birthOf P x6) (fun v2 => bn1 (xX4_madeOf P x3) (fun v4 => if v2 ≤ v4 then k24 x1 x2 x3 x4 (x5 + 1) P else bn1 (xX4_freeBlock P x6) (fun P7 => k24 x1 x2 x3 (x4 + 1) (x5 + 1) P7)))
def xX0_removeSnapshot_24   : Nat → Int32 → Int32 → Int32 → Int32 → Int32 → (Nat → Nat → Int32) → Option (Int32 × (Nat → Nat → Int32))
  | 0, _, _, _, _, _, _ => none
  | n + 1, x1, x2, x3, x4, x5, P => if (12 : Int32) ≤ x5 then bn1 (xX4_setPrev P x2 x3) (fun P10 => bn1 (xX4_dropThing P10 x1) (fun P12 => some (x4, P12))) else bn1 (xX4_blockIn P x1 x5) (fun v14 => if v14 = (-1) then xX0_removeSnapshot_69 (xX0_removeSnapshot_24 n) x1 x2 x3 x4 x5 v14 0 P else bn1 (xX4_blockIn P x2 x5) (fun v17 => if v14 = v17 then xX0_removeSnapshot_69 (xX0_removeSnapshot_24 n) x1 x2 x3 x4 x5 v14 0 P else xX0_removeSnapshot_69 (xX0_removeSnapshot_24 n) x1 x2 x3 x4 x5 v14 1 P))
def xX0_removeSnapshot  (P : Nat → Nat → Int32) (p1 : Int32) : Option (Int32 × (Nat → Nat → Int32)) :=
  bn1 (xX4_firstNext P p1) (fun v20 => bn1 (xX4_prevOf P p1) (fun v22 => xX0_removeSnapshot_24 600 p1 v20 v22 0 0 P))
def xX0_removeThing_67   : Nat → Int32 → Int32 → Int32 → (Nat → Nat → Int32) → Option (Int32 × (Nat → Nat → Int32))
  | 0, _, _, _, _ => none
  | n + 1, x1, x3, x4, P => if (12 : Int32) ≤ x4 then bn1 (xX4_dropThing P x1) (fun P2 => some (x3, P2)) else bn2 (xX0_emptySlot P x1 x4) (fun v4 P5 => (xX0_removeThing_67 n) x1 (x3 + v4) (x4 + 1) P5)
def xX0_removeThing  (P : Nat → Nat → Int32) (p1 : Int32) : Option (Int32 × (Nat → Nat → Int32)) :=
  bn1 (xX4_refusalOfNumber P p1) (fun v7 => if v7 = 0 then bn1 (xX4_isSnapshot P p1) (fun v10 => if v10 = 0 then bn1 (xX4_ownCount P p1) (fun v13 => if v13 ≤ 0 then xX0_removeThing_67 600 p1 0 0 P else some ((-3), P)) else bn1 (xX4_isLoose P p1) (fun v16 => if v16 = 0 then some ((-3), P) else bn2 (xX0_removeSnapshot P p1) (fun v19 P20 => some (v19, P20)))) else some (v7, P))
def xX0_addFork  (P : Nat → Nat → Int32) (p1 : Int32) : Option (Int32 × (Nat → Nat → Int32)) :=
  bn1 (xX4_refusalAs P p1 2) (fun v1 => if v1 = 0 then bn1 (xX4_now P) (fun v4 => bn2 (xX4_newThing P 0 v4) (fun v6 P7 => if v6 = (-4) then some (v6, P7) else bn1 (xX4_copySlots P7 p1 v6) (fun P10 => bn1 (xX4_setPrev P10 v6 p1) (fun P12 => some (v6, P12))))) else some (v1, P))
def xX0_promoteFiles_86  (k49 : Int32 → Int32 → Int32 → Int32 → Int32 → (Nat → Nat → Int32) → Option (Int32 × (Nat → Nat → Int32))) (x1 : Int32) (x3 : Int32) (x4 : Int32) (x5 : Int32) (x6 : Int32) (P : Nat → Nat → Int32) : Option (Int32 × (Nat → Nat → Int32)) :=
  bn1 (xX4_prevOf P x3) (fun v1 => k49 x1 v1 x4 x5 (x6 + 1) P)
def xX0_promoteFiles_49   : Nat → Int32 → Int32 → Int32 → Int32 → Int32 → (Nat → Nat → Int32) → Option (Int32 × (Nat → Nat → Int32))
  | 0, _, _, _, _, _, _ => none
  | n + 1, x1, x3, x4, x5, x6, P => if (20 : Int32) ≤ x6 then some (x5, P) else if x3 = (-1) then some (x5, P) else bn1 (xX4_ownerOf P x3) (fun v5 => if v5 = x4 then bn1 (xX4_setOwner P x3 x1) (fun P8 => xX0_promoteFiles_86 (xX0_promoteFiles_49 n) x1 x3 x4 (x5 + 1) x6 P8) else xX0_promoteFiles_86 (xX0_promoteFiles_49 n) x1 x3 x4 x5 x6 P)
def xX0_promoteFiles  (P : Nat → Nat → Int32) (p1 : Int32) : Option (Int32 × (Nat → Nat → Int32)) :=
  bn1 (xX4_refusalAs P p1 0) (fun v10 => if v10 = 0 then bn1 (xX4_originOf P p1) (fun v13 => if v13 = (-1) then some ((-3), P) else bn1 (xX4_ownerOf P v13) (fun v16 => xX0_promoteFiles_49 600 p1 v13 v16 0 0 P)) else some (v10, P))
def xX0_rollFilesBack_39   : Nat → Int32 → Int32 → Int32 → Int32 → (Nat → Nat → Int32) → Option (Int32 × (Nat → Nat → Int32))
  | 0, _, _, _, _, _ => none
  | n + 1, x1, x3, x4, x5, P => if (12 : Int32) ≤ x5 then bn1 (xX4_copySlots P x3 x1) (fun P2 => some (x4, P2)) else bn2 (xX0_emptySlot P x1 x5) (fun v4 P5 => (xX0_rollFilesBack_39 n) x1 x3 (x4 + v4) (x5 + 1) P5)
def xX0_rollFilesBack  (P : Nat → Nat → Int32) (p1 : Int32) : Option (Int32 × (Nat → Nat → Int32)) :=
  bn1 (xX4_refusalAs P p1 0) (fun v7 => if v7 = 0 then bn1 (xX4_prevOf P p1) (fun v10 => if v10 = (-1) then some ((-3), P) else xX0_rollFilesBack_39 600 p1 v10 0 0 P) else some (v7, P))
def xX0_passTime  (P : Nat → Nat → Int32)  : Option (Int32 × (Nat → Nat → Int32)) :=
  bn1 (xX4_now P) (fun v1 => if v1 < 100000 then bn1 (xX4_now P) (fun v4 => bn1 (xX4_setTime P (v4 + 1)) (fun P6 => bn1 (xX4_now P6) (fun v8 => some (v8, P6)))) else some ((-3), P))
def xX0_removeExpired_58   : Nat → Int32 → Int32 → Int32 → Int32 → Int32 → (Nat → Nat → Int32) → Option (Int32 × (Nat → Nat → Int32))
  | 0, _, _, _, _, _, _ => none
  | n + 1, x1, x2, x3, x5, x6, P => if x6 < x2 then some (x5, P) else bn1 (xX4_inChain P x1 x6) (fun v2 => bn1 (xX4_madeOf P v2) (fun v4 => grd (decide (¬ x3 = (0 : Int32))) (if (v4 - v4 / x3 * x3) = 0 then (xX0_removeExpired_58 n) x1 x2 x3 x5 (x6 + (-1)) P else bn1 (xX4_isLoose P v2) (fun v8 => if v8 = 0 then (xX0_removeExpired_58 n) x1 x2 x3 x5 (x6 + (-1)) P else bn2 (xX0_removeSnapshot P v2) (fun v11 P12 => (xX0_removeExpired_58 n) x1 x2 x3 (x5 + 1) (x6 + (-1)) P12)))))
def xX0_removeExpired  (P : Nat → Nat → Int32) (p1 : Int32) (p2 : Int32) (p3 : Int32) : Option (Int32 × (Nat → Nat → Int32)) :=
  if p2 < 0 then some ((-2), P) else if (20 : Int32) < p2 then some ((-2), P) else if p3 < 1 then some ((-2), P) else if p3 ≤ 100 then bn1 (xX4_refusalAs P p1 0) (fun v18 => if v18 = 0 then bn1 (xX4_ownCount P p1) (fun v21 => xX0_removeExpired_58 600 p1 p2 p3 0 (v21 - 1) P) else some (v18, P)) else some ((-2), P)
def xX0_carryPair  (P : Nat → Nat → Int32) (p1 : Int32) (p2 : Int64) (p4 : Int64) : Option (Int32 × (Nat → Nat → Int32)) :=
  if (lg_cmp p2 0) < 0 then some (0, P) else if (0 : Int32) ≤ (lg_cmp p2 12) then some (0, P) else if (lg_cmp p4 0) < 0 then some (0, P) else if (lg_cmp p4 1000000000) ≤ 0 then if (lg_cmp p4 0) = 0 then bn2 (xX0_emptySlot P p1 (Int64.toInt32 p2)) (fun v10 P11 => some (1, P11)) else bn2 (xX0_fillSlot P p1 (Int64.toInt32 p2) (Int64.toInt32 p4)) (fun v6 P7 => if v6 = (-4) then some (0, P7) else some (1, P7)) else some (0, P)
def xX0_carryOver_11 (le : Int32) (ro : Nat → Int64)  : Nat → Int32 → Int32 → Int32 → Int32 → (Nat → Nat → Int32) → Option (Int32 × (Nat → Nat → Int32))
  | 0, _, _, _, _, _ => none
  | n + 1, x1, x3, x4, x5, P => if x3 ≤ (x5 + 1) then if (x3 - x3 / 2 * 2) = 0 then some (x4, P) else some ((-12), P) else bn1 (xX5_at le ro x5) (fun v3 => bn1 (xX5_at le ro (x5 + 1)) (fun v5 => bn2 (xX0_carryPair P x1 v3 v5) (fun v7 P8 => if v7 = 0 then (xX0_carryOver_11 le ro n) x1 x3 x4 (x5 + 2) P8 else (xX0_carryOver_11 le ro n) x1 x3 (x4 + 1) (x5 + 2) P8)))
def xX0_carryOver (le : Int32) (ro : Nat → Int64) (P : Nat → Nat → Int32) (p1 : Int32) : Option (Int32 × (Nat → Nat → Int32)) :=
  bn1 (xX5_size le) (fun v11 => xX0_carryOver_11 le ro 600 p1 v11 0 0 P)
def xX2_look_31 (P : Nat → Nat → Int32) (k23 : Int32 → (Nat → Int32) → Option ((Nat → Int32))) : Nat → Int32 → Int32 → (Nat → Int32) → Option ((Nat → Int32))
  | 0, _, _, _ => none
  | n + 1, x1, x2, X => if (12 : Int32) ≤ x2 then k23 (x1 + 1) X else bn1 (xX4_blockIn P x1 x2) (fun v2 => if v2 < 0 then (xX2_look_31 P k23 n) x1 (x2 + 1) X else if (96 : Int32) ≤ v2 then (xX2_look_31 P k23 n) x1 (x2 + 1) X else grd (ix v2 96) (grd (ix v2 96) (lt1 (upd X (Int32.toNatClampNeg v2) ((X (Int32.toNatClampNeg v2)) ||| (1 <<< (x1 &&& 31)))) (fun X8 => (xX2_look_31 P k23 n) x1 (x2 + 1) X8))))
def xX2_look_23 (P : Nat → Nat → Int32)  : Nat → Int32 → (Nat → Int32) → Option ((Nat → Int32))
  | 0, _, _ => none
  | n + 1, x1, X => if (20 : Int32) ≤ x1 then some X else xX2_look_31 P (xX2_look_23 P n) 600 x1 0 X
def xX2_look_2 (P : Nat → Nat → Int32)  : Nat → Int32 → (Nat → Int32) → Option ((Nat → Int32))
  | 0, _, _ => none
  | n + 1, x1, X => if (96 : Int32) ≤ x1 then xX2_look_23 P 600 0 X else grd (ix x1 96) (lt1 (upd X (Int32.toNatClampNeg x1) 0) (fun X13 => (xX2_look_2 P n) (x1 + 1) X13))
def xX2_look (P : Nat → Nat → Int32) (X : Nat → Int32)  : Option ((Nat → Int32)) :=
  xX2_look_2 P 600 0 X
def xX2_setOf (X : Nat → Int32)  (p1 : Int32) : Option (Int32) :=
  if p1 < 0 then some 0 else if (96 : Int32) ≤ p1 then some 0 else grd (ix p1 96) (some (X (Int32.toNatClampNeg p1)))
def xX6_heldCount_4 (P : Nat → Nat → Int32)  : Nat → Int32 → Int32 → Int32 → Option (Int32)
  | 0, _, _, _ => none
  | n + 1, x1, x2, x3 => if (12 : Int32) ≤ x3 then some x2 else bn1 (xX4_blockIn P x1 x3) (fun v2 => if v2 = (-1) then (xX6_heldCount_4 P n) x1 x2 (x3 + 1) else (xX6_heldCount_4 P n) x1 (x2 + 1) (x3 + 1))
def xX6_heldCount (P : Nat → Nat → Int32)  (p1 : Int32) : Option (Int32) :=
  xX6_heldCount_4 P 600 p1 0 0
def xX6_tellThing (P : Nat → Nat → Int32)  (p1 : Int32) (p2 : Int32) : Option (Int32) :=
  if p2 < 0 then some (-2) else if p2 ≤ 9 then bn1 (xX4_refusalOfNumber P p1) (fun v3 => if v3 = 0 then if p2 = 0 then bn1 (xX4_kindOf P p1) (fun v7 => some v7) else if p2 = 1 then bn1 (xX4_madeOf P p1) (fun v10 => some v10) else if p2 = 2 then bn1 (xX4_prevOf P p1) (fun v13 => some v13) else if p2 = 3 then bn1 (xX4_ownerOf P p1) (fun v16 => some v16) else if p2 = 4 then bn1 (xX4_originOf P p1) (fun v19 => some v19) else if p2 = 5 then bn1 (xX4_nextCount P p1) (fun v22 => some v22) else if p2 = 6 then bn1 (xX6_heldCount P p1) (fun v25 => some v25) else if p2 = 7 then bn1 (xX4_tagsOf P p1) (fun v28 => some v28) else if p2 = 8 then bn1 (xX4_quotaOf P p1) (fun v31 => some v31) else bn1 (xX4_ownCount P p1) (fun v33 => some v33) else some v3) else some (-2)
def xX6_tellSlot (P : Nat → Nat → Int32)  (p1 : Int32) (p2 : Int32) : Option (Int32) :=
  if p2 < 0 then some (-2) else if p2 < 12 then bn1 (xX4_refusalAsHolder P p1) (fun v3 => if v3 = 0 then bn1 (xX4_blockIn P p1 p2) (fun v6 => some v6) else some v3) else some (-2)
def xX6_tellBlock (P : Nat → Nat → Int32) (X : Nat → Int32) (p1 : Int32) (p2 : Int32) : Option (Int32 × (Nat → Int32)) :=
  if p2 < 0 then some ((-2), X) else if p2 ≤ 2 then if p1 < 0 then some ((-12), X) else if p1 < 96 then bn1 (xX4_sizeOf P p1) (fun v5 => if v5 = 0 then some ((-11), X) else if p2 = 0 then bn1 (xX4_sizeOf P p1) (fun v9 => some (v9, X)) else if p2 = 1 then bn1 (xX4_birthOf P p1) (fun v12 => some (v12, X)) else bn1 (xX2_look P X) (fun X14 => bn1 (xX2_setOf X14 p1) (fun v16 => bn1 (xJ6_bitCount_0f7a4 v16) (fun v18 => some (v18, X14))))) else some ((-12), X) else some ((-2), X)
def xX6_tellTaken (P : Nat → Nat → Int32)  (p1 : Int32) (p2 : Int32) : Option (Int32) :=
  if p2 < 0 then some (-2) else if p2 ≤ 4 then bn1 (xX4_refusalAs P p1 p2) (fun v3 => if v3 = 0 then bn1 (xX4_madeOf P p1) (fun v6 => some v6) else some v3) else some (-2)
def xX6_deadIn (P : Nat → Nat → Int32)  (p1 : Int32) (p2 : Int32) : Option (Int32) :=
  bn1 (xX4_prevOf P p1) (fun v1 => bn1 (xX4_blockIn P v1 p2) (fun v3 => bn1 (xX4_blockIn P p1 p2) (fun v5 => if v3 = v5 then some (-1) else some v3)))
def xX6_isLater (P : Nat → Nat → Int32)  (p1 : Int32) (p2 : Int32) : Option (Int32) :=
  bn1 (xX4_birthOf P p1) (fun v1 => bn1 (xX4_birthOf P p2) (fun v3 => bn1 (xJ6_compare_7cf53 v1 v3) (fun v5 => if v5 = 0 then if p2 ≤ p1 then some 0 else some 1 else if v5 ≤ 0 then some 0 else some 1)))
def xX6_tellDead_88 (P : Nat → Nat → Int32) (k39 : Int32 → Int32 → Int32 → Int32 → Int32 → Int32 → Option (Int32)) (x1 : Int32) (x2 : Int32) (x4 : Int32) (x6 : Int32) (x7 : Int32) (x8 : Int32) (y0 : Int32)  : Option (Int32) :=
  if x6 = (-1) then k39 x1 x2 x4 y0 x8 (x7 + 1) else bn1 (xX6_isLater P x6 x8) (fun v2 => if v2 = 0 then k39 x1 x2 x4 y0 x6 (x7 + 1) else k39 x1 x2 x4 y0 x8 (x7 + 1))
def xX6_tellDead_39 (P : Nat → Nat → Int32)  : Nat → Int32 → Int32 → Int32 → Int32 → Int32 → Int32 → Option (Int32)
  | 0, _, _, _, _, _, _ => none
  | n + 1, x1, x2, x4, x5, x6, x7 => if (12 : Int32) ≤ x7 then if x2 = 0 then some x4 else if x2 = 1 then some x5 else some x6 else bn1 (xX6_deadIn P x1 x7) (fun v8 => if v8 = (-1) then (xX6_tellDead_39 P n) x1 x2 x4 x5 x6 (x7 + 1) else if x5 = (-1) then xX6_tellDead_88 P (xX6_tellDead_39 P n) x1 x2 (x4 + 1) x6 x7 v8 v8 else bn1 (xX6_isLater P v8 x5) (fun v12 => if v12 = 0 then xX6_tellDead_88 P (xX6_tellDead_39 P n) x1 x2 (x4 + 1) x6 x7 v8 x5 else xX6_tellDead_88 P (xX6_tellDead_39 P n) x1 x2 (x4 + 1) x6 x7 v8 v8))
def xX6_tellDead (P : Nat → Nat → Int32)  (p1 : Int32) (p2 : Int32) : Option (Int32) :=
  if p2 < 0 then some (-2) else if p2 ≤ 2 then bn1 (xX4_refusalAsHolder P p1) (fun v17 => if v17 = 0 then xX6_tellDead_39 P 600 p1 p2 0 (-1) (-1) 0 else some v17) else some (-2)
def xX6_sizeOfDeadList_57 (P : Nat → Nat → Int32)  : Nat → Int32 → Int32 → Int32 → Int64 → Int32 → Option (Int64)
  | 0, _, _, _, _, _ => none
  | n + 1, x1, x3, x4, x5, x7 => if (12 : Int32) ≤ x7 then some x5 else bn1 (xX6_deadIn P x1 x7) (fun v2 => bn1 (xX4_birthOf P v2) (fun v4 => if v2 = (-1) then (xX6_sizeOfDeadList_57 P n) x1 x3 x4 x5 (x7 + 1) else bn1 (xX4_madeOf P x3) (fun v7 => if v7 < v4 then (xX6_sizeOfDeadList_57 P n) x1 x3 x4 x5 (x7 + 1) else if v4 ≤ x4 then (xX6_sizeOfDeadList_57 P n) x1 x3 x4 x5 (x7 + 1) else bn1 (xX4_sizeOf P v2) (fun v11 => (xX6_sizeOfDeadList_57 P n) x1 x3 x4 (x5 + (Int32.toInt64 v11)) (x7 + 1)))))
def xX6_sizeOfDeadList_24 (P : Nat → Nat → Int32)  (x1 : Int32) (y0 : Int32)  : Option (Int64) :=
  if y0 = (-1) then some (-4611686018427387904) else bn1 (xX4_prevOf P y0) (fun v14 => bn1 (xX4_madeOf P v14) (fun v16 => xX6_sizeOfDeadList_57 P 600 x1 y0 v16 0 0))
def xX6_sizeOfDeadList (P : Nat → Nat → Int32)  (p1 : Int32) (p2 : Int32) : Option (Int64) :=
  bn1 (xX4_isHolder P p1) (fun v18 => if v18 = 0 then xX6_sizeOfDeadList_24 P p1 (-1) else bn1 (xX4_inChain P p1 p2) (fun v21 => xX6_sizeOfDeadList_24 P p1 v21))
def xX6_sizeHeldOnlyBy_12 (P : Nat → Nat → Int32)  : Nat → Int32 → Int64 → Int32 → (Nat → Int32) → Option (Int64 × (Nat → Int32))
  | 0, _, _, _, _ => none
  | n + 1, x1, x2, x4, X => if (96 : Int32) ≤ x4 then some (x2, X) else bn1 (xX2_setOf X x4) (fun v2 => if (v2 &&& (x1 ^^^ (-1))) = 0 then bn1 (xX4_sizeOf P x4) (fun v5 => (xX6_sizeHeldOnlyBy_12 P n) x1 (x2 + (Int32.toInt64 v5)) (x4 + 1) X) else (xX6_sizeHeldOnlyBy_12 P n) x1 x2 (x4 + 1) X)
def xX6_sizeHeldOnlyBy (P : Nat → Nat → Int32) (X : Nat → Int32) (p1 : Int32) : Option (Int64 × (Nat → Int32)) :=
  bn1 (xX2_look P X) (fun X7 => xX6_sizeHeldOnlyBy_12 P 600 p1 0 0 X7)
def xX6_sizeOfRange_34 (P : Nat → Nat → Int32)  : Nat → Int32 → Int32 → Int32 → Int32 → (Nat → Int32) → Option (Int64 × (Nat → Int32))
  | 0, _, _, _, _, _ => none
  | n + 1, x1, x3, x4, x5, X => if (20 : Int32) ≤ x5 then some ((-4611686018427387904), X) else if x4 = (-1) then some ((-4611686018427387904), X) else if x4 = x1 then bn2 (xX6_sizeHeldOnlyBy P X (x3 ||| (1 <<< (x4 &&& 31)))) (fun v6 X7 => some (v6, X7)) else bn1 (xX4_prevOf P x4) (fun v4 => (xX6_sizeOfRange_34 P n) x1 (x3 ||| (1 <<< (x4 &&& 31))) v4 (x5 + 1) X)
def xX6_sizeOfRange (P : Nat → Nat → Int32) (X : Nat → Int32) (p1 : Int32) (p2 : Int32) : Option (Int64 × (Nat → Int32)) :=
  bn1 (xX4_isSnapshot P p1) (fun v9 => if v9 = 0 then some ((-4611686018427387904), X) else bn1 (xX4_isSnapshot P p2) (fun v12 => if v12 = 0 then some ((-4611686018427387904), X) else xX6_sizeOfRange_34 P 600 p1 0 p2 0 X))
def xX6_sizeSince_32 (P : Nat → Nat → Int32)  : Nat → Int32 → Int32 → Int64 → Int32 → Option (Int64)
  | 0, _, _, _, _ => none
  | n + 1, x1, x2, x3, x5 => if (12 : Int32) ≤ x5 then some x3 else bn1 (xX4_blockIn P x1 x5) (fun v2 => bn1 (xX4_birthOf P v2) (fun v4 => bn1 (xX4_madeOf P x2) (fun v6 => if v4 ≤ v6 then (xX6_sizeSince_32 P n) x1 x2 x3 (x5 + 1) else bn1 (xX4_sizeOf P v2) (fun v9 => (xX6_sizeSince_32 P n) x1 x2 (x3 + (Int32.toInt64 v9)) (x5 + 1)))))
def xX6_sizeSince (P : Nat → Nat → Int32)  (p1 : Int32) (p2 : Int32) : Option (Int64) :=
  bn1 (xX4_isHolder P p1) (fun v11 => if v11 = 0 then some (-4611686018427387904) else bn1 (xX4_kindOf P p2) (fun v14 => if v14 = (-1) then some (-4611686018427387904) else xX6_sizeSince_32 P 600 p1 p2 0 0))
def xX6_sizeInBoth_31 (P : Nat → Nat → Int32)  : Nat → Int32 → Int32 → Int64 → Int32 → Option (Int64)
  | 0, _, _, _, _ => none
  | n + 1, x1, x2, x3, x5 => if (12 : Int32) ≤ x5 then some x3 else bn1 (xX4_blockIn P x1 x5) (fun v2 => bn1 (xX4_blockIn P x2 x5) (fun v4 => if v2 = v4 then bn1 (xX4_sizeOf P v2) (fun v7 => (xX6_sizeInBoth_31 P n) x1 x2 (x3 + (Int32.toInt64 v7)) (x5 + 1)) else (xX6_sizeInBoth_31 P n) x1 x2 x3 (x5 + 1)))
def xX6_sizeInBoth (P : Nat → Nat → Int32)  (p1 : Int32) (p2 : Int32) : Option (Int64) :=
  bn1 (xX4_isHolder P p1) (fun v9 => if v9 = 0 then some (-4611686018427387904) else bn1 (xX4_isHolder P p2) (fun v12 => if v12 = 0 then some (-4611686018427387904) else xX6_sizeInBoth_31 P 600 p1 p2 0 0))
def xX6_writeDifference_9 (P : Nat → Nat → Int32)  : Nat → Int32 → Int32 → Int32 → Int32 → Int32 → (Nat → Int64) → Option (Int32 × Int32 × Int32 × (Nat → Int64))
  | 0, _, _, _, _, _, _ => none
  | n + 1, x1, x2, x4, so, le, ro => if (12 : Int32) ≤ x4 then bn1 (xX5_size le) (fun v2 => some (v2, so, le, ro)) else bn1 (xX4_blockIn P x2 x4) (fun v4 => bn1 (xX4_blockIn P x1 x4) (fun v6 => if v4 = v6 then (xX6_writeDifference_9 P n) x1 x2 (x4 + 1) so le ro else bn2 (xX5_append so le ro (Int32.toInt64 x4)) (fun le9 ro10 => bn1 (xX4_sizeOf P v4) (fun v12 => bn2 (xX5_append so le9 ro10 (Int32.toInt64 v12)) (fun le14 ro15 => (xX6_writeDifference_9 P n) x1 x2 (x4 + 1) so le14 ro15)))))
def xX6_writeDifference (P : Nat → Nat → Int32) (so : Int32) (le : Int32) (ro : Nat → Int64) (p1 : Int32) (p2 : Int32) : Option (Int32 × Int32 × Int32 × (Nat → Int64)) :=
  bn3 (xX5_layOut so le ro 1 0) (fun so17 le18 ro19 => xX6_writeDifference_9 P 600 p1 p2 0 so17 le18 ro19)
def xX1_findCandidates_19 (P : Nat → Nat → Int32)  : Nat → Int32 → Int32 → Int32 → Int32 → (Nat → Int32) → Option (Int32 × (Nat → Int32))
  | 0, _, _, _, _, _ => none
  | n + 1, x1, x2, x3, x4, C => if x2 ≤ x4 then some (x3, C) else bn1 (xX4_inChain P x1 x4) (fun v2 => bn1 (xX4_isLoose P v2) (fun v4 => if v4 = 0 then (xX1_findCandidates_19 P n) x1 x2 x3 (x4 + 1) C else if (8 : Int32) ≤ x3 then (xX1_findCandidates_19 P n) x1 x2 x3 (x4 + 1) C else grd (ix x3 8) (lt1 (upd C (Int32.toNatClampNeg x3) v2) (fun C9 => (xX1_findCandidates_19 P n) x1 x2 (x3 + 1) (x4 + 1) C9))))
def xX1_findCandidates (P : Nat → Nat → Int32) (C : Nat → Int32) (p1 : Int32) : Option (Int32 × (Nat → Int32)) :=
  bn1 (xX4_ownCount P p1) (fun v11 => xX1_findCandidates_19 P 600 p1 (if 8 < v11 then 8 else v11) 0 0 C)
def xX1_candidatesAlone_61 (C : Nat → Int32)  (x3 : Int32) (x4 : Int32)  : Option (Int32) :=
  if x3 = 0 then some x4 else some (-1)
def xX1_candidatesAlone_8 (C : Nat → Int32)  : Nat → Int32 → Int32 → Int32 → Int32 → Option (Int32)
  | 0, _, _, _, _ => none
  | n + 1, x2, x3, x4, x5 => if x2 ≤ x5 then xX1_candidatesAlone_61 C x3 x4 else if (8 : Int32) ≤ x5 then xX1_candidatesAlone_61 C x3 x4 else grd (ix x5 8) (if (x3 &&& (1 <<< ((C (Int32.toNatClampNeg x5)) &&& 31))) = 0 then (xX1_candidatesAlone_8 C n) x2 x3 x4 (x5 + 1) else (xX1_candidatesAlone_8 C n) x2 (x3 &&& ((1 <<< ((C (Int32.toNatClampNeg x5)) &&& 31)) ^^^ (-1))) (x4 ||| (1 <<< (x5 &&& 31))) (x5 + 1))
def xX1_candidatesAlone (C : Nat → Int32)  (p1 : Int32) (p2 : Int32) : Option (Int32) :=
  xX1_candidatesAlone_8 C 600 p2 p1 0 0
def xX1_addSubsets_9  (k2 : Int32 → Int32 → (Nat → Int64) → Option ((Nat → Int64))) : Nat → Int32 → Int32 → Int32 → (Nat → Int64) → Option ((Nat → Int64))
  | 0, _, _, _, _ => none
  | n + 1, x1, x2, x3, F => if (256 : Int32) ≤ x3 then k2 x1 (x2 + 1) F else if (x3 &&& (1 <<< (x2 &&& 31))) = 0 then (xX1_addSubsets_9 k2 n) x1 x2 (x3 + 1) F else grd (ix x3 256) (grd (ix (x3 &&& ((1 <<< (x2 &&& 31)) ^^^ (-1))) 256) (grd (ix x3 256) (lt1 (vp_updL F (Int32.toNatClampNeg x3) ((F (Int32.toNatClampNeg x3)) + (F (Int32.toNatClampNeg (x3 &&& ((1 <<< (x2 &&& 31)) ^^^ (-1))))))) (fun F6 => (xX1_addSubsets_9 k2 n) x1 x2 (x3 + 1) F6))))
def xX1_addSubsets_2   : Nat → Int32 → Int32 → (Nat → Int64) → Option ((Nat → Int64))
  | 0, _, _, _ => none
  | n + 1, x1, x2, F => if x1 ≤ x2 then some F else xX1_addSubsets_9 (xX1_addSubsets_2 n) 600 x1 x2 0 F
def xX1_addSubsets  (F : Nat → Int64) (p1 : Int32) : Option ((Nat → Int64)) :=
  xX1_addSubsets_2 600 p1 0 F
def xX1_weigh_37 (P : Nat → Nat → Int32)  : Nat → Int32 → Int32 → (Nat → Int32) → (Nat → Int32) → (Nat → Int64) → Option ((Nat → Int32) × (Nat → Int32) × (Nat → Int64))
  | 0, _, _, _, _, _ => none
  | n + 1, x2, x3, X, C, F => if (96 : Int32) ≤ x3 then bn1 (xX1_addSubsets F x2) (fun F2 => some (X, C, F2)) else bn1 (xX2_setOf X x3) (fun v4 => bn1 (xX1_candidatesAlone C v4 x2) (fun v6 => if v6 = (-1) then (xX1_weigh_37 P n) x2 (x3 + 1) X C F else if (256 : Int32) ≤ v6 then (xX1_weigh_37 P n) x2 (x3 + 1) X C F else grd (ix v6 256) (bn1 (xX4_sizeOf P x3) (fun v11 => grd (ix v6 256) (lt1 (vp_updL F (Int32.toNatClampNeg v6) ((F (Int32.toNatClampNeg v6)) + (Int32.toInt64 v11))) (fun F14 => (xX1_weigh_37 P n) x2 (x3 + 1) X C F14))))))
def xX1_weigh_8 (P : Nat → Nat → Int32)  : Nat → Int32 → Int32 → (Nat → Int32) → (Nat → Int32) → (Nat → Int64) → Option ((Nat → Int32) × (Nat → Int32) × (Nat → Int64))
  | 0, _, _, _, _, _ => none
  | n + 1, x2, x3, X, C, F => if (256 : Int32) ≤ x3 then bn1 (xX2_look P X) (fun X17 => xX1_weigh_37 P 600 x2 0 X17 C F) else grd (ix x3 256) (lt1 (vp_updL F (Int32.toNatClampNeg x3) 0) (fun F20 => (xX1_weigh_8 P n) x2 (x3 + 1) X C F20))
def xX1_weigh (P : Nat → Nat → Int32) (X : Nat → Int32) (C : Nat → Int32) (F : Nat → Int64) (p1 : Int32) : Option ((Nat → Int32) × (Nat → Int32) × (Nat → Int64)) :=
  bn2 (xX1_findCandidates P C p1) (fun v22 C23 => xX1_weigh_8 P 600 v22 0 X C23 F)
def xX1_mostFreed_10 (P : Nat → Nat → Int32)  : Nat → Int32 → Int64 → Int32 → (Nat → Int32) → (Nat → Int32) → (Nat → Int64) → Option (Int64 × (Nat → Int32) × (Nat → Int32) × (Nat → Int64))
  | 0, _, _, _, _, _, _ => none
  | n + 1, x2, x3, x5, X, C, F => if (256 : Int32) ≤ x5 then some (x3, X, C, F) else bn1 (xJ6_bitCount_0f7a4 x5) (fun v2 => if x2 < v2 then (xX1_mostFreed_10 P n) x2 x3 (x5 + 1) X C F else grd (ix x5 256) ((xX1_mostFreed_10 P n) x2 (if (F (Int32.toNatClampNeg x5)) < x3 then x3 else (F (Int32.toNatClampNeg x5))) (x5 + 1) X C F))
def xX1_mostFreed (P : Nat → Nat → Int32) (X : Nat → Int32) (C : Nat → Int32) (F : Nat → Int64) (p1 : Int32) (p2 : Int32) : Option (Int64 × (Nat → Int32) × (Nat → Int32) × (Nat → Int64)) :=
  bn3 (xX1_weigh P X C F p1) (fun X6 C7 F8 => xX1_mostFreed_10 P 600 p2 0 0 X6 C7 F8)
def xX1_fewestFor_19 (P : Nat → Nat → Int32)  : Nat → Int64 → Int32 → Int32 → (Nat → Int32) → (Nat → Int32) → (Nat → Int64) → Option (Int32 × (Nat → Int32) × (Nat → Int32) × (Nat → Int64))
  | 0, _, _, _, _, _, _ => none
  | n + 1, x2, x4, x5, X, C, F => if (256 : Int32) ≤ x5 then some (x4, X, C, F) else bn1 (xJ6_bitCount_0f7a4 x5) (fun v2 => grd (ix x5 256) (if (lg_cmp (F (Int32.toNatClampNeg x5)) x2) < 0 then (xX1_fewestFor_19 P n) x2 x4 (x5 + 1) X C F else if x4 = (-1) then (xX1_fewestFor_19 P n) x2 v2 (x5 + 1) X C F else if x4 ≤ v2 then (xX1_fewestFor_19 P n) x2 x4 (x5 + 1) X C F else (xX1_fewestFor_19 P n) x2 v2 (x5 + 1) X C F))
def xX1_fewestFor (P : Nat → Nat → Int32) (X : Nat → Int32) (C : Nat → Int32) (F : Nat → Int64) (p1 : Int32) (p2 : Int64) : Option (Int32 × (Nat → Int32) × (Nat → Int32) × (Nat → Int64)) :=
  if (0 : Int32) < (lg_cmp p2 0) then bn3 (xX1_weigh P X C F p1) (fun X9 C10 F11 => xX1_fewestFor_19 P 600 p2 (-1) 0 X9 C10 F11) else some (0, X, C, F)
def xX3_nextFace  (z : Int32)  : Option (Int32 × Int32) :=
  lt1 ((z * 1103515245) + 12345) (fun z1 => some ((((Int32.toUInt32 z1 >>> (Int32.toUInt32 9 &&& Int32.toUInt32 31)).toInt32) - ((Int32.toUInt32 z1 >>> (Int32.toUInt32 9 &&& Int32.toUInt32 31)).toInt32) / 24 * 24), z1))
def xX3_act  (P : Nat → Nat → Int32) (p1 : Int32) (p2 : Int32) (p3 : Int32) : Option ((Nat → Nat → Int32)) :=
  if (7 : Int32) < p1 then if (10 : Int32) < p1 then if (14 : Int32) < p1 then if (18 : Int32) < p1 then if (20 : Int32) < p1 then if p1 = 21 then bn2 (xX0_promoteFiles P (p2 - p2 / 20 * 20)) (fun v14 P15 => some P15) else if p1 = 22 then bn2 (xX0_rollFilesBack P (p2 - p2 / 20 * 20)) (fun v11 P12 => some P12) else bn2 (xX0_addFiles P (-1)) (fun v8 P9 => some P9) else bn2 (xX0_addFork P (p2 - p2 / 20 * 20)) (fun v17 P18 => some P18) else bn2 (xX0_removeThing P (p2 - p2 / 20 * 20)) (fun v20 P21 => some P21) else bn2 (xX0_addSnapshot P (p2 - p2 / 20 * 20) (p3 / 20)) (fun v23 P24 => some P24) else bn2 (xX0_eraseSlot P (p2 - p2 / 20 * 20) (p3 - p3 / 12 * 12)) (fun v26 P27 => some P27) else bn2 (xX0_writeSlot P (p2 - p2 / 20 * 20) (p3 - p3 / 12 * 12) (1 + p2)) (fun v29 P30 => some P30)
def xX3_play_7   : Nat → Int32 → Int32 → (Nat → Nat → Int32) → Int32 → Option ((Nat → Nat → Int32) × Int32)
  | 0, _, _, _, _ => none
  | n + 1, x2, x3, P, z => if x2 ≤ x3 then some (P, z) else bn2 (xX3_nextFace z) (fun v2 z3 => bn2 (xX3_nextFace z3) (fun v5 z6 => bn2 (xX3_nextFace z6) (fun v8 z9 => bn1 (xX3_act P v2 v5 v8) (fun P11 => (xX3_play_7 n) x2 (x3 + 1) P11 z9))))
def xX3_play  (P : Nat → Nat → Int32) (z : Int32) (p1 : Int32) (p2 : Int32) : Option ((Nat → Nat → Int32) × Int32) :=
  lt1 p1 (fun z13 => xX3_play_7 600 p2 0 P z13)
def xX7_files  (P : Nat → Nat → Int32) (p1 : Int32) : Option (Int32 × (Nat → Nat → Int32)) :=
  bn2 (xX0_addFiles P p1) (fun v1 P2 => some (v1, P2))
def xX7_write  (P : Nat → Nat → Int32) (p1 : Int32) (p2 : Int32) (p3 : Int32) : Option (Int32 × (Nat → Nat → Int32)) :=
  bn2 (xX0_writeSlot P p1 p2 p3) (fun v1 P2 => some (v1, P2))
def xX7_erase  (P : Nat → Nat → Int32) (p1 : Int32) (p2 : Int32) : Option (Int32 × (Nat → Nat → Int32)) :=
  bn2 (xX0_eraseSlot P p1 p2) (fun v1 P2 => some (v1, P2))
def xX7_snap  (P : Nat → Nat → Int32) (p1 : Int32) (p2 : Int32) : Option (Int32 × (Nat → Nat → Int32)) :=
  bn2 (xX0_addSnapshot P p1 p2) (fun v1 P2 => some (v1, P2))
def xX7_tag  (P : Nat → Nat → Int32) (p1 : Int32) (p2 : Int32) : Option (Int32 × (Nat → Nat → Int32)) :=
  bn2 (xX0_changeTags P p1 p2) (fun v1 P2 => some (v1, P2))
def xX7_mark  (P : Nat → Nat → Int32) (p1 : Int32) : Option (Int32 × (Nat → Nat → Int32)) :=
  bn2 (xX0_addBookmark P p1) (fun v1 P2 => some (v1, P2))
def xX7_remove  (P : Nat → Nat → Int32) (p1 : Int32) : Option (Int32 × (Nat → Nat → Int32)) :=
  bn2 (xX0_removeThing P p1) (fun v1 P2 => some (v1, P2))
def xX7_fork  (P : Nat → Nat → Int32) (p1 : Int32) : Option (Int32 × (Nat → Nat → Int32)) :=
  bn2 (xX0_addFork P p1) (fun v1 P2 => some (v1, P2))
def xX7_promote  (P : Nat → Nat → Int32) (p1 : Int32) : Option (Int32 × (Nat → Nat → Int32)) :=
  bn2 (xX0_promoteFiles P p1) (fun v1 P2 => some (v1, P2))
def xX7_rollback  (P : Nat → Nat → Int32) (p1 : Int32) : Option (Int32 × (Nat → Nat → Int32)) :=
  bn2 (xX0_rollFilesBack P p1) (fun v1 P2 => some (v1, P2))
def xX7_tick  (P : Nat → Nat → Int32)  : Option (Int32 × (Nat → Nat → Int32)) :=
  bn2 (xX0_passTime P) (fun v1 P2 => some (v1, P2))
def xX7_told (P : Nat → Nat → Int32)  (p1 : Int32) (p2 : Int32) : Option (Int32) :=
  bn1 (xX6_tellThing P p1 p2) (fun v1 => some v1)
def xX7_slot (P : Nat → Nat → Int32)  (p1 : Int32) (p2 : Int32) : Option (Int32) :=
  bn1 (xX6_tellSlot P p1 p2) (fun v1 => some v1)
def xX7_block (P : Nat → Nat → Int32) (X : Nat → Int32) (p1 : Int32) (p2 : Int32) : Option (Int32 × (Nat → Int32)) :=
  bn2 (xX6_tellBlock P X p1 p2) (fun v1 X2 => some (v1, X2))
def xX7_taken (P : Nat → Nat → Int32)  (p1 : Int32) (p2 : Int32) : Option (Int32) :=
  bn1 (xX6_tellTaken P p1 p2) (fun v1 => some v1)
def xX7_dead (P : Nat → Nat → Int32)  (p1 : Int32) (p2 : Int32) : Option (Int32) :=
  bn1 (xX6_tellDead P p1 p2) (fun v1 => some v1)
def xX7_deadList (P : Nat → Nat → Int32)  (p1 : Int32) (p2 : Int32) : Option (Int64) :=
  bn1 (xX6_sizeOfDeadList P p1 p2) (fun v1 => some v1)
def xX7_space (P : Nat → Nat → Int32)  (p1 : Int32) : Option (Int64) :=
  bn1 (xX4_isHolder P p1) (fun v1 => if v1 = 0 then some (-4611686018427387904) else bn1 (xX4_spaceOf P p1) (fun v4 => some v4))
def xX7_alone (P : Nat → Nat → Int32) (X : Nat → Int32) (p1 : Int32) : Option (Int64 × (Nat → Int32)) :=
  bn1 (xX4_isHolder P p1) (fun v1 => if v1 = 0 then some ((-4611686018427387904), X) else bn2 (xX6_sizeHeldOnlyBy P X (1 <<< (p1 &&& 31))) (fun v4 X5 => some (v4, X5)))
def xX7_range (P : Nat → Nat → Int32) (X : Nat → Int32) (p1 : Int32) (p2 : Int32) : Option (Int64 × (Nat → Int32)) :=
  bn2 (xX6_sizeOfRange P X p1 p2) (fun v1 X2 => some (v1, X2))
def xX7_since (P : Nat → Nat → Int32)  (p1 : Int32) (p2 : Int32) : Option (Int64) :=
  bn1 (xX6_sizeSince P p1 p2) (fun v1 => some v1)
def xX7_common (P : Nat → Nat → Int32)  (p1 : Int32) (p2 : Int32) : Option (Int64) :=
  bn1 (xX6_sizeInBoth P p1 p2) (fun v1 => some v1)
def xX7_most (P : Nat → Nat → Int32) (Y : Nat → Int32) (C : Nat → Int32) (F : Nat → Int64) (p1 : Int32) (p2 : Int32) : Option (Int64 × (Nat → Int32) × (Nat → Int32) × (Nat → Int64)) :=
  if p2 < 0 then some ((-4611686018427387904), Y, C, F) else if (8 : Int32) < p2 then some ((-4611686018427387904), Y, C, F) else bn1 (xX4_isFiles P p1) (fun v3 => if v3 = 0 then some ((-4611686018427387904), Y, C, F) else bn4 (xX1_mostFreed P Y C F p1 p2) (fun v6 Y7 C8 F9 => some (v6, Y7, C8, F9)))
def xX7_fewest (P : Nat → Nat → Int32) (Y : Nat → Int32) (C : Nat → Int32) (F : Nat → Int64) (p1 : Int32) (p2 : Int64) : Option (Int32 × (Nat → Int32) × (Nat → Int32) × (Nat → Int64)) :=
  bn1 (xX4_refusalAs P p1 0) (fun v1 => if v1 = 0 then bn4 (xX1_fewestFor P Y C F p1 p2) (fun v4 Y5 C6 F7 => some (v4, Y5, C6, F7)) else some (v1, Y, C, F))
def xX7_expire  (P : Nat → Nat → Int32) (p1 : Int32) (p2 : Int32) (p3 : Int32) : Option (Int32 × (Nat → Nat → Int32)) :=
  bn2 (xX0_removeExpired P p1 p2 p3) (fun v1 P2 => some (v1, P2))
def xX7_isSheet   (p0 : Int32) : Option (Int32) :=
  if p0 < 0 then some 0 else if (4 : Int32) ≤ p0 then some 0 else some 1
def xX7_sheet  (SO : Nat → Int32) (LE : Nat → Int32) (RO : Nat → Nat → Int64) (p1 : Int32) (p2 : Int32) (p3 : Int32) : Option (Int32 × (Nat → Int32) × (Nat → Int32) × (Nat → Nat → Int64)) :=
  bn1 (xX7_isSheet p1) (fun v1 => if v1 = 0 then some ((-2), SO, LE, RO) else if p2 < (-1) then some ((-2), SO, LE, RO) else if p2 ≤ 1 then if p2 = (-1) then grd (ix p1 4) (if p1 = 0 then bn2 (xX5_layAside (SO 0) (LE 0)) (fun SO57 LE58 => lt1 (upd SO 0 SO57) (fun SO60 => lt1 (upd LE 0 LE58) (fun LE62 => some (1, SO60, LE62, RO)))) else if p1 = 1 then bn2 (xX5_layAside (SO 1) (LE 1)) (fun SO66 LE67 => lt1 (upd SO 1 SO66) (fun SO69 => lt1 (upd LE 1 LE67) (fun LE71 => some (1, SO69, LE71, RO)))) else if p1 = 2 then bn2 (xX5_layAside (SO 2) (LE 2)) (fun SO75 LE76 => lt1 (upd SO 2 SO75) (fun SO78 => lt1 (upd LE 2 LE76) (fun LE80 => some (1, SO78, LE80, RO)))) else bn2 (xX5_layAside (SO 3) (LE 3)) (fun SO84 LE85 => lt1 (upd SO 3 SO84) (fun SO87 => lt1 (upd LE 3 LE85) (fun LE89 => some (1, SO87, LE89, RO))))) else if p3 ≤ 40 then if (0 : Int32) ≤ p3 then grd (ix p1 4) (if p1 = 0 then bn3 (xX5_layOut (SO 0) (LE 0) (RO 0) p2 p3) (fun SO10 LE11 RO12 => lt1 (upd SO 0 SO10) (fun SO14 => lt1 (upd LE 0 LE11) (fun LE16 => lt1 (stRL RO 0 RO12) (fun RO18 => some (1, SO14, LE16, RO18))))) else if p1 = 1 then bn3 (xX5_layOut (SO 1) (LE 1) (RO 1) p2 p3) (fun SO22 LE23 RO24 => lt1 (upd SO 1 SO22) (fun SO26 => lt1 (upd LE 1 LE23) (fun LE28 => lt1 (stRL RO 1 RO24) (fun RO30 => some (1, SO26, LE28, RO30))))) else if p1 = 2 then bn3 (xX5_layOut (SO 2) (LE 2) (RO 2) p2 p3) (fun SO34 LE35 RO36 => lt1 (upd SO 2 SO34) (fun SO38 => lt1 (upd LE 2 LE35) (fun LE40 => lt1 (stRL RO 2 RO36) (fun RO42 => some (1, SO38, LE40, RO42))))) else bn3 (xX5_layOut (SO 3) (LE 3) (RO 3) p2 p3) (fun SO46 LE47 RO48 => lt1 (upd SO 3 SO46) (fun SO50 => lt1 (upd LE 3 LE47) (fun LE52 => lt1 (stRL RO 3 RO48) (fun RO54 => some (1, SO50, LE52, RO54)))))) else some ((-14), SO, LE, RO) else some ((-2), SO, LE, RO) else some ((-2), SO, LE, RO))
def xX7_cell (SO : Nat → Int32) (LE : Nat → Int32) (RO : Nat → Nat → Int64) (p1 : Int32) (p2 : Int32) (p3 : Int64) : Option (Int32 × (Nat → Nat → Int64)) :=
  bn1 (xX7_isSheet p1) (fun v1 => if v1 = 0 then some ((-2), RO) else grd (ix p1 4) (if p1 = 0 then bn1 (xX5_isMissing (SO 0)) (fun v5 => if v5 = 0 then grd (ix p1 4) (if p1 = 0 then bn2 (xX5_put (SO 0) (LE 0) (RO 0) p2 p3) (fun v9 RO10 => lt1 (stRL RO 0 RO10) (fun RO12 => if v9 = 0 then some ((-12), RO12) else some (1, RO12))) else if p1 = 1 then bn2 (xX5_put (SO 1) (LE 1) (RO 1) p2 p3) (fun v17 RO18 => lt1 (stRL RO 1 RO18) (fun RO20 => if v17 = 0 then some ((-12), RO20) else some (1, RO20))) else if p1 = 2 then bn2 (xX5_put (SO 2) (LE 2) (RO 2) p2 p3) (fun v25 RO26 => lt1 (stRL RO 2 RO26) (fun RO28 => if v25 = 0 then some ((-12), RO28) else some (1, RO28))) else bn2 (xX5_put (SO 3) (LE 3) (RO 3) p2 p3) (fun v33 RO34 => lt1 (stRL RO 3 RO34) (fun RO36 => if v33 = 0 then some ((-12), RO36) else some (1, RO36)))) else some ((-11), RO)) else if p1 = 1 then bn1 (xX5_isMissing (SO 1)) (fun v41 => if v41 = 0 then grd (ix p1 4) (if p1 = 0 then bn2 (xX5_put (SO 0) (LE 0) (RO 0) p2 p3) (fun v45 RO46 => lt1 (stRL RO 0 RO46) (fun RO48 => if v45 = 0 then some ((-12), RO48) else some (1, RO48))) else if p1 = 1 then bn2 (xX5_put (SO 1) (LE 1) (RO 1) p2 p3) (fun v53 RO54 => lt1 (stRL RO 1 RO54) (fun RO56 => if v53 = 0 then some ((-12), RO56) else some (1, RO56))) else if p1 = 2 then bn2 (xX5_put (SO 2) (LE 2) (RO 2) p2 p3) (fun v61 RO62 => lt1 (stRL RO 2 RO62) (fun RO64 => if v61 = 0 then some ((-12), RO64) else some (1, RO64))) else bn2 (xX5_put (SO 3) (LE 3) (RO 3) p2 p3) (fun v69 RO70 => lt1 (stRL RO 3 RO70) (fun RO72 => if v69 = 0 then some ((-12), RO72) else some (1, RO72)))) else some ((-11), RO)) else if p1 = 2 then bn1 (xX5_isMissing (SO 2)) (fun v77 => if v77 = 0 then grd (ix p1 4) (if p1 = 0 then bn2 (xX5_put (SO 0) (LE 0) (RO 0) p2 p3) (fun v81 RO82 => lt1 (stRL RO 0 RO82) (fun RO84 => if v81 = 0 then some ((-12), RO84) else some (1, RO84))) else if p1 = 1 then bn2 (xX5_put (SO 1) (LE 1) (RO 1) p2 p3) (fun v89 RO90 => lt1 (stRL RO 1 RO90) (fun RO92 => if v89 = 0 then some ((-12), RO92) else some (1, RO92))) else if p1 = 2 then bn2 (xX5_put (SO 2) (LE 2) (RO 2) p2 p3) (fun v97 RO98 => lt1 (stRL RO 2 RO98) (fun RO100 => if v97 = 0 then some ((-12), RO100) else some (1, RO100))) else bn2 (xX5_put (SO 3) (LE 3) (RO 3) p2 p3) (fun v105 RO106 => lt1 (stRL RO 3 RO106) (fun RO108 => if v105 = 0 then some ((-12), RO108) else some (1, RO108)))) else some ((-11), RO)) else bn1 (xX5_isMissing (SO 3)) (fun v113 => if v113 = 0 then grd (ix p1 4) (if p1 = 0 then bn2 (xX5_put (SO 0) (LE 0) (RO 0) p2 p3) (fun v117 RO118 => lt1 (stRL RO 0 RO118) (fun RO120 => if v117 = 0 then some ((-12), RO120) else some (1, RO120))) else if p1 = 1 then bn2 (xX5_put (SO 1) (LE 1) (RO 1) p2 p3) (fun v125 RO126 => lt1 (stRL RO 1 RO126) (fun RO128 => if v125 = 0 then some ((-12), RO128) else some (1, RO128))) else if p1 = 2 then bn2 (xX5_put (SO 2) (LE 2) (RO 2) p2 p3) (fun v133 RO134 => lt1 (stRL RO 2 RO134) (fun RO136 => if v133 = 0 then some ((-12), RO136) else some (1, RO136))) else bn2 (xX5_put (SO 3) (LE 3) (RO 3) p2 p3) (fun v141 RO142 => lt1 (stRL RO 3 RO142) (fun RO144 => if v141 = 0 then some ((-12), RO144) else some (1, RO144)))) else some ((-11), RO))))
def xX7_item (LE : Nat → Int32) (RO : Nat → Nat → Int64)  (p1 : Int32) (p2 : Int32) : Option (Int64) :=
  bn1 (xX7_isSheet p1) (fun v1 => if v1 = 0 then some (-4611686018427387904) else grd (ix p1 4) (if p1 = 0 then bn1 (xX5_has (LE 0) p2) (fun v5 => if v5 = 0 then some (-4611686018427387904) else grd (ix p1 4) (if p1 = 0 then bn1 (xX5_at (LE 0) (RO 0) p2) (fun v9 => some v9) else if p1 = 1 then bn1 (xX5_at (LE 1) (RO 1) p2) (fun v13 => some v13) else if p1 = 2 then bn1 (xX5_at (LE 2) (RO 2) p2) (fun v17 => some v17) else bn1 (xX5_at (LE 3) (RO 3) p2) (fun v21 => some v21))) else if p1 = 1 then bn1 (xX5_has (LE 1) p2) (fun v25 => if v25 = 0 then some (-4611686018427387904) else grd (ix p1 4) (if p1 = 0 then bn1 (xX5_at (LE 0) (RO 0) p2) (fun v29 => some v29) else if p1 = 1 then bn1 (xX5_at (LE 1) (RO 1) p2) (fun v33 => some v33) else if p1 = 2 then bn1 (xX5_at (LE 2) (RO 2) p2) (fun v37 => some v37) else bn1 (xX5_at (LE 3) (RO 3) p2) (fun v41 => some v41))) else if p1 = 2 then bn1 (xX5_has (LE 2) p2) (fun v45 => if v45 = 0 then some (-4611686018427387904) else grd (ix p1 4) (if p1 = 0 then bn1 (xX5_at (LE 0) (RO 0) p2) (fun v49 => some v49) else if p1 = 1 then bn1 (xX5_at (LE 1) (RO 1) p2) (fun v53 => some v53) else if p1 = 2 then bn1 (xX5_at (LE 2) (RO 2) p2) (fun v57 => some v57) else bn1 (xX5_at (LE 3) (RO 3) p2) (fun v61 => some v61))) else bn1 (xX5_has (LE 3) p2) (fun v65 => if v65 = 0 then some (-4611686018427387904) else grd (ix p1 4) (if p1 = 0 then bn1 (xX5_at (LE 0) (RO 0) p2) (fun v69 => some v69) else if p1 = 1 then bn1 (xX5_at (LE 1) (RO 1) p2) (fun v73 => some v73) else if p1 = 2 then bn1 (xX5_at (LE 2) (RO 2) p2) (fun v77 => some v77) else bn1 (xX5_at (LE 3) (RO 3) p2) (fun v81 => some v81)))))
def xX7_differ_35 (P : Nat → Nat → Int32)  (x1 : Int32) (x2 : Int32) (x3 : Int32) (x4 : Int32) (SO : Nat → Int32) (LE : Nat → Int32) (RO : Nat → Nat → Int64) : Option (Int32 × (Nat → Int32) × (Nat → Int32) × (Nat → Nat → Int64)) :=
  if x4 = 0 then grd (ix x1 4) (if x1 = 0 then bn4 (xX6_writeDifference P (SO 0) (LE 0) (RO 0) x2 x3) (fun v3 SO4 LE5 RO6 => lt1 (upd SO 0 SO4) (fun SO8 => lt1 (upd LE 0 LE5) (fun LE10 => lt1 (stRL RO 0 RO6) (fun RO12 => some (v3, SO8, LE10, RO12))))) else if x1 = 1 then bn4 (xX6_writeDifference P (SO 1) (LE 1) (RO 1) x2 x3) (fun v16 SO17 LE18 RO19 => lt1 (upd SO 1 SO17) (fun SO21 => lt1 (upd LE 1 LE18) (fun LE23 => lt1 (stRL RO 1 RO19) (fun RO25 => some (v16, SO21, LE23, RO25))))) else if x1 = 2 then bn4 (xX6_writeDifference P (SO 2) (LE 2) (RO 2) x2 x3) (fun v29 SO30 LE31 RO32 => lt1 (upd SO 2 SO30) (fun SO34 => lt1 (upd LE 2 LE31) (fun LE36 => lt1 (stRL RO 2 RO32) (fun RO38 => some (v29, SO34, LE36, RO38))))) else bn4 (xX6_writeDifference P (SO 3) (LE 3) (RO 3) x2 x3) (fun v42 SO43 LE44 RO45 => lt1 (upd SO 3 SO43) (fun SO47 => lt1 (upd LE 3 LE44) (fun LE49 => lt1 (stRL RO 3 RO45) (fun RO51 => some (v42, SO47, LE49, RO51)))))) else some (x4, SO, LE, RO)
def xX7_differ (P : Nat → Nat → Int32) (SO : Nat → Int32) (LE : Nat → Int32) (RO : Nat → Nat → Int64) (p1 : Int32) (p2 : Int32) (p3 : Int32) : Option (Int32 × (Nat → Int32) × (Nat → Int32) × (Nat → Nat → Int64)) :=
  bn1 (xX7_isSheet p1) (fun v53 => if v53 = 0 then some ((-2), SO, LE, RO) else bn1 (xX4_refusalAsHolder P p2) (fun v56 => if v56 = 0 then bn1 (xX4_refusalAsHolder P p3) (fun v59 => xX7_differ_35 P p1 p2 p3 v59 SO LE RO) else xX7_differ_35 P p1 p2 p3 v56 SO LE RO))
def xX7_apply_47 (SO : Nat → Int32) (LE : Nat → Int32) (RO : Nat → Nat → Int64)  (x1 : Int32) (x2 : Int32) (x4 : Int32) (P : Nat → Nat → Int32) : Option (Int32 × (Nat → Nat → Int32)) :=
  if x4 = 0 then grd (ix x2 4) (if x2 = 0 then bn2 (xX0_carryOver (LE 0) (RO 0) P x1) (fun v3 P4 => some (v3, P4)) else if x2 = 1 then bn2 (xX0_carryOver (LE 1) (RO 1) P x1) (fun v8 P9 => some (v8, P9)) else if x2 = 2 then bn2 (xX0_carryOver (LE 2) (RO 2) P x1) (fun v13 P14 => some (v13, P14)) else bn2 (xX0_carryOver (LE 3) (RO 3) P x1) (fun v18 P19 => some (v18, P19))) else some (x4, P)
def xX7_apply (SO : Nat → Int32) (LE : Nat → Int32) (RO : Nat → Nat → Int64) (P : Nat → Nat → Int32) (p1 : Int32) (p2 : Int32) (p3 : Int32) : Option (Int32 × (Nat → Nat → Int32)) :=
  bn1 (xX7_isSheet p2) (fun v21 => if v21 = 0 then some ((-2), P) else if p3 < 0 then some ((-2), P) else if p3 ≤ 1 then bn1 (xX4_refusalAs P p1 0) (fun v26 => if v26 = 0 then grd (ix p2 4) (if p2 = 0 then bn1 (xX5_refusalAsSort (SO 0) p3) (fun v30 => xX7_apply_47 SO LE RO p1 p2 v30 P) else if p2 = 1 then bn1 (xX5_refusalAsSort (SO 1) p3) (fun v34 => xX7_apply_47 SO LE RO p1 p2 v34 P) else if p2 = 2 then bn1 (xX5_refusalAsSort (SO 2) p3) (fun v38 => xX7_apply_47 SO LE RO p1 p2 v38 P) else bn1 (xX5_refusalAsSort (SO 3) p3) (fun v42 => xX7_apply_47 SO LE RO p1 p2 v42 P)) else xX7_apply_47 SO LE RO p1 p2 v26 P) else some ((-2), P))
def xX7_drawn (P : Nat → Nat → Int32) (T : Nat → Nat → Int32) (z : Int32) (p1 : Int32) (p2 : Int32) (p3 : Int32) : Option (Int64 × (Nat → Nat → Int32) × Int32) :=
  if p2 < 0 then some ((-4611686018427387904), T, z) else if (60 : Int32) < p2 then some ((-4611686018427387904), T, z) else if p3 < 0 then some ((-4611686018427387904), T, z) else if p3 ≤ 3 then bn1 (xX4_copyFrom P T) (fun T5 => bn2 (xX3_play T5 z p1 p2) (fun T7 z8 => if p3 = 0 then bn1 (xX4_thingCount T7) (fun v11 => some ((Int32.toInt64 v11), T7, z8)) else if p3 = 1 then bn1 (xX4_blockCount T7) (fun v14 => some ((Int32.toInt64 v14), T7, z8)) else if p3 = 2 then bn1 (xX4_freedCount T7) (fun v17 => bn1 (xX4_freedCount P) (fun v19 => some ((Int32.toInt64 (v17 - v19)), T7, z8))) else bn1 (xX4_sizeOfAll T7) (fun v21 => some (v21, T7, z8)))) else some ((-4611686018427387904), T, z)
def xX7_image (P : Nat → Nat → Int32) (K : Nat → Nat → Int32) (hi : Int32)  : Option (Int32 × (Nat → Nat → Int32) × Int32) :=
  bn1 (xX4_copyFrom P K) (fun K1 => lt1 1 (fun hi3 => bn1 (xX4_thingCount K1) (fun v5 => some (v5, K1, hi3))))
def xX7_back (K : Nat → Nat → Int32) (hi : Int32) (P : Nat → Nat → Int32)  : Option (Int32 × (Nat → Nat → Int32)) :=
  if hi = 0 then some ((-3), P) else bn1 (xX4_copyFrom K P) (fun P2 => bn1 (xX4_thingCount P2) (fun v4 => some (v4, P2)))
def xX7_count (P : Nat → Nat → Int32)  (p1 : Int32) : Option (Int32) :=
  if p1 = 0 then bn1 (xX4_thingCount P) (fun v2 => some v2) else if p1 = 1 then bn1 (xX4_blockCount P) (fun v5 => some v5) else if p1 = 2 then bn1 (xX4_now P) (fun v8 => some v8) else if p1 = 3 then bn1 (xX4_freedCount P) (fun v11 => some v11) else some (-2)
