def xX8_in   (p0 : Int32) (p1 : Int32) (p2 : Int32) : Option (Int32) :=
  if p0 < p1 then some 0 else if p2 < p0 then some 0 else some 1
def xX8_isThing (s : Nat → Int32)  (p1 : Int32) : Option (Int32) :=
  bn1 (xX8_in p1 0 19) (fun v1 => if v1 = 0 then some 0 else grd (ix (2 + p1) 554) (if (s (Int32.toNatClampNeg (2 + p1))) = (-1) then some 0 else some 1))
def xX8_isUnder_14   (x0 : Int32) (x1 : Int32)  : Option (Int32) :=
  if x0 = 3 then if x1 = 2 then some 1 else some 0 else some 0
def xX8_isUnder   (p0 : Int32) (p1 : Int32) : Option (Int32) :=
  if p0 = p1 then some 1 else if p0 = 1 then if p1 = 0 then some 1 else xX8_isUnder_14 p0 p1 else xX8_isUnder_14 p0 p1
def xX8_isFiles (s : Nat → Int32)  (p1 : Int32) : Option (Int32) :=
  bn1 (xX8_isThing s p1) (fun v1 => if v1 = 0 then some 0 else grd (ix (2 + p1) 554) (bn1 (xX8_isUnder (s (Int32.toNatClampNeg (2 + p1))) 0) (fun v5 => if v5 = 0 then some 0 else some 1)))
def xX8_isSnapshot (s : Nat → Int32)  (p1 : Int32) : Option (Int32) :=
  bn1 (xX8_isThing s p1) (fun v1 => if v1 = 0 then some 0 else grd (ix (2 + p1) 554) (bn1 (xX8_isUnder (s (Int32.toNatClampNeg (2 + p1))) 2) (fun v5 => if v5 = 0 then some 0 else some 1)))
def xX8_hasSlots (s : Nat → Int32)  (p1 : Int32) : Option (Int32) :=
  bn1 (xX8_isFiles s p1) (fun v1 => if v1 = 0 then bn1 (xX8_isSnapshot s p1) (fun v4 => if v4 = 0 then some 0 else some 1) else some 1)
def xX8_there (s : Nat → Int32)  (p1 : Int32) : Option (Int32) :=
  bn1 (xX8_in p1 0 19) (fun v1 => if v1 = 0 then some (-12) else bn1 (xX8_isThing s p1) (fun v4 => if v4 = 0 then some (-11) else some 0))
def xX8_asked (s : Nat → Int32)  (p1 : Int32) (p2 : Int32) : Option (Int32) :=
  bn1 (xX8_there s p1) (fun v1 => if v1 = 0 then grd (ix (2 + p1) 554) (bn1 (xX8_isUnder (s (Int32.toNatClampNeg (2 + p1))) p2) (fun v5 => if v5 = 0 then some (-13) else some 0)) else some v1)
def xX8_askedSlots (s : Nat → Int32)  (p1 : Int32) : Option (Int32) :=
  bn1 (xX8_there s p1) (fun v1 => if v1 = 0 then bn1 (xX8_hasSlots s p1) (fun v4 => if v4 = 0 then some (-13) else some 0) else some v1)
def xX8_counts_31 (s : Nat → Int32) (k23 : Int32 → (Nat → Int32) → Option ((Nat → Int32))) : Nat → Int32 → Int32 → (Nat → Int32) → Option ((Nat → Int32))
  | 0, _, _, _ => none
  | n + 1, x1, x2, hd => if (12 : Int32) ≤ x2 then k23 (x1 + 1) hd else bn1 (xX8_hasSlots s x1) (fun v2 => if v2 = 0 then k23 (x1 + 1) hd else grd (ix ((122 + (12 * x1)) + x2) 554) (if (s (Int32.toNatClampNeg ((122 + (12 * x1)) + x2))) = (-1) then (xX8_counts_31 s k23 n) x1 (x2 + 1) hd else grd (ix (s (Int32.toNatClampNeg ((122 + (12 * x1)) + x2))) 96) (grd (ix (s (Int32.toNatClampNeg ((122 + (12 * x1)) + x2))) 96) (lt1 (upd hd (Int32.toNatClampNeg (s (Int32.toNatClampNeg ((122 + (12 * x1)) + x2)))) ((hd (Int32.toNatClampNeg (s (Int32.toNatClampNeg ((122 + (12 * x1)) + x2))))) + 1)) (fun hd9 => (xX8_counts_31 s k23 n) x1 (x2 + 1) hd9)))))
def xX8_counts_23 (s : Nat → Int32)  : Nat → Int32 → (Nat → Int32) → Option ((Nat → Int32))
  | 0, _, _ => none
  | n + 1, x1, hd => if (20 : Int32) ≤ x1 then some hd else xX8_counts_31 s (xX8_counts_23 s n) 600 x1 0 hd
def xX8_counts_2 (s : Nat → Int32)  : Nat → Int32 → (Nat → Int32) → Option ((Nat → Int32))
  | 0, _, _ => none
  | n + 1, x1, hd => if (96 : Int32) ≤ x1 then xX8_counts_23 s 600 0 hd else grd (ix x1 96) (lt1 (upd hd (Int32.toNatClampNeg x1) 0) (fun hd14 => (xX8_counts_2 s n) (x1 + 1) hd14))
def xX8_counts (s : Nat → Int32) (hd : Nat → Int32)  : Option ((Nat → Int32)) :=
  xX8_counts_2 s 600 0 hd
def xX8_isHeld_5 (s : Nat → Int32)  : Nat → Int32 → Int32 → Int32 → Int32 → Option (Int32)
  | 0, _, _, _, _ => none
  | n + 1, x1, x2, x3, x4 => if (12 : Int32) ≤ x4 then grd (isB x3) (some x3) else if x3 = 0 then bn1 (xX8_hasSlots s x1) (fun v4 => if v4 = 0 then (xX8_isHeld_5 s n) x1 x2 0 (x4 + 1) else grd (ix ((122 + (12 * x1)) + x4) 554) (if (s (Int32.toNatClampNeg ((122 + (12 * x1)) + x4))) = x2 then (xX8_isHeld_5 s n) x1 x2 1 (x4 + 1) else (xX8_isHeld_5 s n) x1 x2 0 (x4 + 1))) else (xX8_isHeld_5 s n) x1 x2 1 (x4 + 1)
def xX8_isHeld (s : Nat → Int32)  (p1 : Int32) (p2 : Int32) : Option (Int32) :=
  xX8_isHeld_5 s 600 p1 p2 0 0
def xX8_frees_8   : Nat → Int32 → Int32 → (Nat → Int32) → (Nat → Int32) → Option (Int32 × (Nat → Int32) × (Nat → Int32))
  | 0, _, _, _, _ => none
  | n + 1, x1, x2, s, hd => if (96 : Int32) ≤ x2 then grd (ix 1 554) (grd (ix 1 554) (lt1 (upd s (Int32.toNatClampNeg 1) ((s (Int32.toNatClampNeg 1)) + x1)) (fun s4 => some (x1, s4, hd)))) else grd (ix (362 + x2) 554) (if (s (Int32.toNatClampNeg (362 + x2))) ≤ 0 then (xX8_frees_8 n) x1 (x2 + 1) s hd else grd (ix x2 96) (if (hd (Int32.toNatClampNeg x2)) = 0 then grd (ix (362 + x2) 554) (lt1 (upd s (Int32.toNatClampNeg (362 + x2)) 0) (fun s11 => (xX8_frees_8 n) (x1 + 1) (x2 + 1) s11 hd)) else (xX8_frees_8 n) x1 (x2 + 1) s hd))
def xX8_frees  (s : Nat → Int32) (hd : Nat → Int32)  : Option (Int32 × (Nat → Int32) × (Nat → Int32)) :=
  bn1 (xX8_counts s hd) (fun hd13 => xX8_frees_8 600 0 0 s hd13)
def xX8_newBlock_2 (s : Nat → Int32)  : Nat → Int32 → Option (Int32)
  | 0, _ => none
  | n + 1, x1 => if (96 : Int32) ≤ x1 then some x1 else grd (ix (362 + x1) 554) (if (s (Int32.toNatClampNeg (362 + x1))) ≤ 0 then some x1 else (xX8_newBlock_2 s n) (x1 + 1))
def xX8_newBlock (s : Nat → Int32)   : Option (Int32) :=
  xX8_newBlock_2 s 600 0
def xX8_blocks_4 (s : Nat → Int32)  : Nat → Int32 → Int32 → Option (Int32)
  | 0, _, _ => none
  | n + 1, x1, x2 => if (96 : Int32) ≤ x2 then some x1 else grd (ix (362 + x2) 554) (if (s (Int32.toNatClampNeg (362 + x2))) ≤ 0 then (xX8_blocks_4 s n) (x1 + 0) (x2 + 1) else (xX8_blocks_4 s n) (x1 + 1) (x2 + 1))
def xX8_blocks (s : Nat → Int32)   : Option (Int32) :=
  xX8_blocks_4 s 600 0 0
def xX8_newThing_2 (s : Nat → Int32)  : Nat → Int32 → Option (Int32)
  | 0, _ => none
  | n + 1, x1 => if (20 : Int32) ≤ x1 then some x1 else grd (ix (2 + x1) 554) (if (s (Int32.toNatClampNeg (2 + x1))) = (-1) then some x1 else (xX8_newThing_2 s n) (x1 + 1))
def xX8_newThing (s : Nat → Int32)   : Option (Int32) :=
  xX8_newThing_2 s 600 0
def xX8_comes_67   : Nat → Int32 → Int32 → (Nat → Int32) → Option (Int32 × (Nat → Int32))
  | 0, _, _, _ => none
  | n + 1, x3, x4, s => if (12 : Int32) ≤ x4 then some (x3, s) else grd (ix ((122 + (12 * x3)) + x4) 554) (lt1 (upd s (Int32.toNatClampNeg ((122 + (12 * x3)) + x4)) (-1)) (fun s3 => (xX8_comes_67 n) x3 (x4 + 1) s3))
def xX8_comes  (s : Nat → Int32) (p1 : Int32) (p2 : Int32) : Option (Int32 × (Nat → Int32)) :=
  bn1 (xX8_newThing s) (fun v5 => grd (ix (2 + v5) 554) (lt1 (upd s (Int32.toNatClampNeg (2 + v5)) p1) (fun s8 => grd (ix (22 + v5) 554) (lt1 (upd s8 (Int32.toNatClampNeg (22 + v5)) p2) (fun s11 => grd (ix (42 + v5) 554) (lt1 (upd s11 (Int32.toNatClampNeg (42 + v5)) (-1)) (fun s14 => grd (ix (62 + v5) 554) (lt1 (upd s14 (Int32.toNatClampNeg (62 + v5)) (-1)) (fun s17 => grd (ix (82 + v5) 554) (lt1 (upd s17 (Int32.toNatClampNeg (82 + v5)) (-1)) (fun s20 => grd (ix (102 + v5) 554) (lt1 (upd s20 (Int32.toNatClampNeg (102 + v5)) 0) (fun s23 => xX8_comes_67 600 v5 0 s23)))))))))))))
def xX8_takesSlots_2   : Nat → Int32 → Int32 → Int32 → (Nat → Int32) → Option ((Nat → Int32))
  | 0, _, _, _, _ => none
  | n + 1, x1, x2, x3, s => if (12 : Int32) ≤ x3 then some s else grd (ix ((122 + (12 * x2)) + x3) 554) (grd (ix ((122 + (12 * x1)) + x3) 554) (lt1 (upd s (Int32.toNatClampNeg ((122 + (12 * x1)) + x3)) (s (Int32.toNatClampNeg ((122 + (12 * x2)) + x3)))) (fun s4 => (xX8_takesSlots_2 n) x1 x2 (x3 + 1) s4)))
def xX8_takesSlots  (s : Nat → Int32) (p1 : Int32) (p2 : Int32) : Option ((Nat → Int32)) :=
  xX8_takesSlots_2 600 p1 p2 0 s
def xX8_files_36   (x1 : Int32) (y1 : Int32) (s : Nat → Int32) : Option (Int32 × (Nat → Int32)) :=
  grd (ix 0 554) (bn2 (xX8_comes s y1 (s (Int32.toNatClampNeg 0))) (fun v2 s3 => grd (ix (82 + v2) 554) (lt1 (upd s3 (Int32.toNatClampNeg (82 + v2)) x1) (fun s6 => some (v2, s6)))))
def xX8_files  (s : Nat → Int32) (p1 : Int32) : Option (Int32 × (Nat → Int32)) :=
  bn1 (xX8_in p1 (-1) 1000000000) (fun v8 => if v8 = 0 then some ((-2), s) else bn1 (xX8_newThing s) (fun v11 => if v11 = 20 then some ((-4), s) else if p1 = (-1) then xX8_files_36 p1 0 s else xX8_files_36 p1 1 s))
def xX8_spaceOf_5 (s : Nat → Int32)  : Nat → Int32 → Int64 → Int32 → Option (Int64)
  | 0, _, _, _ => none
  | n + 1, x1, x2, x4 => if (12 : Int32) ≤ x4 then some x2 else grd (ix ((122 + (12 * x1)) + x4) 554) (if (s (Int32.toNatClampNeg ((122 + (12 * x1)) + x4))) = (-1) then (xX8_spaceOf_5 s n) x1 (x2 + 0) (x4 + 1) else grd (ix (362 + (s (Int32.toNatClampNeg ((122 + (12 * x1)) + x4)))) 554) ((xX8_spaceOf_5 s n) x1 (x2 + (Int32.toInt64 (s (Int32.toNatClampNeg (362 + (s (Int32.toNatClampNeg ((122 + (12 * x1)) + x4)))))))) (x4 + 1)))
def xX8_spaceOf (s : Nat → Int32)  (p1 : Int32) : Option (Int64) :=
  xX8_spaceOf_5 s 600 p1 0 0
def xX8_sizeIn (s : Nat → Int32)  (p1 : Int32) (p2 : Int32) : Option (Int32) :=
  grd (ix ((122 + (12 * p1)) + p2) 554) (if (s (Int32.toNatClampNeg ((122 + (12 * p1)) + p2))) = (-1) then some 0 else grd (ix (362 + (s (Int32.toNatClampNeg ((122 + (12 * p1)) + p2)))) 554) (some (s (Int32.toNatClampNeg (362 + (s (Int32.toNatClampNeg ((122 + (12 * p1)) + p2))))))))
def xX8_written_53   (x1 : Int32) (x2 : Int32) (x3 : Int32) (x4 : Int32) (y0 : Int32) (s : Nat → Int32) (hd : Nat → Int32) : Option (Int32 × (Nat → Int32) × (Nat → Int32)) :=
  if x4 = 96 then some ((-4), s, hd) else if y0 = 0 then grd (ix (362 + x4) 554) (lt1 (upd s (Int32.toNatClampNeg (362 + x4)) x3) (fun s4 => grd (ix 0 554) (grd (ix (458 + x4) 554) (lt1 (upd s4 (Int32.toNatClampNeg (458 + x4)) (s4 (Int32.toNatClampNeg 0))) (fun s8 => grd (ix ((122 + (12 * x1)) + x2) 554) (lt1 (upd s8 (Int32.toNatClampNeg ((122 + (12 * x1)) + x2)) x4) (fun s11 => bn3 (xX8_frees s11 hd) (fun v13 s14 hd15 => some (x4, s14, hd15))))))))) else some ((-4), s, hd)
def xX8_written  (s : Nat → Int32) (hd : Nat → Int32) (p1 : Int32) (p2 : Int32) (p3 : Int32) : Option (Int32 × (Nat → Int32) × (Nat → Int32)) :=
  bn1 (xX8_newBlock s) (fun v17 => grd (ix (2 + p1) 554) (if (s (Int32.toNatClampNeg (2 + p1))) = 1 then bn1 (xX8_spaceOf s p1) (fun v21 => bn1 (xX8_sizeIn s p1 p2) (fun v23 => grd (ix (82 + p1) 554) (if (lg_cmp ((v21 - (Int32.toInt64 v23)) + (Int32.toInt64 p3)) (Int32.toInt64 (s (Int32.toNatClampNeg (82 + p1))))) ≤ 0 then xX8_written_53 p1 p2 p3 v17 0 s hd else xX8_written_53 p1 p2 p3 v17 1 s hd))) else xX8_written_53 p1 p2 p3 v17 0 s hd))
def xX8_erased  (s : Nat → Int32) (hd : Nat → Int32) (p1 : Int32) (p2 : Int32) : Option (Int32 × (Nat → Int32) × (Nat → Int32)) :=
  grd (ix ((122 + (12 * p1)) + p2) 554) (grd (ix ((122 + (12 * p1)) + p2) 554) (lt1 (upd s (Int32.toNatClampNeg ((122 + (12 * p1)) + p2)) (-1)) (fun s3 => bn3 (xX8_frees s3 hd) (fun v5 s6 hd7 => some ((s (Int32.toNatClampNeg ((122 + (12 * p1)) + p2))), s6, hd7)))))
def xX8_write  (s : Nat → Int32) (hd : Nat → Int32) (p1 : Int32) (p2 : Int32) (p3 : Int32) : Option (Int32 × (Nat → Int32) × (Nat → Int32)) :=
  bn1 (xX8_in p2 0 11) (fun v1 => if v1 = 0 then some ((-2), s, hd) else bn1 (xX8_in p3 1 1000000000) (fun v4 => if v4 = 0 then some ((-2), s, hd) else bn1 (xX8_asked s p1 0) (fun v7 => if v7 = 0 then bn3 (xX8_written s hd p1 p2 p3) (fun v10 s11 hd12 => some (v10, s11, hd12)) else some (v7, s, hd))))
def xX8_erase  (s : Nat → Int32) (hd : Nat → Int32) (p1 : Int32) (p2 : Int32) : Option (Int32 × (Nat → Int32) × (Nat → Int32)) :=
  bn1 (xX8_in p2 0 11) (fun v1 => if v1 = 0 then some ((-2), s, hd) else bn1 (xX8_asked s p1 0) (fun v4 => if v4 = 0 then bn3 (xX8_erased s hd p1 p2) (fun v7 s8 hd9 => some (v7, s8, hd9)) else some (v4, s, hd)))
def xX8_snap  (s : Nat → Int32) (p1 : Int32) (p2 : Int32) : Option (Int32 × (Nat → Int32)) :=
  bn1 (xX8_in p2 0 1) (fun v1 => if v1 = 0 then some ((-2), s) else bn1 (xX8_asked s p1 0) (fun v4 => if v4 = 0 then bn1 (xX8_newThing s) (fun v7 => if v7 = 20 then some ((-4), s) else grd (ix 0 554) (bn2 (xX8_comes s (2 + p2) (s (Int32.toNatClampNeg 0))) (fun v11 s12 => bn1 (xX8_takesSlots s12 v11 p1) (fun s14 => grd (ix (42 + p1) 554) (grd (ix (42 + v11) 554) (lt1 (upd s14 (Int32.toNatClampNeg (42 + v11)) (s14 (Int32.toNatClampNeg (42 + p1)))) (fun s18 => grd (ix (42 + p1) 554) (lt1 (upd s18 (Int32.toNatClampNeg (42 + p1)) v11) (fun s21 => grd (ix (62 + v11) 554) (lt1 (upd s21 (Int32.toNatClampNeg (62 + v11)) p1) (fun s24 => grd (ix (102 + v11) 554) (lt1 (upd s24 (Int32.toNatClampNeg (102 + v11)) p2) (fun s27 => grd (ix 0 554) (grd (ix 0 554) (lt1 (upd s27 (Int32.toNatClampNeg 0) ((s27 (Int32.toNatClampNeg 0)) + 1)) (fun s31 => some (v11, s31))))))))))))))))) else some (v4, s)))
def xX8_tag  (s : Nat → Int32) (p1 : Int32) (p2 : Int32) : Option (Int32 × (Nat → Int32)) :=
  bn1 (xX8_in p2 0 9) (fun v1 => if v1 = 0 then some ((-2), s) else bn1 (xX8_asked s p1 3) (fun v4 => if v4 = 0 then grd (ix (102 + p1) 554) (grd (ix (102 + p1) 554) (lt1 (upd s (Int32.toNatClampNeg (102 + p1)) p2) (fun s9 => some ((s (Int32.toNatClampNeg (102 + p1))), s9)))) else some (v4, s)))
def xX8_mark  (s : Nat → Int32) (p1 : Int32) : Option (Int32 × (Nat → Int32)) :=
  bn1 (xX8_asked s p1 2) (fun v1 => if v1 = 0 then bn1 (xX8_newThing s) (fun v4 => if v4 = 20 then some ((-4), s) else grd (ix (22 + p1) 554) (bn2 (xX8_comes s 4 (s (Int32.toNatClampNeg (22 + p1)))) (fun v8 s9 => some (v8, s9)))) else some (v1, s))
def xX8_nexts_4 (s : Nat → Int32)  : Nat → Int32 → Int32 → Int32 → Option (Int32)
  | 0, _, _, _ => none
  | n + 1, x1, x2, x3 => if (20 : Int32) ≤ x3 then some x2 else bn1 (xX8_hasSlots s x3) (fun v2 => if v2 = 0 then (xX8_nexts_4 s n) x1 (x2 + 0) (x3 + 1) else grd (ix (42 + x3) 554) (if (s (Int32.toNatClampNeg (42 + x3))) = x1 then (xX8_nexts_4 s n) x1 (x2 + 1) (x3 + 1) else (xX8_nexts_4 s n) x1 (x2 + 0) (x3 + 1)))
def xX8_nexts (s : Nat → Int32)  (p1 : Int32) : Option (Int32) :=
  xX8_nexts_4 s 600 p1 0 0
def xX8_owned_4 (s : Nat → Int32)  : Nat → Int32 → Int32 → Int32 → Option (Int32)
  | 0, _, _, _ => none
  | n + 1, x1, x2, x3 => if (20 : Int32) ≤ x3 then some x2 else bn1 (xX8_isSnapshot s x3) (fun v2 => if v2 = 0 then (xX8_owned_4 s n) x1 (x2 + 0) (x3 + 1) else grd (ix (62 + x3) 554) (if (s (Int32.toNatClampNeg (62 + x3))) = x1 then (xX8_owned_4 s n) x1 (x2 + 1) (x3 + 1) else (xX8_owned_4 s n) x1 (x2 + 0) (x3 + 1)))
def xX8_owned (s : Nat → Int32)  (p1 : Int32) : Option (Int32) :=
  xX8_owned_4 s 600 p1 0 0
def xX8_isLoose (s : Nat → Int32)  (p1 : Int32) : Option (Int32) :=
  grd (ix (102 + p1) 554) (if (s (Int32.toNatClampNeg (102 + p1))) = 0 then bn1 (xX8_nexts s p1) (fun v3 => if v3 = 1 then some 1 else some 0) else some 0)
def xX8_removed_2   : Nat → Int32 → Int32 → (Nat → Int32) → (Nat → Int32) → Option (Int32 × (Nat → Int32) × (Nat → Int32))
  | 0, _, _, _, _ => none
  | n + 1, x1, x2, s, hd => if (20 : Int32) ≤ x2 then grd (ix (2 + x1) 554) (lt1 (upd s (Int32.toNatClampNeg (2 + x1)) (-1)) (fun s3 => bn3 (xX8_frees s3 hd) (fun v5 s6 hd7 => some (v5, s6, hd7)))) else bn1 (xX8_hasSlots s x2) (fun v9 => if v9 = 0 then (xX8_removed_2 n) x1 (x2 + 1) s hd else grd (ix (42 + x2) 554) (if (s (Int32.toNatClampNeg (42 + x2))) = x1 then grd (ix (42 + x1) 554) (grd (ix (42 + x2) 554) (lt1 (upd s (Int32.toNatClampNeg (42 + x2)) (s (Int32.toNatClampNeg (42 + x1)))) (fun s16 => (xX8_removed_2 n) x1 (x2 + 1) s16 hd))) else (xX8_removed_2 n) x1 (x2 + 1) s hd))
def xX8_removed  (s : Nat → Int32) (hd : Nat → Int32) (p1 : Int32) : Option (Int32 × (Nat → Int32) × (Nat → Int32)) :=
  xX8_removed_2 600 p1 0 s hd
def xX8_remove_60   (x1 : Int32) (s : Nat → Int32) (hd : Nat → Int32) : Option (Int32 × (Nat → Int32) × (Nat → Int32)) :=
  bn3 (xX8_removed s hd x1) (fun v1 s2 hd3 => some (v1, s2, hd3))
def xX8_remove_41   (x1 : Int32) (s : Nat → Int32) (hd : Nat → Int32) : Option (Int32 × (Nat → Int32) × (Nat → Int32)) :=
  bn1 (xX8_isFiles s x1) (fun v5 => if v5 = 0 then xX8_remove_60 x1 s hd else bn1 (xX8_owned s x1) (fun v8 => if v8 ≤ 0 then xX8_remove_60 x1 s hd else some ((-3), s, hd)))
def xX8_remove  (s : Nat → Int32) (hd : Nat → Int32) (p1 : Int32) : Option (Int32 × (Nat → Int32) × (Nat → Int32)) :=
  bn1 (xX8_there s p1) (fun v11 => if v11 = 0 then bn1 (xX8_isSnapshot s p1) (fun v14 => if v14 = 0 then xX8_remove_41 p1 s hd else grd (ix (102 + p1) 554) (if (s (Int32.toNatClampNeg (102 + p1))) = 0 then bn1 (xX8_nexts s p1) (fun v19 => if (1 : Int32) < v19 then some ((-3), s, hd) else xX8_remove_41 p1 s hd) else some ((-3), s, hd))) else some (v11, s, hd))
def xX8_fork  (s : Nat → Int32) (p1 : Int32) : Option (Int32 × (Nat → Int32)) :=
  bn1 (xX8_asked s p1 2) (fun v1 => if v1 = 0 then bn1 (xX8_newThing s) (fun v4 => if v4 = 20 then some ((-4), s) else grd (ix 0 554) (bn2 (xX8_comes s 0 (s (Int32.toNatClampNeg 0))) (fun v8 s9 => bn1 (xX8_takesSlots s9 v8 p1) (fun s11 => grd (ix (42 + v8) 554) (lt1 (upd s11 (Int32.toNatClampNeg (42 + v8)) p1) (fun s14 => some (v8, s14))))))) else some (v1, s))
def xX8_originOf_10 (s : Nat → Int32)  : Nat → Int32 → Int32 → Option (Int32)
  | 0, _, _ => none
  | n + 1, x1, x2 => if x2 = (-1) then some x2 else grd (ix (62 + x2) 554) (if (s (Int32.toNatClampNeg (62 + x2))) = x1 then grd (ix (42 + x2) 554) ((xX8_originOf_10 s n) x1 (s (Int32.toNatClampNeg (42 + x2)))) else some x2)
def xX8_originOf (s : Nat → Int32)  (p1 : Int32) : Option (Int32) :=
  grd (ix (42 + p1) 554) (xX8_originOf_10 s 600 p1 (s (Int32.toNatClampNeg (42 + p1))))
def xX8_promote_52   : Nat → Int32 → Int32 → Int32 → Int32 → (Nat → Int32) → Option (Int32 × (Nat → Int32))
  | 0, _, _, _, _, _ => none
  | n + 1, x1, x4, x5, x6, s => if x6 = (-1) then some (x5, s) else grd (ix (62 + x6) 554) (if (s (Int32.toNatClampNeg (62 + x6))) = x4 then grd (ix (62 + x6) 554) (lt1 (upd s (Int32.toNatClampNeg (62 + x6)) x1) (fun s6 => grd (ix (42 + x6) 554) ((xX8_promote_52 n) x1 x4 (x5 + 1) (s6 (Int32.toNatClampNeg (42 + x6))) s6))) else grd (ix (42 + x6) 554) ((xX8_promote_52 n) x1 x4 x5 (s (Int32.toNatClampNeg (42 + x6))) s))
def xX8_promote  (s : Nat → Int32) (p1 : Int32) : Option (Int32 × (Nat → Int32)) :=
  bn1 (xX8_asked s p1 0) (fun v9 => if v9 = 0 then bn1 (xX8_originOf s p1) (fun v12 => if v12 = (-1) then some ((-3), s) else grd (ix (62 + v12) 554) (grd (ix (42 + p1) 554) (xX8_promote_52 600 p1 (s (Int32.toNatClampNeg (62 + v12))) 0 (s (Int32.toNatClampNeg (42 + p1))) s))) else some (v9, s))
def xX8_rollback  (s : Nat → Int32) (hd : Nat → Int32) (p1 : Int32) : Option (Int32 × (Nat → Int32) × (Nat → Int32)) :=
  bn1 (xX8_asked s p1 0) (fun v1 => if v1 = 0 then grd (ix (42 + p1) 554) (if (s (Int32.toNatClampNeg (42 + p1))) = (-1) then some ((-3), s, hd) else grd (ix (42 + p1) 554) (bn1 (xX8_takesSlots s p1 (s (Int32.toNatClampNeg (42 + p1)))) (fun s7 => bn3 (xX8_frees s7 hd) (fun v9 s10 hd11 => some (v9, s10, hd11))))) else some (v1, s, hd))
def xX8_tick  (s : Nat → Int32)  : Option (Int32 × (Nat → Int32)) :=
  grd (ix 0 554) (if (s (Int32.toNatClampNeg 0)) < 100000 then grd (ix 0 554) (grd (ix 0 554) (lt1 (upd s (Int32.toNatClampNeg 0) ((s (Int32.toNatClampNeg 0)) + 1)) (fun s5 => grd (ix 0 554) (some ((s5 (Int32.toNatClampNeg 0)), s5))))) else some ((-3), s))
def xX8_heldMany_4 (s : Nat → Int32)  : Nat → Int32 → Int32 → Int32 → Option (Int32)
  | 0, _, _, _ => none
  | n + 1, x1, x2, x3 => if (12 : Int32) ≤ x3 then some x2 else bn1 (xX8_hasSlots s x1) (fun v2 => if v2 = 0 then (xX8_heldMany_4 s n) x1 (x2 + 0) (x3 + 1) else grd (ix ((122 + (12 * x1)) + x3) 554) (if (s (Int32.toNatClampNeg ((122 + (12 * x1)) + x3))) = (-1) then (xX8_heldMany_4 s n) x1 (x2 + 0) (x3 + 1) else (xX8_heldMany_4 s n) x1 (x2 + 1) (x3 + 1)))
def xX8_heldMany (s : Nat → Int32)  (p1 : Int32) : Option (Int32) :=
  xX8_heldMany_4 s 600 p1 0 0
def xX8_told (s : Nat → Int32)  (p1 : Int32) (p2 : Int32) : Option (Int32) :=
  bn1 (xX8_in p2 0 9) (fun v1 => if v1 = 0 then some (-2) else bn1 (xX8_there s p1) (fun v4 => if v4 = 0 then if p2 = 0 then grd (ix (2 + p1) 554) (some (s (Int32.toNatClampNeg (2 + p1)))) else if p2 = 1 then grd (ix (22 + p1) 554) (some (s (Int32.toNatClampNeg (22 + p1)))) else if p2 = 2 then grd (ix (42 + p1) 554) (some (s (Int32.toNatClampNeg (42 + p1)))) else if p2 = 3 then grd (ix (62 + p1) 554) (some (s (Int32.toNatClampNeg (62 + p1)))) else if p2 = 4 then bn1 (xX8_isFiles s p1) (fun v16 => if v16 = 0 then some (-1) else bn1 (xX8_originOf s p1) (fun v19 => some v19)) else if p2 = 5 then bn1 (xX8_nexts s p1) (fun v22 => some v22) else if p2 = 6 then bn1 (xX8_heldMany s p1) (fun v25 => some v25) else if p2 = 7 then grd (ix (102 + p1) 554) (some (s (Int32.toNatClampNeg (102 + p1)))) else if p2 = 8 then grd (ix (82 + p1) 554) (some (s (Int32.toNatClampNeg (82 + p1)))) else bn1 (xX8_owned s p1) (fun v31 => some v31) else some v4))
def xX8_slot (s : Nat → Int32)  (p1 : Int32) (p2 : Int32) : Option (Int32) :=
  bn1 (xX8_in p2 0 11) (fun v1 => if v1 = 0 then some (-2) else bn1 (xX8_askedSlots s p1) (fun v4 => if v4 = 0 then grd (ix ((122 + (12 * p1)) + p2) 554) (some (s (Int32.toNatClampNeg ((122 + (12 * p1)) + p2)))) else some v4))
def xX8_block (s : Nat → Int32) (hd : Nat → Int32) (p1 : Int32) (p2 : Int32) : Option (Int32 × (Nat → Int32)) :=
  bn1 (xX8_in p2 0 2) (fun v1 => if v1 = 0 then some ((-2), hd) else bn1 (xX8_in p1 0 95) (fun v4 => if v4 = 0 then some ((-12), hd) else grd (ix (362 + p1) 554) (if (s (Int32.toNatClampNeg (362 + p1))) = 0 then some ((-11), hd) else bn1 (xX8_counts s hd) (fun hd9 => if p2 = 0 then grd (ix (362 + p1) 554) (some ((s (Int32.toNatClampNeg (362 + p1))), hd9)) else if p2 = 1 then grd (ix (458 + p1) 554) (some ((s (Int32.toNatClampNeg (458 + p1))), hd9)) else grd (ix p1 96) (some ((hd9 (Int32.toNatClampNeg p1)), hd9))))))
def xX8_taken (s : Nat → Int32)  (p1 : Int32) (p2 : Int32) : Option (Int32) :=
  bn1 (xX8_in p2 0 4) (fun v1 => if v1 = 0 then some (-2) else bn1 (xX8_asked s p1 p2) (fun v4 => if v4 = 0 then grd (ix (22 + p1) 554) (some (s (Int32.toNatClampNeg (22 + p1)))) else some v4))
def xX8_isDead (s : Nat → Int32)  (p1 : Int32) (p2 : Int32) : Option (Int32) :=
  grd (ix (42 + p1) 554) (if (s (Int32.toNatClampNeg (42 + p1))) = (-1) then some 0 else grd (ix (42 + p1) 554) (bn1 (xX8_isHeld s (s (Int32.toNatClampNeg (42 + p1))) p2) (fun v4 => if v4 = 0 then some 0 else bn1 (xX8_isHeld s p1 p2) (fun v7 => if v7 = 0 then some 1 else some 0))))
def xX8_dead_94 (s : Nat → Int32) (k36 : Int32 → Int32 → Int32 → Int32 → Int32 → Int32 → Option (Int32)) (x1 : Int32) (x2 : Int32) (x4 : Int32) (x6 : Int32) (x7 : Int32) (y0 : Int32)  : Option (Int32) :=
  if x6 = (-1) then k36 x1 x2 x4 y0 x7 (x7 + 1) else grd (ix (458 + x7) 554) (grd (ix (458 + x6) 554) (if (s (Int32.toNatClampNeg (458 + x6))) < (s (Int32.toNatClampNeg (458 + x7))) then k36 x1 x2 x4 y0 x6 (x7 + 1) else k36 x1 x2 x4 y0 x7 (x7 + 1)))
def xX8_dead_36 (s : Nat → Int32)  : Nat → Int32 → Int32 → Int32 → Int32 → Int32 → Int32 → Option (Int32)
  | 0, _, _, _, _, _, _ => none
  | n + 1, x1, x2, x4, x5, x6, x7 => if (96 : Int32) ≤ x7 then if x2 = 0 then some x4 else if x2 = 1 then some x5 else some x6 else bn1 (xX8_isDead s x1 x7) (fun v8 => if v8 = 0 then (xX8_dead_36 s n) x1 x2 x4 x5 x6 (x7 + 1) else if x5 = (-1) then xX8_dead_94 s (xX8_dead_36 s n) x1 x2 (x4 + 1) x6 x7 x7 else grd (ix (458 + x7) 554) (grd (ix (458 + x5) 554) (if (s (Int32.toNatClampNeg (458 + x7))) ≤ (s (Int32.toNatClampNeg (458 + x5))) then xX8_dead_94 s (xX8_dead_36 s n) x1 x2 (x4 + 1) x6 x7 x5 else xX8_dead_94 s (xX8_dead_36 s n) x1 x2 (x4 + 1) x6 x7 x7)))
def xX8_dead (s : Nat → Int32)  (p1 : Int32) (p2 : Int32) : Option (Int32) :=
  bn1 (xX8_in p2 0 2) (fun v15 => if v15 = 0 then some (-2) else bn1 (xX8_askedSlots s p1) (fun v18 => if v18 = 0 then xX8_dead_36 s 600 p1 p2 0 (-1) (-1) 0 else some v18))
def xX8_chained_13 (s : Nat → Int32)  : Nat → Int32 → Int32 → Int32 → Option (Int32)
  | 0, _, _, _ => none
  | n + 1, x2, x3, x4 => if x2 ≤ x4 then some x3 else if x3 = (-1) then some x3 else grd (ix (42 + x3) 554) ((xX8_chained_13 s n) x2 (s (Int32.toNatClampNeg (42 + x3))) (x4 + 1))
def xX8_chained (s : Nat → Int32)  (p1 : Int32) (p2 : Int32) : Option (Int32) :=
  grd (ix (42 + p1) 554) (xX8_chained_13 s 600 p2 (s (Int32.toNatClampNeg (42 + p1))) 0)
def xX8_deadList_130 (s : Nat → Int32) (k55 : Int32 → Int32 → Int32 → Int64 → Int32 → Option (Int64)) (x1 : Int32) (x3 : Int32) (x4 : Int32) (x5 : Int64) (x7 : Int32) (y0 : Int32)  : Option (Int64) :=
  if y0 = 0 then k55 x1 x3 x4 (x5 + 0) (x7 + 1) else grd (ix (362 + x7) 554) (k55 x1 x3 x4 (x5 + (Int32.toInt64 (s (Int32.toNatClampNeg (362 + x7))))) (x7 + 1))
def xX8_deadList_55 (s : Nat → Int32)  : Nat → Int32 → Int32 → Int32 → Int64 → Int32 → Option (Int64)
  | 0, _, _, _, _, _ => none
  | n + 1, x1, x3, x4, x5, x7 => if (96 : Int32) ≤ x7 then some x5 else bn1 (xX8_isDead s x1 x7) (fun v4 => if v4 = 0 then xX8_deadList_130 s (xX8_deadList_55 s n) x1 x3 x4 x5 x7 0 else grd (ix (458 + x7) 554) (grd (ix (22 + x3) 554) (if (s (Int32.toNatClampNeg (22 + x3))) < (s (Int32.toNatClampNeg (458 + x7))) then xX8_deadList_130 s (xX8_deadList_55 s n) x1 x3 x4 x5 x7 0 else if x4 = (-1) then xX8_deadList_130 s (xX8_deadList_55 s n) x1 x3 x4 x5 x7 1 else grd (ix (458 + x7) 554) (grd (ix (22 + x4) 554) (if (s (Int32.toNatClampNeg (458 + x7))) ≤ (s (Int32.toNatClampNeg (22 + x4))) then xX8_deadList_130 s (xX8_deadList_55 s n) x1 x3 x4 x5 x7 0 else xX8_deadList_130 s (xX8_deadList_55 s n) x1 x3 x4 x5 x7 1)))))
def xX8_deadList (s : Nat → Int32)  (p1 : Int32) (p2 : Int32) : Option (Int64) :=
  bn1 (xX8_hasSlots s p1) (fun v14 => if v14 = 0 then some (-4611686018427387904) else bn1 (xX8_in p2 0 19) (fun v17 => if v17 = 0 then some (-4611686018427387904) else bn1 (xX8_chained s p1 p2) (fun v20 => if v20 = (-1) then some (-4611686018427387904) else bn1 (xX8_chained s p1 p2) (fun v23 => bn1 (xX8_chained s p1 (p2 + 1)) (fun v25 => xX8_deadList_55 s 600 p1 v23 v25 0 0)))))
def xX8_space (s : Nat → Int32)  (p1 : Int32) : Option (Int64) :=
  bn1 (xX8_hasSlots s p1) (fun v1 => if v1 = 0 then some (-4611686018427387904) else bn1 (xX8_spaceOf s p1) (fun v4 => some v4))
def xX8_aloneIn_22 (s : Nat → Int32) (k9 : Int32 → Int64 → Int32 → (Nat → Int32) → Option (Int64 × (Nat → Int32))) : Nat → Int32 → Int64 → Int32 → Int32 → Int32 → (Nat → Int32) → Option (Int64 × (Nat → Int32))
  | 0, _, _, _, _, _, _ => none
  | n + 1, x1, x2, x4, x5, x6, hd => if (20 : Int32) ≤ x6 then if x5 ≤ 0 then k9 x1 (x2 + 0) (x4 + 1) hd else grd (ix x4 96) (if x5 = (hd (Int32.toNatClampNeg x4)) then grd (ix (362 + x4) 554) (k9 x1 (x2 + (Int32.toInt64 (s (Int32.toNatClampNeg (362 + x4))))) (x4 + 1) hd) else k9 x1 (x2 + 0) (x4 + 1) hd) else if ((x1 >>> (x6 &&& 31)) &&& 1) = 1 then bn1 (xX8_isHeld s x6 x4) (fun v7 => if v7 = 0 then (xX8_aloneIn_22 s k9 n) x1 x2 x4 (x5 + 0) (x6 + 1) hd else (xX8_aloneIn_22 s k9 n) x1 x2 x4 (x5 + 1) (x6 + 1) hd) else (xX8_aloneIn_22 s k9 n) x1 x2 x4 (x5 + 0) (x6 + 1) hd
def xX8_aloneIn_9 (s : Nat → Int32)  : Nat → Int32 → Int64 → Int32 → (Nat → Int32) → Option (Int64 × (Nat → Int32))
  | 0, _, _, _, _ => none
  | n + 1, x1, x2, x4, hd => if (96 : Int32) ≤ x4 then some (x2, hd) else xX8_aloneIn_22 s (xX8_aloneIn_9 s n) 600 x1 x2 x4 0 0 hd
def xX8_aloneIn (s : Nat → Int32) (hd : Nat → Int32) (p1 : Int32) : Option (Int64 × (Nat → Int32)) :=
  bn1 (xX8_counts s hd) (fun hd11 => xX8_aloneIn_9 s 600 p1 0 0 hd11)
def xX8_alone (s : Nat → Int32) (hd : Nat → Int32) (p1 : Int32) : Option (Int64 × (Nat → Int32)) :=
  bn1 (xX8_hasSlots s p1) (fun v1 => if v1 = 0 then some ((-4611686018427387904), hd) else bn2 (xX8_aloneIn s hd (1 <<< (p1 &&& 31))) (fun v4 hd5 => some (v4, hd5)))
def xX8_range_59 (s : Nat → Int32)  (x1 : Int32) (x3 : Int32) (x4 : Int32) (hd : Nat → Int32) : Option (Int64 × (Nat → Int32)) :=
  if x4 = (-1) then some ((-4611686018427387904), hd) else bn2 (xX8_aloneIn s hd (x3 ||| (1 <<< (x1 &&& 31)))) (fun v2 hd3 => some (v2, hd3))
def xX8_range_25 (s : Nat → Int32)  : Nat → Int32 → Int32 → Int32 → (Nat → Int32) → Option (Int64 × (Nat → Int32))
  | 0, _, _, _, _ => none
  | n + 1, x1, x3, x4, hd => if x4 = (-1) then xX8_range_59 s x1 x3 x4 hd else if x4 = x1 then xX8_range_59 s x1 x3 x4 hd else grd (ix (42 + x4) 554) ((xX8_range_25 s n) x1 (x3 ||| (1 <<< (x4 &&& 31))) (s (Int32.toNatClampNeg (42 + x4))) hd)
def xX8_range (s : Nat → Int32) (hd : Nat → Int32) (p1 : Int32) (p2 : Int32) : Option (Int64 × (Nat → Int32)) :=
  bn1 (xX8_isSnapshot s p1) (fun v8 => if v8 = 0 then some ((-4611686018427387904), hd) else bn1 (xX8_isSnapshot s p2) (fun v11 => if v11 = 0 then some ((-4611686018427387904), hd) else xX8_range_25 s 600 p1 0 p2 hd))
def xX8_since_25 (s : Nat → Int32)  : Nat → Int32 → Int32 → Int64 → Int32 → Option (Int64)
  | 0, _, _, _, _ => none
  | n + 1, x1, x2, x3, x5 => if (12 : Int32) ≤ x5 then some x3 else grd (ix ((122 + (12 * x1)) + x5) 554) (if (s (Int32.toNatClampNeg ((122 + (12 * x1)) + x5))) = (-1) then (xX8_since_25 s n) x1 x2 (x3 + 0) (x5 + 1) else grd (ix (458 + (s (Int32.toNatClampNeg ((122 + (12 * x1)) + x5)))) 554) (grd (ix (22 + x2) 554) (if (s (Int32.toNatClampNeg (458 + (s (Int32.toNatClampNeg ((122 + (12 * x1)) + x5)))))) ≤ (s (Int32.toNatClampNeg (22 + x2))) then (xX8_since_25 s n) x1 x2 (x3 + 0) (x5 + 1) else grd (ix (362 + (s (Int32.toNatClampNeg ((122 + (12 * x1)) + x5)))) 554) ((xX8_since_25 s n) x1 x2 (x3 + (Int32.toInt64 (s (Int32.toNatClampNeg (362 + (s (Int32.toNatClampNeg ((122 + (12 * x1)) + x5)))))))) (x5 + 1)))))
def xX8_since (s : Nat → Int32)  (p1 : Int32) (p2 : Int32) : Option (Int64) :=
  bn1 (xX8_hasSlots s p1) (fun v8 => if v8 = 0 then some (-4611686018427387904) else bn1 (xX8_isThing s p2) (fun v11 => if v11 = 0 then some (-4611686018427387904) else xX8_since_25 s 600 p1 p2 0 0))
def xX8_common_25 (s : Nat → Int32)  : Nat → Int32 → Int32 → Int64 → Int32 → Option (Int64)
  | 0, _, _, _, _ => none
  | n + 1, x1, x2, x3, x5 => if (96 : Int32) ≤ x5 then some x3 else grd (ix (362 + x5) 554) (if (s (Int32.toNatClampNeg (362 + x5))) ≤ 0 then (xX8_common_25 s n) x1 x2 (x3 + 0) (x5 + 1) else bn1 (xX8_isHeld s x1 x5) (fun v4 => if v4 = 0 then (xX8_common_25 s n) x1 x2 (x3 + 0) (x5 + 1) else bn1 (xX8_isHeld s x2 x5) (fun v7 => if v7 = 0 then (xX8_common_25 s n) x1 x2 (x3 + 0) (x5 + 1) else grd (ix (362 + x5) 554) ((xX8_common_25 s n) x1 x2 (x3 + (Int32.toInt64 (s (Int32.toNatClampNeg (362 + x5))))) (x5 + 1)))))
def xX8_common (s : Nat → Int32)  (p1 : Int32) (p2 : Int32) : Option (Int64) :=
  bn1 (xX8_hasSlots s p1) (fun v11 => if v11 = 0 then some (-4611686018427387904) else bn1 (xX8_hasSlots s p2) (fun v14 => if v14 = 0 then some (-4611686018427387904) else xX8_common_25 s 600 p1 p2 0 0))
def xX8_looksForOwned_91 (s : Nat → Int32) (k7 : Int32 → Int32 → (Nat → Int32) → Int32 → Option ((Nat → Int32) × Int32)) (x1 : Int32) (x2 : Int32) (x3 : Int32) (nw : Nat → Int32) (ow : Int32) : Option ((Nat → Int32) × Int32) :=
  grd (ix x3 20) (lt1 (upd nw (Int32.toNatClampNeg x3) x2) (fun nw2 => lt1 (ow + 1) (fun ow4 => k7 x1 (x2 + 1) nw2 ow4)))
def xX8_looksForOwned_39 (s : Nat → Int32) (k7 : Int32 → Int32 → (Nat → Int32) → Int32 → Option ((Nat → Int32) × Int32)) : Nat → Int32 → Int32 → Int32 → (Nat → Int32) → Int32 → Option ((Nat → Int32) × Int32)
  | 0, _, _, _, _, _ => none
  | n + 1, x1, x2, x3, nw, ow => if x3 ≤ 0 then xX8_looksForOwned_91 s k7 x1 x2 x3 nw ow else grd (ix (x3 - 1) 20) (grd (ix (22 + (nw (Int32.toNatClampNeg (x3 - 1)))) 554) (grd (ix (22 + x2) 554) (if (s (Int32.toNatClampNeg (22 + x2))) ≤ (s (Int32.toNatClampNeg (22 + (nw (Int32.toNatClampNeg (x3 - 1)))))) then xX8_looksForOwned_91 s k7 x1 x2 x3 nw ow else grd (ix (x3 - 1) 20) (grd (ix x3 20) (lt1 (upd nw (Int32.toNatClampNeg x3) (nw (Int32.toNatClampNeg (x3 - 1)))) (fun nw13 => (xX8_looksForOwned_39 s k7 n) x1 x2 (x3 + (-1)) nw13 ow))))))
def xX8_looksForOwned_7 (s : Nat → Int32)  : Nat → Int32 → Int32 → (Nat → Int32) → Int32 → Option ((Nat → Int32) × Int32)
  | 0, _, _, _, _ => none
  | n + 1, x1, x2, nw, ow => if (20 : Int32) ≤ x2 then some (nw, ow) else bn1 (xX8_isSnapshot s x2) (fun v16 => if v16 = 0 then (xX8_looksForOwned_7 s n) x1 (x2 + 1) nw ow else grd (ix (62 + x2) 554) (if (s (Int32.toNatClampNeg (62 + x2))) = x1 then xX8_looksForOwned_39 s (xX8_looksForOwned_7 s n) 600 x1 x2 ow nw ow else (xX8_looksForOwned_7 s n) x1 (x2 + 1) nw ow))
def xX8_looksForOwned (s : Nat → Int32) (nw : Nat → Int32) (ow : Int32) (p1 : Int32) : Option ((Nat → Int32) × Int32) :=
  lt1 0 (fun ow21 => xX8_looksForOwned_7 s 600 p1 0 nw ow21)
def xX8_countOf_4   : Nat → Int32 → Int32 → Int32 → Option (Int32)
  | 0, _, _, _ => none
  | n + 1, x1, x2, x3 => if (8 : Int32) ≤ x3 then some x2 else (xX8_countOf_4 n) x1 (x2 + ((x1 >>> (x3 &&& 31)) &&& 1)) (x3 + 1)
def xX8_countOf   (p1 : Int32) : Option (Int32) :=
  xX8_countOf_4 600 p1 0 0
def xX8_looksForHolders_151 (s : Nat → Int32) (nw : Nat → Int32) (ow : Int32)  : Nat → Int32 → Int32 → (Nat → Int32) → (Nat → Int32) → Option (Int32 × (Nat → Int32) × (Nat → Int32))
  | 0, _, _, _, _ => none
  | n + 1, x2, x3, hd, hh => if (96 : Int32) ≤ x3 then some (x2, hd, hh) else grd (ix x3 96) (bn1 (xX8_countOf (hh (Int32.toNatClampNeg x3))) (fun v3 => grd (ix x3 96) (if v3 = (hd (Int32.toNatClampNeg x3)) then grd (ix x3 96) (grd (ix x3 96) (lt1 (upd hh (Int32.toNatClampNeg x3) (hh (Int32.toNatClampNeg x3))) (fun hh12 => (xX8_looksForHolders_151 s nw ow n) x2 (x3 + 1) hd hh12))) else grd (ix x3 96) (lt1 (upd hh (Int32.toNatClampNeg x3) 0) (fun hh8 => (xX8_looksForHolders_151 s nw ow n) x2 (x3 + 1) hd hh8)))))
def xX8_looksForHolders_83 (s : Nat → Int32) (nw : Nat → Int32) (ow : Int32) (k48 : Int32 → Int32 → Int32 → (Nat → Int32) → (Nat → Int32) → Option (Int32 × (Nat → Int32) × (Nat → Int32))) : Nat → Int32 → Int32 → Int32 → Int32 → Int32 → (Nat → Int32) → (Nat → Int32) → Option (Int32 × (Nat → Int32) × (Nat → Int32))
  | 0, _, _, _, _, _, _, _ => none
  | n + 1, x1, x2, x3, x4, x5, hd, hh => if (12 : Int32) ≤ x5 then k48 x1 x2 (x3 + 1) hd hh else grd (ix ((122 + (12 * x4)) + x5) 554) (if (s (Int32.toNatClampNeg ((122 + (12 * x4)) + x5))) = (-1) then (xX8_looksForHolders_83 s nw ow k48 n) x1 x2 x3 x4 (x5 + 1) hd hh else grd (ix ((122 + (12 * x4)) + x5) 554) (grd (ix (s (Int32.toNatClampNeg ((122 + (12 * x4)) + x5))) 96) (grd (ix (s (Int32.toNatClampNeg ((122 + (12 * x4)) + x5))) 96) (lt1 (upd hh (Int32.toNatClampNeg (s (Int32.toNatClampNeg ((122 + (12 * x4)) + x5)))) ((hh (Int32.toNatClampNeg (s (Int32.toNatClampNeg ((122 + (12 * x4)) + x5))))) ||| (1 <<< (x3 &&& 31)))) (fun hh20 => (xX8_looksForHolders_83 s nw ow k48 n) x1 x2 x3 x4 (x5 + 1) hd hh20)))))
def xX8_looksForHolders_48 (s : Nat → Int32) (nw : Nat → Int32) (ow : Int32)  : Nat → Int32 → Int32 → Int32 → (Nat → Int32) → (Nat → Int32) → Option (Int32 × (Nat → Int32) × (Nat → Int32))
  | 0, _, _, _, _, _ => none
  | n + 1, x1, x2, x3, hd, hh => if x1 ≤ x3 then xX8_looksForHolders_151 s nw ow 600 x2 0 hd hh else grd (ix x3 20) (bn1 (xX8_isLoose s (nw (Int32.toNatClampNeg x3))) (fun v24 => if v24 = 0 then xX8_looksForHolders_83 s nw ow (xX8_looksForHolders_48 s nw ow n) 600 x1 (x2 ||| 0) x3 (nw (Int32.toNatClampNeg x3)) 0 hd hh else xX8_looksForHolders_83 s nw ow (xX8_looksForHolders_48 s nw ow n) 600 x1 (x2 ||| (1 <<< (x3 &&& 31))) x3 (nw (Int32.toNatClampNeg x3)) 0 hd hh))
def xX8_looksForHolders_27 (s : Nat → Int32) (nw : Nat → Int32) (ow : Int32)  : Nat → Int32 → Int32 → Int32 → (Nat → Int32) → (Nat → Int32) → Option (Int32 × (Nat → Int32) × (Nat → Int32))
  | 0, _, _, _, _, _ => none
  | n + 1, x1, x2, x3, hd, hh => if (96 : Int32) ≤ x3 then xX8_looksForHolders_48 s nw ow 600 x1 x2 0 hd hh else grd (ix x3 96) (lt1 (upd hh (Int32.toNatClampNeg x3) 0) (fun hh29 => (xX8_looksForHolders_27 s nw ow n) x1 x2 (x3 + 1) hd hh29))
def xX8_looksForHolders_18 (s : Nat → Int32) (nw : Nat → Int32) (ow : Int32)  (y0 : Int32) (hd : Nat → Int32) (hh : Nat → Int32) : Option (Int32 × (Nat → Int32) × (Nat → Int32)) :=
  bn1 (xX8_counts s hd) (fun hd31 => xX8_looksForHolders_27 s nw ow 600 y0 0 0 hd31 hh)
def xX8_looksForHolders (s : Nat → Int32) (nw : Nat → Int32) (ow : Int32) (hd : Nat → Int32) (hh : Nat → Int32)  : Option (Int32 × (Nat → Int32) × (Nat → Int32)) :=
  if (8 : Int32) ≤ ow then xX8_looksForHolders_18 s nw ow 8 hd hh else xX8_looksForHolders_18 s nw ow ow hd hh
def xX8_freedBy_5 (s : Nat → Int32) (hh : Nat → Int32)  : Nat → Int32 → Int64 → Int32 → Option (Int64)
  | 0, _, _, _ => none
  | n + 1, x1, x2, x4 => if (96 : Int32) ≤ x4 then some x2 else grd (ix x4 96) (if (hh (Int32.toNatClampNeg x4)) = 0 then (xX8_freedBy_5 s hh n) x1 (x2 + 0) (x4 + 1) else grd (ix x4 96) (if ((hh (Int32.toNatClampNeg x4)) &&& (x1 ^^^ (-1))) = 0 then grd (ix (362 + x4) 554) ((xX8_freedBy_5 s hh n) x1 (x2 + (Int32.toInt64 (s (Int32.toNatClampNeg (362 + x4))))) (x4 + 1)) else (xX8_freedBy_5 s hh n) x1 (x2 + 0) (x4 + 1)))
def xX8_freedBy (s : Nat → Int32) (hh : Nat → Int32)  (p1 : Int32) : Option (Int64) :=
  xX8_freedBy_5 s hh 600 p1 0 0
def xX8_most_38 (s : Nat → Int32)  : Nat → Int32 → Int32 → Int64 → Int32 → (Nat → Int32) → (Nat → Int32) → (Nat → Int32) → Int32 → Option (Int64 × (Nat → Int32) × (Nat → Int32) × (Nat → Int32) × Int32)
  | 0, _, _, _, _, _, _, _, _ => none
  | n + 1, x2, x3, x4, x6, hd, nw, hh, ow => if (256 : Int32) ≤ x6 then some (x4, hd, nw, hh, ow) else if (x6 &&& (x3 ^^^ (-1))) = 0 then bn1 (xX8_countOf x6) (fun v3 => if x2 < v3 then (xX8_most_38 s n) x2 x3 x4 (x6 + 1) hd nw hh ow else bn1 (xX8_freedBy s hh x6) (fun v6 => if (lg_cmp v6 x4) ≤ 0 then (xX8_most_38 s n) x2 x3 x4 (x6 + 1) hd nw hh ow else (xX8_most_38 s n) x2 x3 v6 (x6 + 1) hd nw hh ow)) else (xX8_most_38 s n) x2 x3 x4 (x6 + 1) hd nw hh ow
def xX8_most (s : Nat → Int32) (hd : Nat → Int32) (nw : Nat → Int32) (hh : Nat → Int32) (ow : Int32) (p1 : Int32) (p2 : Int32) : Option (Int64 × (Nat → Int32) × (Nat → Int32) × (Nat → Int32) × Int32) :=
  bn1 (xX8_in p2 0 8) (fun v9 => if v9 = 0 then some ((-4611686018427387904), hd, nw, hh, ow) else bn1 (xX8_isFiles s p1) (fun v12 => if v12 = 0 then some ((-4611686018427387904), hd, nw, hh, ow) else bn2 (xX8_looksForOwned s nw ow p1) (fun nw15 ow16 => bn3 (xX8_looksForHolders s nw15 ow16 hd hh) (fun v18 hd19 hh20 => xX8_most_38 s 600 p2 v18 0 0 hd19 nw15 hh20 ow16))))
def xX8_fewest_71 (s : Nat → Int32) (k41 : Int64 → Int32 → Int32 → Int32 → (Nat → Int32) → (Nat → Int32) → (Nat → Int32) → Int32 → Option (Int32 × (Nat → Int32) × (Nat → Int32) × (Nat → Int32) × Int32)) (x2 : Int64) (x5 : Int32) (x6 : Int32) (x7 : Int32) (y0 : Int32) (hd : Nat → Int32) (nw : Nat → Int32) (hh : Nat → Int32) (ow : Int32) : Option (Int32 × (Nat → Int32) × (Nat → Int32) × (Nat → Int32) × Int32) :=
  if (x7 &&& (x5 ^^^ (-1))) = 0 then if y0 = 0 then k41 x2 x5 x6 (x7 + 1) hd nw hh ow else bn1 (xX8_freedBy s hh x7) (fun v3 => if (lg_cmp v3 x2) < 0 then k41 x2 x5 x6 (x7 + 1) hd nw hh ow else bn1 (xX8_countOf x7) (fun v6 => k41 x2 x5 v6 (x7 + 1) hd nw hh ow)) else k41 x2 x5 x6 (x7 + 1) hd nw hh ow
def xX8_fewest_41 (s : Nat → Int32)  : Nat → Int64 → Int32 → Int32 → Int32 → (Nat → Int32) → (Nat → Int32) → (Nat → Int32) → Int32 → Option (Int32 × (Nat → Int32) × (Nat → Int32) × (Nat → Int32) × Int32)
  | 0, _, _, _, _, _, _, _, _ => none
  | n + 1, x2, x5, x6, x7, hd, nw, hh, ow => if (256 : Int32) ≤ x7 then some (x6, hd, nw, hh, ow) else if x6 = (-1) then xX8_fewest_71 s (xX8_fewest_41 s n) x2 x5 x6 x7 1 hd nw hh ow else bn1 (xX8_countOf x7) (fun v10 => if x6 ≤ v10 then xX8_fewest_71 s (xX8_fewest_41 s n) x2 x5 x6 x7 0 hd nw hh ow else xX8_fewest_71 s (xX8_fewest_41 s n) x2 x5 x6 x7 1 hd nw hh ow)
def xX8_fewest (s : Nat → Int32) (hd : Nat → Int32) (nw : Nat → Int32) (hh : Nat → Int32) (ow : Int32) (p1 : Int32) (p2 : Int64) : Option (Int32 × (Nat → Int32) × (Nat → Int32) × (Nat → Int32) × Int32) :=
  bn1 (xX8_asked s p1 0) (fun v13 => if v13 = 0 then if (0 : Int32) < (lg_cmp p2 0) then bn2 (xX8_looksForOwned s nw ow p1) (fun nw17 ow18 => bn3 (xX8_looksForHolders s nw17 ow18 hd hh) (fun v20 hd21 hh22 => xX8_fewest_41 s 600 p2 v20 (-1) 0 hd21 nw17 hh22 ow18)) else some (0, hd, nw, hh, ow) else some (v13, hd, nw, hh, ow))
def xX8_expire_55   : Nat → Int32 → Int32 → Int32 → Int32 → (Nat → Int32) → (Nat → Int32) → (Nat → Int32) → Int32 → Option (Int32 × (Nat → Int32) × (Nat → Int32) × (Nat → Int32) × Int32)
  | 0, _, _, _, _, _, _, _, _ => none
  | n + 1, x2, x3, x5, x6, s, hd, nw, ow => if x6 < x2 then some (x5, s, hd, nw, ow) else grd (ix x6 20) (grd (ix (22 + (nw (Int32.toNatClampNeg x6))) 554) (grd (decide (¬ x3 = (0 : Int32))) (if ((s (Int32.toNatClampNeg (22 + (nw (Int32.toNatClampNeg x6))))) - (s (Int32.toNatClampNeg (22 + (nw (Int32.toNatClampNeg x6))))) / x3 * x3) = 0 then (xX8_expire_55 n) x2 x3 x5 (x6 + (-1)) s hd nw ow else bn1 (xX8_isLoose s (nw (Int32.toNatClampNeg x6))) (fun v6 => if v6 = 0 then (xX8_expire_55 n) x2 x3 x5 (x6 + (-1)) s hd nw ow else bn3 (xX8_removed s hd (nw (Int32.toNatClampNeg x6))) (fun v9 s10 hd11 => (xX8_expire_55 n) x2 x3 (x5 + 1) (x6 + (-1)) s10 hd11 nw ow)))))
def xX8_expire  (s : Nat → Int32) (hd : Nat → Int32) (nw : Nat → Int32) (ow : Int32) (p1 : Int32) (p2 : Int32) (p3 : Int32) : Option (Int32 × (Nat → Int32) × (Nat → Int32) × (Nat → Int32) × Int32) :=
  bn1 (xX8_in p2 0 20) (fun v13 => if v13 = 0 then some ((-2), s, hd, nw, ow) else bn1 (xX8_in p3 1 100) (fun v16 => if v16 = 0 then some ((-2), s, hd, nw, ow) else bn1 (xX8_asked s p1 0) (fun v19 => if v19 = 0 then bn2 (xX8_looksForOwned s nw ow p1) (fun nw22 ow23 => xX8_expire_55 600 p2 p3 0 (ow23 - 1) s hd nw22 ow23) else some (v19, s, hd, nw, ow))))
def xX8_isSheet   (p0 : Int32) : Option (Int32) :=
  bn1 (xX8_in p0 0 3) (fun v1 => grd (isB v1) (some v1))
def xX8_makes_17   : Nat → Int32 → Int32 → (Nat → Int32) → (Nat → Int32) → (Nat → Int64) → Option ((Nat → Int32) × (Nat → Int32) × (Nat → Int64))
  | 0, _, _, _, _, _ => none
  | n + 1, x1, x4, qs, qz, it => if (40 : Int32) ≤ x4 then some (qs, qz, it) else grd (ix ((40 * x1) + x4) 160) (lt1 (vp_updL it (Int32.toNatClampNeg ((40 * x1) + x4)) 0) (fun it3 => (xX8_makes_17 n) x1 (x4 + 1) qs qz it3))
def xX8_makes  (qs : Nat → Int32) (qz : Nat → Int32) (it : Nat → Int64) (p1 : Int32) (p2 : Int32) (p3 : Int32) : Option ((Nat → Int32) × (Nat → Int32) × (Nat → Int64)) :=
  grd (ix p1 4) (lt1 (upd qs (Int32.toNatClampNeg p1) p2) (fun qs6 => grd (ix p1 4) (lt1 (upd qz (Int32.toNatClampNeg p1) p3) (fun qz9 => xX8_makes_17 600 p1 0 qs6 qz9 it))))
def xX8_sheet_55   (y1 : Int32) (y2 : Int32) (y3 : Int32) (qs : Nat → Int32) (qz : Nat → Int32) (it : Nat → Int64) : Option (Int32 × (Nat → Int32) × (Nat → Int32) × (Nat → Int64)) :=
  bn3 (xX8_makes qs qz it y1 y2 y3) (fun qs1 qz2 it3 => some (1, qs1, qz2, it3))
def xX8_sheet_42   (x1 : Int32) (x2 : Int32) (x3 : Int32) (qs : Nat → Int32) (qz : Nat → Int32) (it : Nat → Int64) : Option (Int32 × (Nat → Int32) × (Nat → Int32) × (Nat → Int64)) :=
  if x2 = (-1) then xX8_sheet_55 x1 x2 0 qs qz it else xX8_sheet_55 x1 x2 x3 qs qz it
def xX8_sheet_30   (x1 : Int32) (x2 : Int32) (x3 : Int32) (qs : Nat → Int32) (qz : Nat → Int32) (it : Nat → Int64) : Option (Int32 × (Nat → Int32) × (Nat → Int32) × (Nat → Int64)) :=
  if x2 = (-1) then xX8_sheet_42 x1 x2 x3 qs qz it else if (0 : Int32) ≤ x3 then xX8_sheet_42 x1 x2 x3 qs qz it else some ((-14), qs, qz, it)
def xX8_sheet  (qs : Nat → Int32) (qz : Nat → Int32) (it : Nat → Int64) (p1 : Int32) (p2 : Int32) (p3 : Int32) : Option (Int32 × (Nat → Int32) × (Nat → Int32) × (Nat → Int64)) :=
  bn1 (xX8_isSheet p1) (fun v8 => if v8 = 0 then some ((-2), qs, qz, it) else bn1 (xX8_in p2 (-1) 1) (fun v11 => if v11 = 0 then some ((-2), qs, qz, it) else if p2 = (-1) then xX8_sheet_30 p1 p2 p3 qs qz it else if p3 ≤ 40 then xX8_sheet_30 p1 p2 p3 qs qz it else some ((-2), qs, qz, it)))
def xX8_cell (qs : Nat → Int32) (qz : Nat → Int32) (it : Nat → Int64) (p1 : Int32) (p2 : Int32) (p3 : Int64) : Option (Int32 × (Nat → Int64)) :=
  bn1 (xX8_isSheet p1) (fun v1 => if v1 = 0 then some ((-2), it) else grd (ix p1 4) (if (qs (Int32.toNatClampNeg p1)) = (-1) then some ((-11), it) else grd (ix p1 4) (bn1 (xX8_in p2 0 ((qz (Int32.toNatClampNeg p1)) - 1)) (fun v7 => if v7 = 0 then some ((-12), it) else grd (ix p1 4) (if (qs (Int32.toNatClampNeg p1)) = 0 then grd (ix ((40 * p1) + p2) 160) (lt1 (vp_updL it (Int32.toNatClampNeg ((40 * p1) + p2)) (Int32.toInt64 (Int64.toInt32 p3))) (fun it16 => some (1, it16))) else grd (ix ((40 * p1) + p2) 160) (lt1 (vp_updL it (Int32.toNatClampNeg ((40 * p1) + p2)) p3) (fun it13 => some (1, it13))))))))
def xX8_item (qs : Nat → Int32) (qz : Nat → Int32) (it : Nat → Int64)  (p1 : Int32) (p2 : Int32) : Option (Int64) :=
  bn1 (xX8_isSheet p1) (fun v1 => if v1 = 0 then some (-4611686018427387904) else grd (ix p1 4) (if (qs (Int32.toNatClampNeg p1)) = (-1) then some (-4611686018427387904) else grd (ix p1 4) (bn1 (xX8_in p2 0 ((qz (Int32.toNatClampNeg p1)) - 1)) (fun v7 => if v7 = 0 then some (-4611686018427387904) else grd (ix ((40 * p1) + p2) 160) (some (it (Int32.toNatClampNeg ((40 * p1) + p2))))))))
def xX8_differ_55 (s : Nat → Int32)  : Nat → Int32 → Int32 → Int32 → Int32 → Int32 → (Nat → Int32) → (Nat → Int32) → (Nat → Int64) → Option (Int32 × (Nat → Int32) × (Nat → Int32) × (Nat → Int64))
  | 0, _, _, _, _, _, _, _, _ => none
  | n + 1, x1, x2, x3, x5, x6, qs, qz, it => if (12 : Int32) ≤ x6 then grd (ix x1 4) (lt1 (upd qz (Int32.toNatClampNeg x1) x5) (fun qz3 => some (x5, qs, qz3, it))) else grd (ix ((122 + (12 * x2)) + x6) 554) (grd (ix ((122 + (12 * x3)) + x6) 554) (if (s (Int32.toNatClampNeg ((122 + (12 * x2)) + x6))) = (s (Int32.toNatClampNeg ((122 + (12 * x3)) + x6))) then (xX8_differ_55 s n) x1 x2 x3 x5 (x6 + 1) qs qz it else grd (ix ((40 * x1) + x5) 160) (lt1 (vp_updL it (Int32.toNatClampNeg ((40 * x1) + x5)) (Int32.toInt64 x6)) (fun it9 => bn1 (xX8_sizeIn s x3 x6) (fun v11 => grd (ix (((40 * x1) + x5) + 1) 160) (lt1 (vp_updL it9 (Int32.toNatClampNeg (((40 * x1) + x5) + 1)) (Int32.toInt64 v11)) (fun it14 => (xX8_differ_55 s n) x1 x2 x3 (x5 + 2) (x6 + 1) qs qz it14)))))))
def xX8_differ_32 (s : Nat → Int32)  (x1 : Int32) (x2 : Int32) (x3 : Int32) (y0 : Int32) (qs : Nat → Int32) (qz : Nat → Int32) (it : Nat → Int64) : Option (Int32 × (Nat → Int32) × (Nat → Int32) × (Nat → Int64)) :=
  if y0 = 0 then bn3 (xX8_makes qs qz it x1 1 0) (fun qs17 qz18 it19 => xX8_differ_55 s 600 x1 x2 x3 0 0 qs17 qz18 it19) else some (y0, qs, qz, it)
def xX8_differ (s : Nat → Int32) (qs : Nat → Int32) (qz : Nat → Int32) (it : Nat → Int64) (p1 : Int32) (p2 : Int32) (p3 : Int32) : Option (Int32 × (Nat → Int32) × (Nat → Int32) × (Nat → Int64)) :=
  bn1 (xX8_isSheet p1) (fun v21 => if v21 = 0 then some ((-2), qs, qz, it) else bn1 (xX8_askedSlots s p2) (fun v24 => if v24 = 0 then bn1 (xX8_askedSlots s p3) (fun v27 => xX8_differ_32 s p1 p2 p3 v27 qs qz it) else xX8_differ_32 s p1 p2 p3 v24 qs qz it))
def xX8_isApplied  (s : Nat → Int32) (hd : Nat → Int32) (p1 : Int32) (p2 : Int64) (p4 : Int64) : Option (Int32 × (Nat → Int32) × (Nat → Int32)) :=
  if (lg_cmp p2 0) < 0 then some (0, s, hd) else if (0 : Int32) < (lg_cmp p2 11) then some (0, s, hd) else if (lg_cmp p4 0) < 0 then some (0, s, hd) else if (lg_cmp p4 1000000000) ≤ 0 then if (lg_cmp p4 0) = 0 then bn3 (xX8_erased s hd p1 (Int64.toInt32 p2)) (fun v11 s12 hd13 => some (1, s12, hd13)) else bn3 (xX8_written s hd p1 (Int64.toInt32 p2) (Int64.toInt32 p4)) (fun v6 s7 hd8 => if v6 < 0 then some (0, s7, hd8) else some (1, s7, hd8)) else some (0, s, hd)
def xX8_apply_77 (qs : Nat → Int32) (qz : Nat → Int32) (it : Nat → Int64)  : Nat → Int32 → Int32 → Int32 → Int32 → (Nat → Int32) → (Nat → Int32) → Option (Int32 × (Nat → Int32) × (Nat → Int32))
  | 0, _, _, _, _, _, _ => none
  | n + 1, x1, x2, x5, x6, s, hd => grd (ix x2 4) (if (qz (Int32.toNatClampNeg x2)) ≤ (x6 + 1) then grd (ix x2 4) (if ((qz (Int32.toNatClampNeg x2)) - (qz (Int32.toNatClampNeg x2)) / 2 * 2) = 1 then some ((-12), s, hd) else some (x5, s, hd)) else grd (ix ((40 * x2) + x6) 160) (grd (ix (((40 * x2) + x6) + 1) 160) (bn3 (xX8_isApplied s hd x1 (it (Int32.toNatClampNeg ((40 * x2) + x6))) (it (Int32.toNatClampNeg (((40 * x2) + x6) + 1)))) (fun v7 s8 hd9 => if v7 = 0 then (xX8_apply_77 qs qz it n) x1 x2 (x5 + 0) (x6 + 2) s8 hd9 else (xX8_apply_77 qs qz it n) x1 x2 (x5 + 1) (x6 + 2) s8 hd9))))
def xX8_apply_58 (qs : Nat → Int32) (qz : Nat → Int32) (it : Nat → Int64)  (x1 : Int32) (x2 : Int32) (s : Nat → Int32) (hd : Nat → Int32) : Option (Int32 × (Nat → Int32) × (Nat → Int32)) :=
  grd (ix x2 4) (if (qs (Int32.toNatClampNeg x2)) = (-1) then some ((-11), s, hd) else xX8_apply_77 qs qz it 600 x1 x2 0 0 s hd)
def xX8_apply (qs : Nat → Int32) (qz : Nat → Int32) (it : Nat → Int64) (s : Nat → Int32) (hd : Nat → Int32) (p1 : Int32) (p2 : Int32) (p3 : Int32) : Option (Int32 × (Nat → Int32) × (Nat → Int32)) :=
  bn1 (xX8_isSheet p2) (fun v14 => if v14 = 0 then some ((-2), s, hd) else bn1 (xX8_in p3 0 1) (fun v17 => if v17 = 0 then some ((-2), s, hd) else bn1 (xX8_asked s p1 0) (fun v20 => if v20 = 0 then grd (ix p2 4) (if (qs (Int32.toNatClampNeg p2)) = (-1) then xX8_apply_58 qs qz it p1 p2 s hd else grd (ix p2 4) (if (qs (Int32.toNatClampNeg p2)) = p3 then xX8_apply_58 qs qz it p1 p2 s hd else some ((-13), s, hd))) else some (v20, s, hd))))
def xX8_lots  (lo : Int32)  : Option (Int32 × Int32) :=
  lt1 ((lo * 1103515245) + 12345) (fun lo1 => some ((((Int32.toUInt32 lo1 >>> (Int32.toUInt32 9 &&& Int32.toUInt32 31)).toInt32) - ((Int32.toUInt32 lo1 >>> (Int32.toUInt32 9 &&& Int32.toUInt32 31)).toInt32) / 24 * 24), lo1))
def xX8_draws  (s : Nat → Int32) (hd : Nat → Int32) (p1 : Int32) (p2 : Int32) (p3 : Int32) : Option ((Nat → Int32) × (Nat → Int32)) :=
  if (8 : Int32) ≤ p1 then if (11 : Int32) ≤ p1 then if (15 : Int32) ≤ p1 then if (19 : Int32) ≤ p1 then if (21 : Int32) ≤ p1 then if p1 = 21 then bn2 (xX8_promote s (p2 - p2 / 20 * 20)) (fun v15 s16 => some (s16, hd)) else if p1 = 22 then bn3 (xX8_rollback s hd (p2 - p2 / 20 * 20)) (fun v11 s12 hd13 => some (s12, hd13)) else bn2 (xX8_files s (-1)) (fun v8 s9 => some (s9, hd)) else bn2 (xX8_fork s (p2 - p2 / 20 * 20)) (fun v18 s19 => some (s19, hd)) else bn3 (xX8_remove s hd (p2 - p2 / 20 * 20)) (fun v21 s22 hd23 => some (s22, hd23)) else bn2 (xX8_snap s (p2 - p2 / 20 * 20) (p3 / 20)) (fun v25 s26 => some (s26, hd)) else bn3 (xX8_erase s hd (p2 - p2 / 20 * 20) (p3 - p3 / 12 * 12)) (fun v28 s29 hd30 => some (s29, hd30)) else bn3 (xX8_write s hd (p2 - p2 / 20 * 20) (p3 - p3 / 12 * 12) (1 + p2)) (fun v32 s33 hd34 => some (s33, hd34))
def xX8_things_4 (s : Nat → Int32)  : Nat → Int32 → Int32 → Option (Int32)
  | 0, _, _ => none
  | n + 1, x1, x2 => if (20 : Int32) ≤ x2 then some x1 else bn1 (xX8_isThing s x2) (fun v2 => if v2 = 0 then (xX8_things_4 s n) (x1 + 0) (x2 + 1) else (xX8_things_4 s n) (x1 + 1) (x2 + 1))
def xX8_things (s : Nat → Int32)   : Option (Int32) :=
  xX8_things_4 s 600 0 0
def xX8_drawn_192   : Nat → Int64 → Int32 → (Nat → Int32) → (Nat → Int32) → (Nat → Int32) → Int32 → Option (Int64 × (Nat → Int32) × (Nat → Int32) × (Nat → Int32) × Int32)
  | 0, _, _, _, _, _, _ => none
  | n + 1, x6, x8, s, fr, hd, lo => if (554 : Int32) ≤ x8 then some (x6, s, fr, hd, lo) else grd (ix x8 554) (grd (ix x8 554) (lt1 (upd s (Int32.toNatClampNeg x8) (fr (Int32.toNatClampNeg x8))) (fun s4 => (xX8_drawn_192 n) x6 (x8 + 1) s4 fr hd lo)))
def xX8_drawn_108   : Nat → Int32 → Int64 → Int32 → (Nat → Int32) → (Nat → Int32) → (Nat → Int32) → Int32 → Option (Int64 × (Nat → Int32) × (Nat → Int32) × (Nat → Int32) × Int32)
  | 0, _, _, _, _, _, _, _ => none
  | n + 1, x3, x4, x6, s, fr, hd, lo => if (96 : Int32) ≤ x6 then if x3 = 0 then bn1 (xX8_things s) (fun v14 => xX8_drawn_192 600 (Int32.toInt64 v14) 0 s fr hd lo) else if x3 = 1 then bn1 (xX8_blocks s) (fun v12 => xX8_drawn_192 600 (Int32.toInt64 v12) 0 s fr hd lo) else if x3 = 2 then grd (ix 1 554) (grd (ix 1 554) (xX8_drawn_192 600 (Int32.toInt64 ((s (Int32.toNatClampNeg 1)) - (fr (Int32.toNatClampNeg 1)))) 0 s fr hd lo)) else xX8_drawn_192 600 x4 0 s fr hd lo else grd (ix (362 + x6) 554) ((xX8_drawn_108 n) x3 (x4 + (Int32.toInt64 (s (Int32.toNatClampNeg (362 + x6))))) (x6 + 1) s fr hd lo)
def xX8_drawn_62   : Nat → Int32 → Int32 → Int32 → (Nat → Int32) → (Nat → Int32) → (Nat → Int32) → Int32 → Option (Int64 × (Nat → Int32) × (Nat → Int32) × (Nat → Int32) × Int32)
  | 0, _, _, _, _, _, _, _ => none
  | n + 1, x2, x3, x4, s, fr, hd, lo => if x2 ≤ x4 then xX8_drawn_108 600 x3 0 0 s fr hd lo else bn2 (xX8_lots lo) (fun v18 lo19 => bn2 (xX8_lots lo19) (fun v21 lo22 => bn2 (xX8_lots lo22) (fun v24 lo25 => bn2 (xX8_draws s hd v18 v21 v24) (fun s27 hd28 => (xX8_drawn_62 n) x2 x3 (x4 + 1) s27 fr hd28 lo25))))
def xX8_drawn_26   : Nat → Int32 → Int32 → Int32 → Int32 → (Nat → Int32) → (Nat → Int32) → (Nat → Int32) → Int32 → Option (Int64 × (Nat → Int32) × (Nat → Int32) × (Nat → Int32) × Int32)
  | 0, _, _, _, _, _, _, _, _ => none
  | n + 1, x1, x2, x3, x4, s, fr, hd, lo => if (554 : Int32) ≤ x4 then lt1 x1 (fun lo31 => xX8_drawn_62 600 x2 x3 0 s fr hd lo31) else grd (ix x4 554) (grd (ix x4 554) (lt1 (upd fr (Int32.toNatClampNeg x4) (s (Int32.toNatClampNeg x4))) (fun fr35 => (xX8_drawn_26 n) x1 x2 x3 (x4 + 1) s fr35 hd lo)))
def xX8_drawn  (s : Nat → Int32) (fr : Nat → Int32) (hd : Nat → Int32) (lo : Int32) (p1 : Int32) (p2 : Int32) (p3 : Int32) : Option (Int64 × (Nat → Int32) × (Nat → Int32) × (Nat → Int32) × Int32) :=
  bn1 (xX8_in p2 0 60) (fun v37 => if v37 = 0 then some ((-4611686018427387904), s, fr, hd, lo) else bn1 (xX8_in p3 0 3) (fun v40 => if v40 = 0 then some ((-4611686018427387904), s, fr, hd, lo) else xX8_drawn_26 600 p1 p2 p3 0 s fr hd lo))
def xX8_image_2 (s : Nat → Int32)  : Nat → Int32 → (Nat → Int32) → Int32 → Option (Int32 × (Nat → Int32) × Int32)
  | 0, _, _, _ => none
  | n + 1, x1, im, hm => if (554 : Int32) ≤ x1 then lt1 1 (fun hm2 => bn1 (xX8_things s) (fun v4 => some (v4, im, hm2))) else grd (ix x1 554) (grd (ix x1 554) (lt1 (upd im (Int32.toNatClampNeg x1) (s (Int32.toNatClampNeg x1))) (fun im8 => (xX8_image_2 s n) (x1 + 1) im8 hm)))
def xX8_image (s : Nat → Int32) (im : Nat → Int32) (hm : Int32)  : Option (Int32 × (Nat → Int32) × Int32) :=
  xX8_image_2 s 600 0 im hm
def xX8_back_12 (im : Nat → Int32) (hm : Int32)  : Nat → Int32 → (Nat → Int32) → Option (Int32 × (Nat → Int32))
  | 0, _, _ => none
  | n + 1, x1, s => if (554 : Int32) ≤ x1 then bn1 (xX8_things s) (fun v2 => some (v2, s)) else grd (ix x1 554) (grd (ix x1 554) (lt1 (upd s (Int32.toNatClampNeg x1) (im (Int32.toNatClampNeg x1))) (fun s6 => (xX8_back_12 im hm n) (x1 + 1) s6)))
def xX8_back (im : Nat → Int32) (hm : Int32) (s : Nat → Int32)  : Option (Int32 × (Nat → Int32)) :=
  if hm = 0 then some ((-3), s) else xX8_back_12 im hm 600 0 s
def xX8_count (s : Nat → Int32)  (p1 : Int32) : Option (Int32) :=
  if p1 = 0 then bn1 (xX8_things s) (fun v2 => some v2) else if p1 = 1 then bn1 (xX8_blocks s) (fun v5 => some v5) else if p1 = 2 then grd (ix 0 554) (some (s (Int32.toNatClampNeg 0))) else if p1 = 3 then grd (ix 1 554) (some (s (Int32.toNatClampNeg 1))) else some (-2)
