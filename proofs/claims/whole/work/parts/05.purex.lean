def fX0_has (σ : tf_S) (x1 : Int32) : Option (Int32 × tf_S) :=
  if x1 < 0 then
  (some ((0 : Int32), σ))
  else
  (if (σ 3 0) ≤ x1 then
  (some ((0 : Int32), σ))
  else
  (some ((1 : Int32), σ)))

def fX0_hasWith (σ : tf_S) (x1 x2 : Int32) : Option (Int32 × tf_S) :=
  (fX0_has σ x1).bind fun u1 =>
  if u1.1 = 0 then
  (some ((0 : Int32), u1.2))
  else
  (if tf_inb x1 16 = true then
  (if (u1.2 18 (x1).toNatClampNeg) = (-1 : Int32) then
  (if (1 : Int32) = x2 then
  (some ((1 : Int32), u1.2))
  else
  (some ((0 : Int32), u1.2)))
  else
  (if (2 : Int32) = x2 then
  (some ((1 : Int32), u1.2))
  else
  (some ((0 : Int32), u1.2))))
  else none)

def fX0_add_45 (x1 x2 x3 : Int32) : Nat → tf_S → Int32 → Option (Int32 × tf_S)
  | 0, _, _ => none
  | n + 1, σ, y4 =>
    if (2 : Int32) ≤ y4 then
    (tf_gl (tf_wr σ 3 0 ((σ 3 0) + (1 : Int32))) fun s9 =>
    some ((σ 3 0), s9))
    else
    (if tf_inb (((σ 3 0) * (2 : Int32)) + y4) 32 = true then
    (tf_gl (tf_wr σ 20 ((((σ 3 0) * (2 : Int32)) + y4)).toNatClampNeg (-1 : Int32)) fun s11 =>
    tf_gl (y4 + (1 : Int32)) fun v12 =>
    fX0_add_45 x1 x2 x3 n s11 v12)
    else none)
def fX0_add (σ : tf_S) (x1 x2 x3 : Int32) : Option (Int32 × tf_S) :=
  if (σ 3 0) < (16 : Int32) then
  (if tf_inb (σ 3 0) 16 = true then
  (tf_gl (tf_wr σ 17 ((σ 3 0)).toNatClampNeg x1) fun s3 =>
  if tf_inb (s3 3 0) 16 = true then
  (tf_gl (tf_wr s3 18 ((s3 3 0)).toNatClampNeg x2) fun s5 =>
  if tf_inb (s5 3 0) 16 = true then
  (tf_gl (tf_wr s5 19 ((s5 3 0)).toNatClampNeg x3) fun s7 =>
  fX0_add_45 x1 x2 x3 100000 s7 (0 : Int32))
  else none)
  else none)
  else none)
  else
  (some ((-3 : Int32), σ))

def fX1_has (σ : tf_S) (x1 : Int32) : Option (Int32 × tf_S) :=
  if x1 < 0 then
  (some ((0 : Int32), σ))
  else
  (if (σ 2 0) ≤ x1 then
  (some ((0 : Int32), σ))
  else
  (some ((1 : Int32), σ)))

def fX1_add (σ : tf_S) (x1 x2 : Int32) : Option (Int32 × tf_S) :=
  if (σ 2 0) < (24 : Int32) then
  (if tf_inb (σ 2 0) 24 = true then
  (tf_gl (tf_wr σ 15 ((σ 2 0)).toNatClampNeg x1) fun s3 =>
  if tf_inb (s3 2 0) 24 = true then
  (tf_gl (tf_wr s3 16 ((s3 2 0)).toNatClampNeg x2) fun s5 =>
  tf_gl (tf_wr s5 2 0 ((s5 2 0) + (1 : Int32))) fun s6 =>
  some ((s5 2 0), s6))
  else none)
  else none)
  else
  (some ((-3 : Int32), σ))

def fX2_has (σ : tf_S) (x1 : Int32) : Option (Int32 × tf_S) :=
  if x1 < 0 then
  (some ((0 : Int32), σ))
  else
  (if (σ 4 0) ≤ x1 then
  (some ((0 : Int32), σ))
  else
  (some ((1 : Int32), σ)))

def fX2_tell (σ : tf_S) (x1 x2 x3 x4 : Int32) : Option tf_S :=
  if tf_inb x1 24 = true then
  (tf_gl (tf_wr σ 27 (x1).toNatClampNeg x2) fun s2 =>
  if tf_inb x1 24 = true then
  (tf_gl (tf_wr s2 28 (x1).toNatClampNeg x3) fun s4 =>
  if tf_inb x1 24 = true then
  (if tf_bz x4 = true then
  (tf_gl (tf_wr s4 29 (x1).toNatClampNeg x4) fun s6 =>
  some s6)
  else none)
  else none)
  else none)
  else none

def fX2_bind (σ : tf_S) (x1 x2 x3 : Int32) : Option tf_S :=
  if tf_inb (x1 * (2 : Int32)) 48 = true then
  (tf_gl (tf_wr σ 30 ((x1 * (2 : Int32))).toNatClampNeg x2) fun s2 =>
  if tf_inb ((x1 * (2 : Int32)) + (1 : Int32)) 48 = true then
  (tf_gl (tf_wr s2 30 (((x1 * (2 : Int32)) + (1 : Int32))).toNatClampNeg x3) fun s4 =>
  some s4)
  else none)
  else none

def fX2_add (σ : tf_S) (x1 x2 x3 x4 x5 x6 : Int32) : Option (Int32 × tf_S) :=
  if (σ 4 0) < (24 : Int32) then
  (if tf_inb (σ 4 0) 24 = true then
  (tf_gl (tf_wr σ 21 ((σ 4 0)).toNatClampNeg x1) fun s3 =>
  if tf_inb (s3 4 0) 24 = true then
  (tf_gl (tf_wr s3 22 ((s3 4 0)).toNatClampNeg x2) fun s5 =>
  if tf_inb (s5 4 0) 24 = true then
  (tf_gl (tf_wr s5 23 ((s5 4 0)).toNatClampNeg x3) fun s7 =>
  if tf_inb (s7 4 0) 24 = true then
  (tf_gl (tf_wr s7 24 ((s7 4 0)).toNatClampNeg x4) fun s9 =>
  if tf_inb (s9 4 0) 24 = true then
  (tf_gl (tf_wr s9 25 ((s9 4 0)).toNatClampNeg x5) fun s11 =>
  if tf_inb (s11 4 0) 24 = true then
  (tf_gl (tf_wr s11 26 ((s11 4 0)).toNatClampNeg x6) fun s13 =>
  (fX2_tell s13 (s13 4 0) (-1 : Int32) (0 : Int32) (0 : Int32)).bind fun u14 =>
  (fX2_bind u14 (u14 4 0) (-1 : Int32) (-1 : Int32)).bind fun u16 =>
  tf_gl (tf_wr u16 4 0 ((u16 4 0) + (1 : Int32))) fun s18 =>
  some ((u16 4 0), s18))
  else none)
  else none)
  else none)
  else none)
  else none)
  else none)
  else
  (some ((-3 : Int32), σ))

def fX2_hasTwoInputs (σ : tf_S) (x1 : Int32) : Option (Int32 × tf_S) :=
  if tf_inb x1 24 = true then
  (if (σ 21 (x1).toNatClampNeg) = (4 : Int32) then
  (some ((1 : Int32), σ))
  else
  (if tf_inb x1 24 = true then
  (if (σ 21 (x1).toNatClampNeg) = (5 : Int32) then
  (some ((1 : Int32), σ))
  else
  (if tf_inb x1 24 = true then
  (if (σ 21 (x1).toNatClampNeg) = (6 : Int32) then
  (some ((1 : Int32), σ))
  else
  (some ((0 : Int32), σ)))
  else none))
  else none))
  else none

def fX2_howManyRisky_4 : Nat → tf_S → Int32 → Int32 → Option (Int32 × tf_S)
  | 0, _, _, _ => none
  | n + 1, σ, y1, y2 =>
    if (σ 4 0) ≤ y2 then
    (some (y1, σ))
    else
    (if tf_inb y2 24 = true then
    (if (σ 29 (y2).toNatClampNeg) = 0 then
    (tf_gl (y2 + (1 : Int32)) fun v4 =>
    fX2_howManyRisky_4 n σ y1 v4)
    else
    (tf_gl (y1 + (1 : Int32)) fun v5 =>
    tf_gl (y2 + (1 : Int32)) fun v6 =>
    fX2_howManyRisky_4 n σ v5 v6))
    else none)
def fX2_howManyRisky (σ : tf_S) : Option (Int32 × tf_S) :=
  fX2_howManyRisky_4 100000 σ (0 : Int32) (0 : Int32)

def fX6_isPrimitive (σ : tf_S) (x0 : Int32) : Option (Int32 × tf_S) :=
  if x0 < 0 then
  (some ((0 : Int32), σ))
  else
  (if (3 : Int32) < x0 then
  (some ((0 : Int32), σ))
  else
  (some ((1 : Int32), σ)))

def fX6_widens (σ : tf_S) (x0 x1 : Int32) : Option (Int32 × tf_S) :=
  if x0 = (1 : Int32) then
  (if x1 = (2 : Int32) then
  (some ((1 : Int32), σ))
  else
  (if x1 = (3 : Int32) then
  (some ((1 : Int32), σ))
  else
  (some ((0 : Int32), σ))))
  else
  (some ((0 : Int32), σ))

def fX6_isVariable (σ : tf_S) (x0 : Int32) : Option (Int32 × tf_S) :=
  if x0 = (4 : Int32) then
  (some ((1 : Int32), σ))
  else
  (if x0 = (5 : Int32) then
  (some ((1 : Int32), σ))
  else
  (some ((0 : Int32), σ)))

def fX3_bindTo (σ : tf_S) (x1 x2 : Int32) : Option (Int32 × tf_S) :=
  tf_gl (x1 - (4 : Int32)) fun v1 =>
  if tf_inb v1 2 = true then
  (if (σ 31 (v1).toNatClampNeg) = (-1 : Int32) then
  (if tf_inb v1 2 = true then
  (tf_gl (tf_wr σ 31 (v1).toNatClampNeg x2) fun s7 =>
  if tf_inb v1 2 = true then
  (if (s7 31 (v1).toNatClampNeg) = x2 then
  (some ((0 : Int32), s7))
  else
  (some ((2 : Int32), s7)))
  else none)
  else none)
  else
  (if tf_inb v1 2 = true then
  (if (σ 31 (v1).toNatClampNeg) = x2 then
  (some ((0 : Int32), σ))
  else
  (some ((2 : Int32), σ)))
  else none))
  else none

def fX4_classAbove (σ : tf_S) (x1 : Int32) : Option (Int32 × tf_S) :=
  if x1 = 0 then
  (some ((-1 : Int32), σ))
  else
  (if tf_inb x1 12 = true then
  (if tf_inb (σ 8 (x1).toNatClampNeg) 80 = true then
  (some ((σ 9 ((σ 8 (x1).toNatClampNeg)).toNatClampNeg), σ))
  else none)
  else none)

def fX4_isFrom_5 (x1 x2 : Int32) : Nat → tf_S → Int32 → Int32 → Option (Int32 × tf_S)
  | 0, _, _, _ => none
  | n + 1, σ, y3, y4 =>
    if y3 ≤ x2 then
    (if y3 = x2 then
    (some ((1 : Int32), σ))
    else
    (some ((0 : Int32), σ)))
    else
    (if (12 : Int32) ≤ y4 then
    (if y3 = x2 then
    (some ((1 : Int32), σ))
    else
    (some ((0 : Int32), σ)))
    else
    ((fX4_classAbove σ y3).bind fun u5 =>
    tf_gl (u5.1) fun v7 =>
    tf_gl (y4 + (1 : Int32)) fun v8 =>
    fX4_isFrom_5 x1 x2 n u5.2 v7 v8))
def fX4_isFrom (σ : tf_S) (x1 x2 : Int32) : Option (Int32 × tf_S) :=
  fX4_isFrom_5 x1 x2 100000 σ x1 (0 : Int32)

def fX4_argumentWithoutImage_33 (x1 : Int32) (σ : tf_S) : Option (Int32 × tf_S) :=
  if tf_inb x1 80 = true then
  (if (σ 11 (x1).toNatClampNeg) < (6 : Int32) then
  (some ((-1 : Int32), σ))
  else
  (if tf_inb x1 80 = true then
  (if tf_inb (σ 11 (x1).toNatClampNeg) 80 = true then
  (if (σ 13 ((σ 11 (x1).toNatClampNeg)).toNatClampNeg) = (-1 : Int32) then
  (if tf_inb x1 80 = true then
  (some ((σ 11 (x1).toNatClampNeg), σ))
  else none)
  else
  (some ((-1 : Int32), σ)))
  else none)
  else none))
  else none
def fX4_argumentWithoutImage (σ : tf_S) (x1 : Int32) : Option (Int32 × tf_S) :=
  if tf_inb x1 80 = true then
  (if (σ 10 (x1).toNatClampNeg) < (6 : Int32) then
  (fX4_argumentWithoutImage_33 x1 σ)
  else
  (if tf_inb x1 80 = true then
  (if tf_inb (σ 10 (x1).toNatClampNeg) 80 = true then
  (if (σ 13 ((σ 10 (x1).toNatClampNeg)).toNatClampNeg) = (-1 : Int32) then
  (if tf_inb x1 80 = true then
  (some ((σ 10 (x1).toNatClampNeg), σ))
  else none)
  else
  (fX4_argumentWithoutImage_33 x1 σ))
  else none)
  else none))
  else none

def fX4_imageOf (σ : tf_S) (x1 : Int32) : Option (Int32 × tf_S) :=
  if x1 = (-1 : Int32) then
  (some ((-1 : Int32), σ))
  else
  (if tf_inb x1 80 = true then
  (some ((σ 13 (x1).toNatClampNeg), σ))
  else none)

def fX4_make_119 (x1 x2 x3 : Int32) (σ : tf_S) (t0 t1 : Int32) : Option (Int32 × tf_S) :=
  if 0 ≤ x3 then
  (if tf_inb x3 80 = true then
  (if tf_inb t1 80 = true then
  (tf_gl (tf_wr σ 12 (t1).toNatClampNeg (t0 ||| (σ 12 (x3).toNatClampNeg))) fun s14 =>
  tf_gl (tf_wr s14 1 3 ((s14 1 3) + (1 : Int32))) fun s15 =>
  some ((s14 1 3), s15))
  else none)
  else none)
  else
  (if tf_inb t1 80 = true then
  (tf_gl (tf_wr σ 12 (t1).toNatClampNeg (t0 ||| (0 : Int32))) fun s17 =>
  tf_gl (tf_wr s17 1 3 ((s17 1 3) + (1 : Int32))) fun s18 =>
  some ((s17 1 3), s18))
  else none)
def fX4_make_4 (x1 x2 x3 : Int32) : Nat → tf_S → Int32 → Option (Int32 × tf_S)
  | 0, _, _ => none
  | n + 1, σ, y4 =>
    if (σ 1 3) ≤ y4 then
    (if (σ 1 3) < (80 : Int32) then
    (if tf_inb (σ 1 3) 80 = true then
    (tf_gl (tf_wr σ 9 ((σ 1 3)).toNatClampNeg x1) fun s4 =>
    if tf_inb (s4 1 3) 80 = true then
    (tf_gl (tf_wr s4 10 ((s4 1 3)).toNatClampNeg x2) fun s6 =>
    if tf_inb (s6 1 3) 80 = true then
    (tf_gl (tf_wr s6 11 ((s6 1 3)).toNatClampNeg x3) fun s8 =>
    if 0 ≤ x2 then
    (if tf_inb x2 80 = true then
    (fX4_make_119 x1 x2 x3 s8 (s8 12 (x2).toNatClampNeg) (s8 1 3))
    else none)
    else
    (fX4_make_119 x1 x2 x3 s8 (0 : Int32) (s8 1 3)))
    else none)
    else none)
    else none)
    else
    (some ((-3 : Int32), σ)))
    else
    (if tf_inb y4 80 = true then
    (if (σ 9 (y4).toNatClampNeg) = x1 then
    (if tf_inb y4 80 = true then
    (if (σ 10 (y4).toNatClampNeg) = x2 then
    (if tf_inb y4 80 = true then
    (if (σ 11 (y4).toNatClampNeg) = x3 then
    (some (y4, σ))
    else
    (tf_gl (y4 + (1 : Int32)) fun v27 =>
    fX4_make_4 x1 x2 x3 n σ v27))
    else none)
    else
    (tf_gl (y4 + (1 : Int32)) fun v24 =>
    fX4_make_4 x1 x2 x3 n σ v24))
    else none)
    else
    (tf_gl (y4 + (1 : Int32)) fun v21 =>
    fX4_make_4 x1 x2 x3 n σ v21))
    else none)
def fX4_make (σ : tf_S) (x1 x2 x3 : Int32) : Option (Int32 × tf_S) :=
  fX4_make_4 x1 x2 x3 100000 σ (6 : Int32)

def fX4_putIn_142 (x1 x2 x3 : Int32) (k82 : tf_S → Int32 → Int32 → Option (Int32 × tf_S)) (σ : tf_S) (y4 y5 y6 : Int32) : Option (Int32 × tf_S) :=
  if tf_inb y6 80 = true then
  (if tf_inb y6 80 = true then
  ((fX4_imageOf σ (σ 10 (y6).toNatClampNeg)).bind fun u22 =>
  if tf_inb y6 80 = true then
  ((fX4_imageOf u22.2 (u22.2 11 (y6).toNatClampNeg)).bind fun u25 =>
  (fX4_make u25.2 (σ 9 (y6).toNatClampNeg) u22.1 u25.1).bind fun u27 =>
  tf_gl (u27.1) fun v29 =>
  if v29 = (-3 : Int32) then
  (some ((-3 : Int32), u27.2))
  else
  (if tf_inb y6 80 = true then
  (tf_gl (tf_wr u27.2 13 (y6).toNatClampNeg v29) fun s32 =>
  tf_gl (y4 + (-1 : Int32)) fun v33 =>
  tf_gl (y5 + (1 : Int32)) fun v34 =>
  k82 s32 v33 v34)
  else none))
  else none)
  else none)
  else none
def fX4_putIn_82 (x1 x2 x3 : Int32) : Nat → tf_S → Int32 → Int32 → Option (Int32 × tf_S)
  | 0, _, _, _ => none
  | n + 1, σ, y4, y5 =>
    if y4 ≤ 0 then
    (if tf_inb x1 80 = true then
    (some ((σ 13 (x1).toNatClampNeg), σ))
    else none)
    else
    (if (160 : Int32) ≤ y5 then
    (if tf_inb x1 80 = true then
    (some ((σ 13 (x1).toNatClampNeg), σ))
    else none)
    else
    (if tf_inb (y4 - (1 : Int32)) 80 = true then
    (tf_gl (σ 14 ((y4 - (1 : Int32))).toNatClampNeg) fun v15 =>
    (fX4_argumentWithoutImage σ v15).bind fun u16 =>
    tf_gl (u16.1) fun v18 =>
    if v18 = (-1 : Int32) then
    (fX4_putIn_142 x1 x2 x3 (fX4_putIn_82 x1 x2 x3 n) u16.2 y4 y5 v15)
    else
    (if (80 : Int32) ≤ y4 then
    (fX4_putIn_142 x1 x2 x3 (fX4_putIn_82 x1 x2 x3 n) u16.2 y4 y5 v15)
    else
    (tf_gl (y4 + (1 : Int32)) fun v36 =>
    if tf_inb y4 80 = true then
    (tf_gl (tf_wr u16.2 14 (y4).toNatClampNeg v18) fun s38 =>
    tf_gl (y5 + (1 : Int32)) fun v39 =>
    fX4_putIn_82 x1 x2 x3 n s38 v36 v39)
    else none)))
    else none))
def fX4_putIn_3 (x1 x2 x3 : Int32) : Nat → tf_S → Int32 → Option (Int32 × tf_S)
  | 0, _, _ => none
  | n + 1, σ, y4 =>
    if (σ 1 3) ≤ y4 then
    (if tf_inb (4 : Int32) 80 = true then
    (tf_gl (tf_wr σ 13 ((4 : Int32)).toNatClampNeg x2) fun s3 =>
    if tf_inb (5 : Int32) 80 = true then
    (tf_gl (tf_wr s3 13 ((5 : Int32)).toNatClampNeg x3) fun s5 =>
    if tf_inb (0 : Int32) 80 = true then
    (tf_gl (tf_wr s5 14 ((0 : Int32)).toNatClampNeg x1) fun s7 =>
    if tf_inb x1 80 = true then
    (if (s7 13 (x1).toNatClampNeg) = (-1 : Int32) then
    (fX4_putIn_82 x1 x2 x3 100000 s7 (1 : Int32) (0 : Int32))
    else
    (fX4_putIn_82 x1 x2 x3 100000 s7 (0 : Int32) (0 : Int32)))
    else none)
    else none)
    else none)
    else none)
    else
    (if tf_inb y4 80 = true then
    (if (σ 12 (y4).toNatClampNeg) = 0 then
    (if tf_inb y4 80 = true then
    (tf_gl (tf_wr σ 13 (y4).toNatClampNeg y4) fun s46 =>
    tf_gl (y4 + (1 : Int32)) fun v47 =>
    fX4_putIn_3 x1 x2 x3 n s46 v47)
    else none)
    else
    (if tf_inb y4 80 = true then
    (tf_gl (tf_wr σ 13 (y4).toNatClampNeg (-1 : Int32)) fun s43 =>
    tf_gl (y4 + (1 : Int32)) fun v44 =>
    fX4_putIn_3 x1 x2 x3 n s43 v44)
    else none))
    else none)
def fX4_putIn (σ : tf_S) (x1 x2 x3 : Int32) : Option (Int32 × tf_S) :=
  fX4_putIn_3 x1 x2 x3 100000 σ (0 : Int32)

def fX4_seenAs_21 (x1 x2 : Int32) : Nat → tf_S → Int32 → Int32 → Option (Int32 × tf_S)
  | 0, _, _, _ => none
  | n + 1, σ, y3, y4 =>
    if tf_inb y3 80 = true then
    (if (σ 9 (y3).toNatClampNeg) = x2 then
    (some (y3, σ))
    else
    (if (12 : Int32) ≤ y4 then
    (some (y3, σ))
    else
    (if tf_inb y3 80 = true then
    (if tf_inb (σ 9 (y3).toNatClampNeg) 12 = true then
    (if tf_inb y3 80 = true then
    (if tf_inb y3 80 = true then
    ((fX4_putIn σ (σ 8 ((σ 9 (y3).toNatClampNeg)).toNatClampNeg) (σ 10 (y3).toNatClampNeg) (σ 11 (y3).toNatClampNeg)).bind fun u12 =>
    tf_gl (u12.1) fun v14 =>
    if v14 = (-3 : Int32) then
    (some ((-3 : Int32), u12.2))
    else
    (tf_gl (y4 + (1 : Int32)) fun v16 =>
    fX4_seenAs_21 x1 x2 n u12.2 v14 v16))
    else none)
    else none)
    else none)
    else none)))
    else none
def fX4_seenAs (σ : tf_S) (x1 x2 : Int32) : Option (Int32 × tf_S) :=
  if tf_inb x1 80 = true then
  ((fX4_isFrom σ (σ 9 (x1).toNatClampNeg) x2).bind fun u2 =>
  if u2.1 = 0 then
  (some ((-1 : Int32), u2.2))
  else
  (fX4_seenAs_21 x1 x2 100000 u2.2 x1 (0 : Int32)))
  else none

def fX3_await (σ : tf_S) (x1 x2 x3 : Int32) : Option (Int32 × tf_S) :=
  if x1 = (-1 : Int32) then
  (some (x3, σ))
  else
  (if x2 = (-1 : Int32) then
  (some (x3, σ))
  else
  (if x3 < (82 : Int32) then
  (if tf_inb x3 82 = true then
  (tf_gl (tf_wr σ 33 (x3).toNatClampNeg x1) fun s5 =>
  if tf_inb x3 82 = true then
  (tf_gl (tf_wr s5 34 (x3).toNatClampNeg x2) fun s7 =>
  some ((x3 + (1 : Int32)), s7))
  else none)
  else none)
  else
  (some (x3, σ))))

def fX3_match_22 (x1 x2 : Int32) : Nat → tf_S → Int32 → Int32 → Int32 → Option (Int32 × tf_S)
  | 0, _, _, _, _ => none
  | n + 1, σ, y3, y4, y5 =>
    if y3 ≤ 0 then
    (some ((0 : Int32), σ))
    else
    (if (6400 : Int32) ≤ y5 then
    (some ((0 : Int32), σ))
    else
    (tf_gl (y3 + (-1 : Int32)) fun v7 =>
    if tf_inb v7 82 = true then
    (tf_gl (σ 33 (v7).toNatClampNeg) fun v9 =>
    if tf_inb v7 82 = true then
    (tf_gl (σ 34 (v7).toNatClampNeg) fun v11 =>
    (fX6_isVariable σ v9).bind fun u12 =>
    if u12.1 = 0 then
    (if tf_inb v9 80 = true then
    (if tf_inb v11 80 = true then
    (if (u12.2 9 (v9).toNatClampNeg) = (u12.2 9 (v11).toNatClampNeg) then
    (if tf_inb v9 80 = true then
    (if (u12.2 32 (v9).toNatClampNeg) = v11 then
    (if y4 = 0 then
    (tf_gl (y5 + (1 : Int32)) fun v21 =>
    fX3_match_22 x1 x2 n u12.2 v7 y4 v21)
    else
    (some (y4, u12.2)))
    else
    (if tf_inb v9 80 = true then
    (tf_gl (tf_wr u12.2 32 (v9).toNatClampNeg v11) fun s23 =>
    if tf_inb v9 80 = true then
    (if tf_inb v11 80 = true then
    ((fX3_await s23 (s23 11 (v9).toNatClampNeg) (s23 11 (v11).toNatClampNeg) v7).bind fun u26 =>
    tf_gl (u26.1) fun v28 =>
    if tf_inb v9 80 = true then
    (if tf_inb v11 80 = true then
    ((fX3_await u26.2 (u26.2 10 (v9).toNatClampNeg) (u26.2 10 (v11).toNatClampNeg) v28).bind fun u31 =>
    tf_gl (u31.1) fun v33 =>
    if y4 = 0 then
    (tf_gl (y5 + (1 : Int32)) fun v35 =>
    fX3_match_22 x1 x2 n u31.2 v33 y4 v35)
    else
    (some (y4, u31.2)))
    else none)
    else none)
    else none)
    else none)
    else none))
    else none)
    else
    (if (1 : Int32) = 0 then
    (tf_gl (y5 + (1 : Int32)) fun v37 =>
    fX3_match_22 x1 x2 n u12.2 v7 (1 : Int32) v37)
    else
    (some ((1 : Int32), u12.2))))
    else none)
    else none)
    else
    ((fX3_bindTo u12.2 v9 v11).bind fun u38 =>
    tf_gl (u38.1) fun v40 =>
    if v40 = 0 then
    (tf_gl (y5 + (1 : Int32)) fun v42 =>
    fX3_match_22 x1 x2 n u38.2 v7 v40 v42)
    else
    (some (v40, u38.2))))
    else none)
    else none))
def fX3_match (σ : tf_S) (x1 x2 : Int32) : Option (Int32 × tf_S) :=
  if tf_inb (0 : Int32) 82 = true then
  (tf_gl (tf_wr σ 33 ((0 : Int32)).toNatClampNeg x1) fun s2 =>
  if tf_inb (0 : Int32) 82 = true then
  (tf_gl (tf_wr s2 34 ((0 : Int32)).toNatClampNeg x2) fun s4 =>
  fX3_match_22 x1 x2 100000 s4 (1 : Int32) (0 : Int32) (0 : Int32))
  else none)
  else none

def fX3_take (σ : tf_S) (x1 x2 : Int32) : Option (Int32 × tf_S) :=
  (fX6_isPrimitive σ x1).bind fun u1 =>
  if u1.1 = 0 then
  ((fX6_isPrimitive u1.2 x2).bind fun u4 =>
  if u4.1 = 0 then
  ((fX6_isVariable u4.2 x1).bind fun u7 =>
  if u7.1 = 0 then
  (if tf_inb x1 80 = true then
  ((fX4_seenAs u7.2 x2 (u7.2 9 (x1).toNatClampNeg)).bind fun u11 =>
  tf_gl (u11.1) fun v13 =>
  if v13 = (-3 : Int32) then
  (some ((8 : Int32), u11.2))
  else
  (if v13 = (-1 : Int32) then
  (some ((1 : Int32), u11.2))
  else
  ((fX3_match u11.2 x1 v13).bind fun u16 =>
  some (u16.1, u16.2))))
  else none)
  else
  ((fX3_bindTo u7.2 x1 x2).bind fun u18 =>
  some (u18.1, u18.2)))
  else
  (some ((1 : Int32), u4.2)))
  else
  (if x2 = x1 then
  (some ((0 : Int32), u1.2))
  else
  ((fX6_widens u1.2 x2 x1).bind fun u21 =>
  if u21.1 = 0 then
  (some ((1 : Int32), u21.2))
  else
  (some ((0 : Int32), u21.2))))

def fX4_goesFor (σ : tf_S) (x1 x2 : Int32) : Option (Int32 × tf_S) :=
  if x1 = x2 then
  (some ((1 : Int32), σ))
  else
  ((fX6_widens σ x1 x2).bind fun u2 =>
  if u2.1 = 0 then
  ((fX6_isPrimitive u2.2 x1).bind fun u5 =>
  if u5.1 = 0 then
  ((fX6_isPrimitive u5.2 x2).bind fun u8 =>
  if u8.1 = 0 then
  (if tf_inb x2 80 = true then
  ((fX4_seenAs u8.2 x1 (u8.2 9 (x2).toNatClampNeg)).bind fun u12 =>
  tf_gl (u12.1) fun v14 =>
  if v14 = (-3 : Int32) then
  (some ((-3 : Int32), u12.2))
  else
  (if v14 = x2 then
  (some ((1 : Int32), u12.2))
  else
  (some ((0 : Int32), u12.2))))
  else none)
  else
  (some ((0 : Int32), u8.2)))
  else
  (some ((0 : Int32), u5.2)))
  else
  (some ((1 : Int32), u2.2)))

def fX3_lookAtBounds_2 (x1 : Int32) : Nat → tf_S → Int32 → Option (Int32 × tf_S)
  | 0, _, _ => none
  | n + 1, σ, y2 =>
    if (2 : Int32) ≤ y2 then
    (some ((0 : Int32), σ))
    else
    (if tf_inb ((x1 * (2 : Int32)) + y2) 32 = true then
    (tf_gl (σ 20 (((x1 * (2 : Int32)) + y2)).toNatClampNeg) fun v3 =>
    if tf_inb y2 2 = true then
    (if (σ 31 (y2).toNatClampNeg) = (-1 : Int32) then
    (tf_gl (y2 + (1 : Int32)) fun v6 =>
    fX3_lookAtBounds_2 x1 n σ v6)
    else
    (if v3 = (-1 : Int32) then
    (tf_gl (y2 + (1 : Int32)) fun v8 =>
    fX3_lookAtBounds_2 x1 n σ v8)
    else
    (if tf_inb y2 2 = true then
    ((fX4_goesFor σ (σ 31 (y2).toNatClampNeg) v3).bind fun u10 =>
    tf_gl (u10.1) fun v12 =>
    if v12 = (1 : Int32) then
    (tf_gl (y2 + (1 : Int32)) fun v14 =>
    fX3_lookAtBounds_2 x1 n u10.2 v14)
    else
    (if v12 = (-3 : Int32) then
    (some ((8 : Int32), u10.2))
    else
    (some ((3 : Int32), u10.2))))
    else none)))
    else none)
    else none)
def fX3_lookAtBounds (σ : tf_S) (x1 : Int32) : Option (Int32 × tf_S) :=
  fX3_lookAtBounds_2 x1 100000 σ (0 : Int32)

def fX3_isBoundWithin_30 (x1 : Int32) (σ : tf_S) (t0 t1 : Int32) : Option (Int32 × tf_S) :=
  tf_gl (t1 ||| t0) fun v5 =>
  if tf_inb x1 80 = true then
  (if ((σ 12 (x1).toNatClampNeg) &&& (v5 ^^^ (-1 : Int32))) = 0 then
  (some ((1 : Int32), σ))
  else
  (some ((0 : Int32), σ)))
  else none
def fX3_isBoundWithin (σ : tf_S) (x1 : Int32) : Option (Int32 × tf_S) :=
  if tf_inb (0 : Int32) 2 = true then
  (if (σ 31 ((0 : Int32)).toNatClampNeg) = (-1 : Int32) then
  (if tf_inb (1 : Int32) 2 = true then
  (if (σ 31 ((1 : Int32)).toNatClampNeg) = (-1 : Int32) then
  (fX3_isBoundWithin_30 x1 σ (0 : Int32) (0 : Int32))
  else
  (fX3_isBoundWithin_30 x1 σ (2 : Int32) (0 : Int32)))
  else none)
  else
  (if tf_inb (1 : Int32) 2 = true then
  (if (σ 31 ((1 : Int32)).toNatClampNeg) = (-1 : Int32) then
  (fX3_isBoundWithin_30 x1 σ (0 : Int32) (1 : Int32))
  else
  (fX3_isBoundWithin_30 x1 σ (2 : Int32) (1 : Int32)))
  else none))
  else none

def fX3_putTo_112 (x1 x2 x3 : Int32) (σ : tf_S) (y4 : Int32) : Option (Int32 × tf_S) :=
  if (σ 6 3) = 0 then
  (if tf_inb (0 : Int32) 2 = true then
  (if tf_inb (1 : Int32) 2 = true then
  ((fX4_putIn σ y4 (σ 31 ((0 : Int32)).toNatClampNeg) (σ 31 ((1 : Int32)).toNatClampNeg)).bind fun u15 =>
  tf_gl (u15.1) fun v17 =>
  if v17 = (-3 : Int32) then
  (tf_gl (tf_wr u15.2 6 3 (8 : Int32)) fun s21 =>
  if v17 = (-3 : Int32) then
  (some ((-1 : Int32), s21))
  else
  (some (v17, s21)))
  else
  (tf_gl (tf_wr u15.2 6 3 (0 : Int32)) fun s19 =>
  if v17 = (-3 : Int32) then
  (some ((-1 : Int32), s19))
  else
  (some (v17, s19))))
  else none)
  else none)
  else
  (some ((-1 : Int32), σ))
def fX3_putTo_80 (x1 x2 x3 : Int32) (σ : tf_S) : Option (Int32 × tf_S) :=
  if tf_inb x1 16 = true then
  (tf_gl (σ 19 (x1).toNatClampNeg) fun v10 =>
  if (σ 6 3) = 0 then
  ((fX3_isBoundWithin σ v10).bind fun u23 =>
  if u23.1 = 0 then
  (tf_gl (tf_wr u23.2 6 3 (4 : Int32)) fun s26 =>
  fX3_putTo_112 x1 x2 x3 s26 v10)
  else
  (fX3_putTo_112 x1 x2 x3 u23.2 v10))
  else
  (fX3_putTo_112 x1 x2 x3 σ v10))
  else none
def fX3_putTo (σ : tf_S) (x1 x2 x3 : Int32) : Option (Int32 × tf_S) :=
  tf_gl (tf_hs σ 32 (tf_fl (σ 32) 80 (-1 : Int32))) fun s1 =>
  tf_gl (tf_hs s1 31 (tf_fl (s1 31) 2 (-1 : Int32))) fun s2 =>
  if tf_inb x1 16 = true then
  ((fX3_take s2 (s2 17 (x1).toNatClampNeg) x2).bind fun u4 =>
  tf_gl (tf_wr u4.2 6 3 u4.1) fun s6 =>
  if (s6 6 3) = 0 then
  (if x3 = (-1 : Int32) then
  (if (s6 6 3) = 0 then
  ((fX3_lookAtBounds s6 x1).bind fun u32 =>
  tf_gl (tf_wr u32.2 6 3 u32.1) fun s34 =>
  fX3_putTo_80 x1 x2 x3 s34)
  else
  (fX3_putTo_80 x1 x2 x3 s6))
  else
  (if tf_inb x1 16 = true then
  ((fX3_take s6 (s6 18 (x1).toNatClampNeg) x3).bind fun u36 =>
  tf_gl (tf_wr u36.2 6 3 u36.1) fun s38 =>
  if (s38 6 3) = 0 then
  ((fX3_lookAtBounds s38 x1).bind fun u40 =>
  tf_gl (tf_wr u40.2 6 3 u40.1) fun s42 =>
  fX3_putTo_80 x1 x2 x3 s42)
  else
  (fX3_putTo_80 x1 x2 x3 s38))
  else none))
  else
  (if (s6 6 3) = 0 then
  ((fX3_lookAtBounds s6 x1).bind fun u27 =>
  tf_gl (tf_wr u27.2 6 3 u27.1) fun s29 =>
  fX3_putTo_80 x1 x2 x3 s29)
  else
  (fX3_putTo_80 x1 x2 x3 s6)))
  else none

def fX4_isClass (σ : tf_S) (x1 : Int32) : Option (Int32 × tf_S) :=
  if x1 < 0 then
  (some ((0 : Int32), σ))
  else
  (if (σ 1 0) ≤ x1 then
  (some ((0 : Int32), σ))
  else
  (some ((1 : Int32), σ)))

def fX4_isType (σ : tf_S) (x1 : Int32) : Option (Int32 × tf_S) :=
  if x1 < 0 then
  (some ((0 : Int32), σ))
  else
  (if (σ 1 3) ≤ x1 then
  (some ((0 : Int32), σ))
  else
  (some ((1 : Int32), σ)))

def fX4_isClassType (σ : tf_S) (x1 : Int32) : Option (Int32 × tf_S) :=
  if x1 < (6 : Int32) then
  (some ((0 : Int32), σ))
  else
  (if (σ 1 3) ≤ x1 then
  (some ((0 : Int32), σ))
  else
  (some ((1 : Int32), σ)))

def fX4_isArgument (σ : tf_S) (x1 : Int32) : Option (Int32 × tf_S) :=
  if x1 < (4 : Int32) then
  (some ((0 : Int32), σ))
  else
  (if (σ 1 3) ≤ x1 then
  (some ((0 : Int32), σ))
  else
  (some ((1 : Int32), σ)))

def fX4_isClosed (σ : tf_S) (x1 : Int32) : Option (Int32 × tf_S) :=
  (fX4_isType σ x1).bind fun u1 =>
  if u1.1 = 0 then
  (some ((0 : Int32), u1.2))
  else
  (if tf_inb x1 80 = true then
  (if (u1.2 12 (x1).toNatClampNeg) = 0 then
  (some ((1 : Int32), u1.2))
  else
  (some ((0 : Int32), u1.2)))
  else none)

def fX4_hasOnly (σ : tf_S) (x1 x2 : Int32) : Option (Int32 × tf_S) :=
  if tf_inb x1 80 = true then
  (if ((σ 12 (x1).toNatClampNeg) >>> (x2 &&& 31)) = 0 then
  (some ((1 : Int32), σ))
  else
  (some ((0 : Int32), σ)))
  else none

def fX4_addClass (σ : tf_S) (x1 x2 : Int32) : Option (Int32 × tf_S) :=
  if (σ 1 0) < (12 : Int32) then
  (if tf_inb (σ 1 0) 12 = true then
  (tf_gl (tf_wr σ 7 ((σ 1 0)).toNatClampNeg x1) fun s3 =>
  if tf_inb (s3 1 0) 12 = true then
  (tf_gl (tf_wr s3 8 ((s3 1 0)).toNatClampNeg x2) fun s5 =>
  tf_gl (tf_wr s5 1 0 ((s5 1 0) + (1 : Int32))) fun s6 =>
  some ((s5 1 0), s6))
  else none)
  else none)
  else
  (some ((-3 : Int32), σ))

def fX4_commonOf_51 (x1 x2 : Int32) : Nat → tf_S → Int32 → Int32 → Option (Int32 × tf_S)
  | 0, _, _, _ => none
  | n + 1, σ, y3, y4 =>
    if y3 = (-1 : Int32) then
    (some ((-1 : Int32), σ))
    else
    (if (12 : Int32) ≤ y4 then
    (some ((-1 : Int32), σ))
    else
    (if tf_inb x2 80 = true then
    ((fX4_isFrom σ (σ 9 (x2).toNatClampNeg) y3).bind fun u19 =>
    if u19.1 = 0 then
    ((fX4_classAbove u19.2 y3).bind fun u22 =>
    tf_gl (u22.1) fun v24 =>
    tf_gl (y4 + (1 : Int32)) fun v25 =>
    fX4_commonOf_51 x1 x2 n u22.2 v24 v25)
    else
    ((fX4_seenAs u19.2 x1 y3).bind fun u26 =>
    tf_gl (u26.1) fun v28 =>
    if v28 = (-3 : Int32) then
    (some ((-3 : Int32), u26.2))
    else
    ((fX4_seenAs u26.2 x2 y3).bind fun u30 =>
    tf_gl (u30.1) fun v32 =>
    if v32 = (-3 : Int32) then
    (some (v32, u30.2))
    else
    (if v32 = v28 then
    (some (v32, u30.2))
    else
    ((fX4_classAbove u30.2 y3).bind fun u35 =>
    tf_gl (u35.1) fun v37 =>
    tf_gl (y4 + (1 : Int32)) fun v38 =>
    fX4_commonOf_51 x1 x2 n u35.2 v37 v38)))))
    else none))
def fX4_commonOf (σ : tf_S) (x1 x2 : Int32) : Option (Int32 × tf_S) :=
  if x1 = x2 then
  (some (x1, σ))
  else
  ((fX6_widens σ x2 x1).bind fun u2 =>
  if u2.1 = 0 then
  ((fX6_widens u2.2 x1 x2).bind fun u5 =>
  if u5.1 = 0 then
  ((fX6_isPrimitive u5.2 x1).bind fun u8 =>
  if u8.1 = 0 then
  ((fX6_isPrimitive u8.2 x2).bind fun u11 =>
  if u11.1 = 0 then
  (if tf_inb x1 80 = true then
  (tf_gl (u11.2 9 (x1).toNatClampNeg) fun v15 =>
  fX4_commonOf_51 x1 x2 100000 u11.2 v15 (0 : Int32))
  else none)
  else
  (some ((-1 : Int32), u11.2)))
  else
  (some ((-1 : Int32), u8.2)))
  else
  (some (x2, u5.2)))
  else
  (some (x1, u2.2)))

def fX5_none (σ : tf_S) (x1 : Int32) : Option (Int32 × tf_S) :=
  tf_gl (tf_wr σ 5 4 x1) fun s1 =>
  some ((-1 : Int32), s1)

def fX5_orFault (σ : tf_S) (x1 x2 : Int32) : Option (Int32 × tf_S) :=
  if x1 < 0 then
  (if x1 = (-3 : Int32) then
  ((fX5_none σ (8 : Int32)).bind fun u5 =>
  some (u5.1, u5.2))
  else
  ((fX5_none σ x2).bind fun u3 =>
  some (u3.1, u3.2)))
  else
  (some (x1, σ))

def fX5_filtered (σ : tf_S) (x1 x2 : Int32) : Option (Int32 × tf_S) :=
  if x2 = (-1 : Int32) then
  (some ((-1 : Int32), σ))
  else
  (if x2 = 0 then
  (some (x1, σ))
  else
  ((fX5_none σ (1 : Int32)).bind fun u3 =>
  some (u3.1, u3.2)))

def fX5_memberOf (σ : tf_S) (x1 x2 : Int32) : Option (Int32 × tf_S) :=
  (fX6_isPrimitive σ x1).bind fun u1 =>
  if u1.1 = 0 then
  (if tf_inb x2 24 = true then
  ((fX4_seenAs u1.2 x1 (u1.2 15 (x2).toNatClampNeg)).bind fun u5 =>
  (fX5_orFault u5.2 u5.1 (5 : Int32)).bind fun u7 =>
  tf_gl (u7.1) fun v9 =>
  if v9 = (-1 : Int32) then
  (some ((-1 : Int32), u7.2))
  else
  (if tf_inb x2 24 = true then
  (tf_gl (u7.2 16 (x2).toNatClampNeg) fun v12 =>
  if tf_inb v9 80 = true then
  (if tf_inb v9 80 = true then
  ((fX4_putIn u7.2 v12 (u7.2 10 (v9).toNatClampNeg) (u7.2 11 (v9).toNatClampNeg)).bind fun u15 =>
  (fX5_orFault u15.2 u15.1 (8 : Int32)).bind fun u17 =>
  some (u17.1, u17.2))
  else none)
  else none)
  else none))
  else none)
  else
  ((fX5_none u1.2 (5 : Int32)).bind fun u19 =>
  some (u19.1, u19.2))

def fX5_joined_79 (x1 x2 x3 : Int32) (σ : tf_S) (y6 : Int32) : Option (Int32 × tf_S) :=
  if y6 = (1 : Int32) then
  (if tf_inb x1 24 = true then
  ((fX4_make σ (σ 26 (x1).toNatClampNeg) x2 x3).bind fun u17 =>
  (fX5_orFault u17.2 u17.1 (8 : Int32)).bind fun u19 =>
  some (u19.1, u19.2))
  else none)
  else
  (if y6 = (-3 : Int32) then
  ((fX5_none σ (8 : Int32)).bind fun u24 =>
  some (u24.1, u24.2))
  else
  ((fX5_none σ (6 : Int32)).bind fun u22 =>
  some (u22.1, u22.2)))
def fX5_joined (σ : tf_S) (x1 x2 x3 : Int32) : Option (Int32 × tf_S) :=
  if tf_inb x1 24 = true then
  ((fX5_memberOf σ x2 (σ 24 (x1).toNatClampNeg)).bind fun u2 =>
  tf_gl (u2.1) fun v4 =>
  if v4 = (-1 : Int32) then
  (some ((-1 : Int32), u2.2))
  else
  (if tf_inb x1 24 = true then
  ((fX5_memberOf u2.2 x3 (u2.2 25 (x1).toNatClampNeg)).bind fun u7 =>
  tf_gl (u7.1) fun v9 =>
  if v9 = (-1 : Int32) then
  (some ((-1 : Int32), u7.2))
  else
  ((fX4_goesFor u7.2 v4 v9).bind fun u11 =>
  tf_gl (u11.1) fun v13 =>
  if v13 = 0 then
  ((fX4_goesFor u11.2 v9 v4).bind fun u26 =>
  tf_gl (u26.1) fun v28 =>
  fX5_joined_79 x1 x2 x3 u26.2 v28)
  else
  (fX5_joined_79 x1 x2 x3 u11.2 v13)))
  else none))
  else none

def fX5_isNumber (σ : tf_S) (x0 : Int32) : Option (Int32 × tf_S) :=
  (fX6_isPrimitive σ x0).bind fun u1 =>
  if u1.1 = 0 then
  (some ((0 : Int32), u1.2))
  else
  (if x0 = 0 then
  (some ((0 : Int32), u1.2))
  else
  (some ((1 : Int32), u1.2)))

def fX5_castTo_52 (x1 x2 : Int32) (σ : tf_S) (y3 : Int32) : Option (Int32 × tf_S) :=
  if y3 = (-3 : Int32) then
  ((fX5_none σ (8 : Int32)).bind fun u10 =>
  some (u10.1, u10.2))
  else
  (if y3 = (1 : Int32) then
  (some (x2, σ))
  else
  (if (σ 5 5) = 0 then
  ((fX5_none σ (6 : Int32)).bind fun u8 =>
  some (u8.1, u8.2))
  else
  (some (x2, σ))))
def fX5_castTo (σ : tf_S) (x1 x2 : Int32) : Option (Int32 × tf_S) :=
  (fX4_goesFor σ x1 x2).bind fun u1 =>
  tf_gl (u1.1) fun v3 =>
  if v3 = 0 then
  ((fX4_goesFor u1.2 x2 x1).bind fun u12 =>
  tf_gl (u12.1) fun v14 =>
  if v14 = (1 : Int32) then
  (tf_gl (tf_wr u12.2 5 5 (1 : Int32)) fun s16 =>
  fX5_castTo_52 x1 x2 s16 v14)
  else
  ((fX5_isNumber u12.2 x1).bind fun u17 =>
  if u17.1 = 0 then
  (tf_gl (tf_wr u17.2 5 5 (0 : Int32)) fun s20 =>
  fX5_castTo_52 x1 x2 s20 v14)
  else
  ((fX5_isNumber u17.2 x2).bind fun u21 =>
  if u21.1 = 0 then
  (tf_gl (tf_wr u21.2 5 5 (0 : Int32)) fun s24 =>
  fX5_castTo_52 x1 x2 s24 v14)
  else
  (tf_gl (tf_wr u21.2 5 5 (1 : Int32)) fun s25 =>
  fX5_castTo_52 x1 x2 s25 v14))))
  else
  (fX5_castTo_52 x1 x2 u1.2 v3)

def fX5_whatComes_113 (x1 : Int32) (σ : tf_S) (y2 y3 y5 : Int32) : Option (Int32 × tf_S) :=
  if tf_inb x1 24 = true then
  (if (σ 21 (x1).toNatClampNeg) = (1 : Int32) then
  ((fX3_putTo σ y2 y3 y5).bind fun u20 =>
  (fX5_orFault u20.2 u20.1 (u20.2 6 3)).bind fun u22 =>
  some (u22.1, u22.2))
  else
  (if (σ 21 (x1).toNatClampNeg) = (2 : Int32) then
  ((fX3_putTo σ y2 y3 (-1 : Int32)).bind fun u25 =>
  (fX5_orFault u25.2 u25.1 (u25.2 6 3)).bind fun u27 =>
  (fX5_filtered u27.2 y3 u27.1).bind fun u29 =>
  some (u29.1, u29.2))
  else
  (if (σ 21 (x1).toNatClampNeg) = (3 : Int32) then
  ((fX5_memberOf σ y3 y2).bind fun u32 =>
  some (u32.1, u32.2))
  else
  (if (σ 21 (x1).toNatClampNeg) = (4 : Int32) then
  ((fX4_commonOf σ y3 y5).bind fun u35 =>
  (fX5_orFault u35.2 u35.1 (6 : Int32)).bind fun u37 =>
  some (u37.1, u37.2))
  else
  (if (σ 21 (x1).toNatClampNeg) = (5 : Int32) then
  ((fX3_putTo σ y2 y3 y5).bind fun u40 =>
  (fX5_orFault u40.2 u40.1 (u40.2 6 3)).bind fun u42 =>
  some (u42.1, u42.2))
  else
  (if (σ 21 (x1).toNatClampNeg) = (6 : Int32) then
  ((fX5_joined σ x1 y3 y5).bind fun u45 =>
  some (u45.1, u45.2))
  else
  ((fX5_castTo σ y3 y2).bind fun u47 =>
  some (u47.1, u47.2))))))))
  else none
def fX5_whatComes_88 (x1 : Int32) (σ : tf_S) (y2 y3 y4 t0 : Int32) : Option (Int32 × tf_S) :=
  if y3 = (-1 : Int32) then
  ((fX5_none σ (7 : Int32)).bind fun u15 =>
  some (u15.1, u15.2))
  else
  (if y4 = 0 then
  (fX5_whatComes_113 x1 σ y2 y3 t0)
  else
  (if t0 = (-1 : Int32) then
  ((fX5_none σ (7 : Int32)).bind fun u50 =>
  some (u50.1, u50.2))
  else
  (fX5_whatComes_113 x1 σ y2 y3 t0)))
def fX5_whatComes (σ : tf_S) (x1 : Int32) : Option (Int32 × tf_S) :=
  tf_gl (tf_wr σ 5 4 (0 : Int32)) fun s1 =>
  tf_gl (tf_wr s1 5 5 (0 : Int32)) fun s2 =>
  if tf_inb x1 24 = true then
  (tf_gl (s2 24 (x1).toNatClampNeg) fun v4 =>
  if tf_inb x1 24 = true then
  (if (s2 21 (x1).toNatClampNeg) = 0 then
  (some (v4, s2))
  else
  (if tf_inb x1 24 = true then
  (if tf_inb (s2 22 (x1).toNatClampNeg) 24 = true then
  (tf_gl (s2 27 ((s2 22 (x1).toNatClampNeg)).toNatClampNeg) fun v9 =>
  (fX2_hasTwoInputs s2 x1).bind fun u10 =>
  tf_gl (u10.1) fun v12 =>
  if v12 = 0 then
  (fX5_whatComes_88 x1 u10.2 v4 v9 v12 (-1 : Int32))
  else
  (if tf_inb x1 24 = true then
  (if tf_inb (u10.2 23 (x1).toNatClampNeg) 24 = true then
  (fX5_whatComes_88 x1 u10.2 v4 v9 v12 (u10.2 27 ((u10.2 23 (x1).toNatClampNeg)).toNatClampNeg))
  else none)
  else none))
  else none)
  else none))
  else none)
  else none

def fX5_keep_47 (x1 x2 : Int32) (σ : tf_S) : Option tf_S :=
  if tf_inb (0 : Int32) 2 = true then
  (if tf_inb (1 : Int32) 2 = true then
  ((fX2_bind σ x1 (σ 31 ((0 : Int32)).toNatClampNeg) (σ 31 ((1 : Int32)).toNatClampNeg)).bind fun u11 =>
  some u11)
  else none)
  else none
def fX5_keep (σ : tf_S) (x1 x2 : Int32) : Option tf_S :=
  (fX2_tell σ x1 x2 (σ 5 4) (σ 5 5)).bind fun u1 =>
  if tf_inb x1 24 = true then
  (tf_gl (u1 21 (x1).toNatClampNeg) fun v4 =>
  if x2 = (-1 : Int32) then
  ((fX2_bind u1 x1 (-1 : Int32) (-1 : Int32)).bind fun u6 =>
  some u6)
  else
  (if v4 = (1 : Int32) then
  (fX5_keep_47 x1 x2 u1)
  else
  (if v4 = (2 : Int32) then
  (fX5_keep_47 x1 x2 u1)
  else
  (if v4 = (5 : Int32) then
  (fX5_keep_47 x1 x2 u1)
  else
  ((fX2_bind u1 x1 (-1 : Int32) (-1 : Int32)).bind fun u15 =>
  some u15)))))
  else none

def fX6_classOf (σ : tf_S) (x1 x2 : Int32) : Option (Int32 × tf_S) :=
  if x1 < 0 then
  (some ((-2 : Int32), σ))
  else
  (if x1 ≤ (2 : Int32) then
  ((fX4_isClassType σ x2).bind fun u3 =>
  if u3.1 = 0 then
  (some ((-2 : Int32), u3.2))
  else
  ((fX4_hasOnly u3.2 x2 x1).bind fun u6 =>
  if u6.1 = 0 then
  (some ((-2 : Int32), u6.2))
  else
  ((fX4_addClass u6.2 x1 x2).bind fun u9 =>
  some (u9.1, u9.2))))
  else
  (some ((-2 : Int32), σ)))

def fX6_type_61 (x1 x2 x3 : Int32) (σ : tf_S) (y4 : Int32) : Option (Int32 × tf_S) :=
  if y4 ≤ 0 then
  (if y4 ≤ (1 : Int32) then
  ((fX4_make σ x1 (-1 : Int32) (-1 : Int32)).bind fun u10 =>
  some (u10.1, u10.2))
  else
  ((fX4_make σ x1 (-1 : Int32) x3).bind fun u12 =>
  some (u12.1, u12.2)))
  else
  (if y4 ≤ (1 : Int32) then
  ((fX4_make σ x1 x2 (-1 : Int32)).bind fun u15 =>
  some (u15.1, u15.2))
  else
  ((fX4_make σ x1 x2 x3).bind fun u17 =>
  some (u17.1, u17.2)))
def fX6_type (σ : tf_S) (x1 x2 x3 : Int32) : Option (Int32 × tf_S) :=
  (fX4_isClass σ x1).bind fun u1 =>
  if u1.1 = 0 then
  (some ((-2 : Int32), u1.2))
  else
  (if tf_inb x1 12 = true then
  (tf_gl (u1.2 7 (x1).toNatClampNeg) fun v5 =>
  if v5 ≤ 0 then
  (if v5 ≤ (1 : Int32) then
  (fX6_type_61 x1 x2 x3 u1.2 v5)
  else
  ((fX4_isArgument u1.2 x3).bind fun u19 =>
  if u19.1 = 0 then
  (some ((-2 : Int32), u19.2))
  else
  (fX6_type_61 x1 x2 x3 u19.2 v5)))
  else
  ((fX4_isArgument u1.2 x2).bind fun u22 =>
  if u22.1 = 0 then
  (some ((-2 : Int32), u22.2))
  else
  (if v5 ≤ (1 : Int32) then
  (fX6_type_61 x1 x2 x3 u22.2 v5)
  else
  ((fX4_isArgument u22.2 x3).bind fun u26 =>
  if u26.1 = 0 then
  (some ((-2 : Int32), u26.2))
  else
  (fX6_type_61 x1 x2 x3 u26.2 v5)))))
  else none)

def fX6_member (σ : tf_S) (x1 x2 : Int32) : Option (Int32 × tf_S) :=
  (fX4_isClass σ x1).bind fun u1 =>
  if u1.1 = 0 then
  (some ((-2 : Int32), u1.2))
  else
  ((fX4_isType u1.2 x2).bind fun u4 =>
  if u4.1 = 0 then
  (some ((-2 : Int32), u4.2))
  else
  (if tf_inb x1 12 = true then
  ((fX4_hasOnly u4.2 x2 (u4.2 7 (x1).toNatClampNeg)).bind fun u8 =>
  if u8.1 = 0 then
  (some ((-2 : Int32), u8.2))
  else
  ((fX1_add u8.2 x1 x2).bind fun u11 =>
  some (u11.1, u11.2)))
  else none))

def fX6_function (σ : tf_S) (x1 x2 x3 : Int32) : Option (Int32 × tf_S) :=
  (fX4_isType σ x1).bind fun u1 =>
  if u1.1 = 0 then
  (some ((-2 : Int32), u1.2))
  else
  ((fX4_isType u1.2 x3).bind fun u4 =>
  if u4.1 = 0 then
  (some ((-2 : Int32), u4.2))
  else
  (if x2 = (-1 : Int32) then
  ((fX0_add u4.2 x1 x2 x3).bind fun u8 =>
  some (u8.1, u8.2))
  else
  ((fX4_isType u4.2 x2).bind fun u10 =>
  if u10.1 = 0 then
  (some ((-2 : Int32), u10.2))
  else
  ((fX0_add u10.2 x1 x2 x3).bind fun u13 =>
  some (u13.1, u13.2)))))

def fX6_isVariableNumber (σ : tf_S) (x0 : Int32) : Option (Int32 × tf_S) :=
  if x0 < 0 then
  (some ((0 : Int32), σ))
  else
  (if (2 : Int32) ≤ x0 then
  (some ((0 : Int32), σ))
  else
  (some ((1 : Int32), σ)))

def fX6_bound (σ : tf_S) (x1 x2 x3 : Int32) : Option (Int32 × tf_S) :=
  (fX0_has σ x1).bind fun u1 =>
  if u1.1 = 0 then
  (some ((-2 : Int32), u1.2))
  else
  ((fX6_isVariableNumber u1.2 x2).bind fun u4 =>
  if u4.1 = 0 then
  (some ((-2 : Int32), u4.2))
  else
  (if x3 = (-1 : Int32) then
  (if tf_inb ((x1 * (2 : Int32)) + x2) 32 = true then
  (tf_gl (tf_wr u4.2 20 (((x1 * (2 : Int32)) + x2)).toNatClampNeg x3) fun s9 =>
  some ((1 : Int32), s9))
  else none)
  else
  ((fX4_isClassType u4.2 x3).bind fun u10 =>
  if u10.1 = 0 then
  (some ((-2 : Int32), u10.2))
  else
  ((fX4_isClosed u10.2 x3).bind fun u13 =>
  if u13.1 = 0 then
  (some ((-2 : Int32), u13.2))
  else
  (if tf_inb ((x1 * (2 : Int32)) + x2) 32 = true then
  (tf_gl (tf_wr u13.2 20 (((x1 * (2 : Int32)) + x2)).toNatClampNeg x3) fun s17 =>
  some ((1 : Int32), s17))
  else none)))))

def fX6_isAsTold (σ : tf_S) (x1 x2 x3 x4 x5 x6 : Int32) : Option (Int32 × tf_S) :=
  if x1 = (0 : Int32) then
  ((fX4_isClosed σ x4).bind fun u2 =>
  if tf_bz u2.1 = true then some (u2.1, u2.2) else none)
  else
  (if x1 = (1 : Int32) then
  ((fX2_has σ x2).bind fun u6 =>
  if u6.1 = 0 then
  (some ((0 : Int32), u6.2))
  else
  ((fX0_hasWith u6.2 x4 (1 : Int32)).bind fun u9 =>
  if u9.1 = 0 then
  (some ((0 : Int32), u9.2))
  else
  (some ((1 : Int32), u9.2))))
  else
  (if x1 = (2 : Int32) then
  ((fX2_has σ x2).bind fun u13 =>
  if u13.1 = 0 then
  (some ((0 : Int32), u13.2))
  else
  ((fX0_hasWith u13.2 x4 (1 : Int32)).bind fun u16 =>
  if u16.1 = 0 then
  (some ((0 : Int32), u16.2))
  else
  (some ((1 : Int32), u16.2))))
  else
  (if x1 = (3 : Int32) then
  ((fX2_has σ x2).bind fun u20 =>
  if u20.1 = 0 then
  (some ((0 : Int32), u20.2))
  else
  ((fX1_has u20.2 x4).bind fun u23 =>
  if u23.1 = 0 then
  (some ((0 : Int32), u23.2))
  else
  (some ((1 : Int32), u23.2))))
  else
  (if x1 = (4 : Int32) then
  ((fX2_has σ x2).bind fun u27 =>
  if u27.1 = 0 then
  (some ((0 : Int32), u27.2))
  else
  ((fX2_has u27.2 x3).bind fun u30 =>
  if u30.1 = 0 then
  (some ((0 : Int32), u30.2))
  else
  (some ((1 : Int32), u30.2))))
  else
  (if x1 = (5 : Int32) then
  ((fX2_has σ x2).bind fun u34 =>
  if u34.1 = 0 then
  (some ((0 : Int32), u34.2))
  else
  ((fX2_has u34.2 x3).bind fun u37 =>
  if u37.1 = 0 then
  (some ((0 : Int32), u37.2))
  else
  ((fX0_hasWith u37.2 x4 (2 : Int32)).bind fun u40 =>
  if u40.1 = 0 then
  (some ((0 : Int32), u40.2))
  else
  (some ((1 : Int32), u40.2)))))
  else
  (if x1 = (6 : Int32) then
  ((fX2_has σ x2).bind fun u44 =>
  if u44.1 = 0 then
  (some ((0 : Int32), u44.2))
  else
  ((fX2_has u44.2 x3).bind fun u47 =>
  if u47.1 = 0 then
  (some ((0 : Int32), u47.2))
  else
  ((fX1_has u47.2 x4).bind fun u50 =>
  if u50.1 = 0 then
  (some ((0 : Int32), u50.2))
  else
  ((fX1_has u50.2 x5).bind fun u53 =>
  if u53.1 = 0 then
  (some ((0 : Int32), u53.2))
  else
  ((fX4_isClass u53.2 x6).bind fun u56 =>
  if u56.1 = 0 then
  (some ((0 : Int32), u56.2))
  else
  (if tf_inb x6 12 = true then
  (if (u56.2 7 (x6).toNatClampNeg) = (2 : Int32) then
  (some ((1 : Int32), u56.2))
  else
  (some ((0 : Int32), u56.2)))
  else none))))))
  else
  (if x1 = (7 : Int32) then
  ((fX2_has σ x2).bind fun u62 =>
  if u62.1 = 0 then
  (some ((0 : Int32), u62.2))
  else
  ((fX4_isClosed u62.2 x4).bind fun u65 =>
  if u65.1 = 0 then
  (some ((0 : Int32), u65.2))
  else
  (some ((1 : Int32), u65.2))))
  else
  (some ((0 : Int32), σ)))))))))

def fX6_operator (σ : tf_S) (x1 x2 x3 x4 x5 x6 : Int32) : Option (Int32 × tf_S) :=
  (fX6_isAsTold σ x1 x2 x3 x4 x5 x6).bind fun u1 =>
  if u1.1 = 0 then
  (some ((-2 : Int32), u1.2))
  else
  ((fX2_add u1.2 x1 x2 x3 x4 x5 x6).bind fun u4 =>
  some (u4.1, u4.2))

def fX6_clear (σ : tf_S) : Option (Int32 × tf_S) :=
  tf_gl (σ 4 0) fun v1 =>
  tf_gl (tf_wr σ 4 0 (0 : Int32)) fun s2 =>
  some (v1, s2)

def fX6_flow_4 : Nat → tf_S → Int32 → Int32 → Option (Int32 × tf_S)
  | 0, _, _, _ => none
  | n + 1, σ, y1, y2 =>
    if (σ 4 0) ≤ y2 then
    (some (y1, σ))
    else
    ((fX5_whatComes σ y2).bind fun u2 =>
    tf_gl (u2.1) fun v4 =>
    (fX5_keep u2.2 y2 v4).bind fun u5 =>
    if v4 = (-1 : Int32) then
    (tf_gl (y2 + (1 : Int32)) fun v8 =>
    fX6_flow_4 n u5 y1 v8)
    else
    (tf_gl (y1 + (1 : Int32)) fun v9 =>
    tf_gl (y2 + (1 : Int32)) fun v10 =>
    fX6_flow_4 n u5 v9 v10))
def fX6_flow (σ : tf_S) : Option (Int32 × tf_S) :=
  fX6_flow_4 100000 σ (0 : Int32) (0 : Int32)

def fX6_comes (σ : tf_S) (x1 : Int32) : Option (Int32 × tf_S) :=
  (fX2_has σ x1).bind fun u1 =>
  if u1.1 = 0 then
  (some ((-2 : Int32), u1.2))
  else
  (if tf_inb x1 24 = true then
  (some ((u1.2 27 (x1).toNatClampNeg), u1.2))
  else none)

def fX6_reason (σ : tf_S) (x1 : Int32) : Option (Int32 × tf_S) :=
  (fX2_has σ x1).bind fun u1 =>
  if u1.1 = 0 then
  (some ((-2 : Int32), u1.2))
  else
  (if tf_inb x1 24 = true then
  (some ((u1.2 28 (x1).toNatClampNeg), u1.2))
  else none)

def fX6_mayFail (σ : tf_S) (x1 : Int32) : Option (Int32 × tf_S) :=
  (fX2_has σ x1).bind fun u1 =>
  if u1.1 = 0 then
  (some ((-2 : Int32), u1.2))
  else
  (if tf_inb x1 24 = true then
  (if (u1.2 29 (x1).toNatClampNeg) = 0 then
  (some ((0 : Int32), u1.2))
  else
  (some ((1 : Int32), u1.2)))
  else none)

def fX6_cast_4 (x1 : Int32) : Nat → tf_S → Int32 → Int32 → Option (Int32 × tf_S)
  | 0, _, _, _ => none
  | n + 1, σ, y2, y3 =>
    if (σ 4 0) ≤ y3 then
    (some ((-1 : Int32), σ))
    else
    (if tf_inb y3 24 = true then
    (if (σ 29 (y3).toNatClampNeg) = 0 then
    (tf_gl (y3 + (1 : Int32)) fun v4 =>
    fX6_cast_4 x1 n σ y2 v4)
    else
    (if y2 = x1 then
    (some (y3, σ))
    else
    (tf_gl (y2 + (1 : Int32)) fun v6 =>
    tf_gl (y3 + (1 : Int32)) fun v7 =>
    fX6_cast_4 x1 n σ v6 v7)))
    else none)
def fX6_cast (σ : tf_S) (x1 : Int32) : Option (Int32 × tf_S) :=
  fX6_cast_4 x1 100000 σ (0 : Int32) (0 : Int32)

def fX6_boundTo (σ : tf_S) (x1 x2 : Int32) : Option (Int32 × tf_S) :=
  (fX2_has σ x1).bind fun u1 =>
  if u1.1 = 0 then
  (some ((-2 : Int32), u1.2))
  else
  ((fX6_isVariableNumber u1.2 x2).bind fun u4 =>
  if u4.1 = 0 then
  (some ((-2 : Int32), u4.2))
  else
  (if tf_inb ((x1 * (2 : Int32)) + x2) 48 = true then
  (some ((u4.2 30 (((x1 * (2 : Int32)) + x2)).toNatClampNeg), u4.2))
  else none))

def fX6_goes (σ : tf_S) (x1 x2 : Int32) : Option (Int32 × tf_S) :=
  (fX4_isClosed σ x1).bind fun u1 =>
  if u1.1 = 0 then
  (some ((-2 : Int32), u1.2))
  else
  ((fX4_isClosed u1.2 x2).bind fun u4 =>
  if u4.1 = 0 then
  (some ((-2 : Int32), u4.2))
  else
  ((fX4_goesFor u4.2 x1 x2).bind fun u7 =>
  some (u7.1, u7.2)))

def fX6_common (σ : tf_S) (x1 x2 : Int32) : Option (Int32 × tf_S) :=
  (fX4_isClosed σ x1).bind fun u1 =>
  if u1.1 = 0 then
  (some ((-2 : Int32), u1.2))
  else
  ((fX4_isClosed u1.2 x2).bind fun u4 =>
  if u4.1 = 0 then
  (some ((-2 : Int32), u4.2))
  else
  ((fX4_commonOf u4.2 x1 x2).bind fun u7 =>
  some (u7.1, u7.2)))

def fX6_seen (σ : tf_S) (x1 x2 : Int32) : Option (Int32 × tf_S) :=
  (fX4_isClassType σ x1).bind fun u1 =>
  if u1.1 = 0 then
  (some ((-2 : Int32), u1.2))
  else
  ((fX4_isClass u1.2 x2).bind fun u4 =>
  if u4.1 = 0 then
  (some ((-2 : Int32), u4.2))
  else
  ((fX4_seenAs u4.2 x1 x2).bind fun u7 =>
  some (u7.1, u7.2)))

def fX6_about (σ : tf_S) (x1 x2 : Int32) : Option (Int32 × tf_S) :=
  (fX4_isType σ x1).bind fun u1 =>
  if u1.1 = 0 then
  (some ((-2 : Int32), u1.2))
  else
  (if x2 = (0 : Int32) then
  (if tf_inb x1 80 = true then
  (some ((u1.2 9 (x1).toNatClampNeg), u1.2))
  else none)
  else
  (if x2 = (1 : Int32) then
  (if tf_inb x1 80 = true then
  (some ((u1.2 10 (x1).toNatClampNeg), u1.2))
  else none)
  else
  (if x2 = (2 : Int32) then
  (if tf_inb x1 80 = true then
  (some ((u1.2 11 (x1).toNatClampNeg), u1.2))
  else none)
  else
  (if x2 = (3 : Int32) then
  ((fX4_isClosed u1.2 x1).bind fun u11 =>
  if u11.1 = 0 then
  (some ((0 : Int32), u11.2))
  else
  (some ((1 : Int32), u11.2)))
  else
  (some ((-2 : Int32), u1.2))))))

def fX6_count (σ : tf_S) (x1 : Int32) : Option (Int32 × tf_S) :=
  if x1 = (0 : Int32) then
  (some ((σ 1 0), σ))
  else
  (if x1 = (1 : Int32) then
  (some ((σ 1 3), σ))
  else
  (if x1 = (2 : Int32) then
  (some ((σ 2 0), σ))
  else
  (if x1 = (3 : Int32) then
  (some ((σ 3 0), σ))
  else
  (if x1 = (4 : Int32) then
  (some ((σ 4 0), σ))
  else
  (if x1 = (5 : Int32) then
  ((fX2_howManyRisky σ).bind fun u7 =>
  some (u7.1, u7.2))
  else
  (some ((-2 : Int32), σ)))))))
