def fX7_isIn (σ : tf_S) (x0 x1 x2 : Int32) : Option (Int32 × tf_S) :=
  if x0 < x1 then
  (some ((0 : Int32), σ))
  else
  (if x2 < x0 then
  (some ((0 : Int32), σ))
  else
  (some ((1 : Int32), σ)))

def fX7_isClass (σ : tf_S) (x1 : Int32) : Option (Int32 × tf_S) :=
  (fX7_isIn σ x1 (0 : Int32) ((σ 0 0) - (1 : Int32))).bind fun u1 =>
  if tf_bz u1.1 = true then some (u1.1, u1.2) else none

def fX7_isType (σ : tf_S) (x1 : Int32) : Option (Int32 × tf_S) :=
  (fX7_isIn σ x1 (0 : Int32) ((σ 0 3) - (1 : Int32))).bind fun u1 =>
  if tf_bz u1.1 = true then some (u1.1, u1.2) else none

def fX7_isClosed (σ : tf_S) (x1 : Int32) : Option (Int32 × tf_S) :=
  (fX7_isType σ x1).bind fun u1 =>
  if u1.1 = 0 then
  (some ((0 : Int32), u1.2))
  else
  (if tf_inb x1 80 = true then
  (if (u1.2 6 (x1).toNatClampNeg) = 0 then
  (some ((1 : Int32), u1.2))
  else
  (some ((0 : Int32), u1.2)))
  else none)

def fX7_isClassType (σ : tf_S) (x1 : Int32) : Option (Int32 × tf_S) :=
  (fX7_isIn σ x1 (6 : Int32) ((σ 0 3) - (1 : Int32))).bind fun u1 =>
  if tf_bz u1.1 = true then some (u1.1, u1.2) else none

def fX7_isPrimitive (σ : tf_S) (x0 : Int32) : Option (Int32 × tf_S) :=
  if (4 : Int32) ≤ x0 then
  (some ((0 : Int32), σ))
  else
  (some ((1 : Int32), σ))

def fX7_made_119 (x1 x2 x3 : Int32) (σ : tf_S) (t0 t1 : Int32) : Option (Int32 × tf_S) :=
  if 0 ≤ x3 then
  (if tf_inb x3 80 = true then
  (if tf_inb t1 80 = true then
  (tf_gl (tf_wr σ 6 (t1).toNatClampNeg (t0 ||| (σ 6 (x3).toNatClampNeg))) fun s14 =>
  tf_gl (tf_wr s14 0 3 ((s14 0 3) + (1 : Int32))) fun s15 =>
  some (((s15 0 3) - (1 : Int32)), s15))
  else none)
  else none)
  else
  (if tf_inb t1 80 = true then
  (tf_gl (tf_wr σ 6 (t1).toNatClampNeg (t0 ||| (0 : Int32))) fun s17 =>
  tf_gl (tf_wr s17 0 3 ((s17 0 3) + (1 : Int32))) fun s18 =>
  some (((s18 0 3) - (1 : Int32)), s18))
  else none)
def fX7_made_4 (x1 x2 x3 : Int32) : Nat → tf_S → Int32 → Option (Int32 × tf_S)
  | 0, _, _ => none
  | n + 1, σ, y4 =>
    if (σ 0 3) ≤ y4 then
    (if (σ 0 3) = (80 : Int32) then
    (some ((-3 : Int32), σ))
    else
    (if tf_inb (σ 0 3) 80 = true then
    (tf_gl (tf_wr σ 3 ((σ 0 3)).toNatClampNeg x1) fun s4 =>
    if tf_inb (s4 0 3) 80 = true then
    (tf_gl (tf_wr s4 4 ((s4 0 3)).toNatClampNeg x2) fun s6 =>
    if tf_inb (s6 0 3) 80 = true then
    (tf_gl (tf_wr s6 5 ((s6 0 3)).toNatClampNeg x3) fun s8 =>
    if 0 ≤ x2 then
    (if tf_inb x2 80 = true then
    (fX7_made_119 x1 x2 x3 s8 (s8 6 (x2).toNatClampNeg) (s8 0 3))
    else none)
    else
    (fX7_made_119 x1 x2 x3 s8 (0 : Int32) (s8 0 3)))
    else none)
    else none)
    else none))
    else
    (if tf_inb y4 80 = true then
    (if (σ 3 (y4).toNatClampNeg) = x1 then
    (if tf_inb y4 80 = true then
    (if (σ 4 (y4).toNatClampNeg) = x2 then
    (if tf_inb y4 80 = true then
    (if (σ 5 (y4).toNatClampNeg) = x3 then
    (some (y4, σ))
    else
    (tf_gl (y4 + (1 : Int32)) fun v27 =>
    fX7_made_4 x1 x2 x3 n σ v27))
    else none)
    else
    (tf_gl (y4 + (1 : Int32)) fun v24 =>
    fX7_made_4 x1 x2 x3 n σ v24))
    else none)
    else
    (tf_gl (y4 + (1 : Int32)) fun v21 =>
    fX7_made_4 x1 x2 x3 n σ v21))
    else none)
def fX7_made (σ : tf_S) (x1 x2 x3 : Int32) : Option (Int32 × tf_S) :=
  fX7_made_4 x1 x2 x3 100000 σ (6 : Int32)

def fX7_classOf (σ : tf_S) (x1 x2 : Int32) : Option (Int32 × tf_S) :=
  (fX7_isIn σ x1 (0 : Int32) (2 : Int32)).bind fun u1 =>
  if u1.1 = 0 then
  (some ((-2 : Int32), u1.2))
  else
  ((fX7_isClassType u1.2 x2).bind fun u4 =>
  if u4.1 = 0 then
  (some ((-2 : Int32), u4.2))
  else
  (if tf_inb x2 80 = true then
  (if ((u4.2 6 (x2).toNatClampNeg) >>> (x1 &&& 31)) = 0 then
  (if (u4.2 0 0) = (12 : Int32) then
  (some ((-3 : Int32), u4.2))
  else
  (if tf_inb (u4.2 0 0) 12 = true then
  (tf_gl (tf_wr u4.2 1 ((u4.2 0 0)).toNatClampNeg x1) fun s11 =>
  if tf_inb (s11 0 0) 12 = true then
  (tf_gl (tf_wr s11 2 ((s11 0 0)).toNatClampNeg x2) fun s13 =>
  tf_gl (tf_wr s13 0 0 ((s13 0 0) + (1 : Int32))) fun s14 =>
  some (((s14 0 0) - (1 : Int32)), s14))
  else none)
  else none))
  else
  (some ((-2 : Int32), u4.2)))
  else none))

def fX7_isArgument (σ : tf_S) (x1 : Int32) : Option (Int32 × tf_S) :=
  (fX7_isType σ x1).bind fun u1 =>
  if u1.1 = 0 then
  (some ((0 : Int32), u1.2))
  else
  ((fX7_isPrimitive u1.2 x1).bind fun u4 =>
  if u4.1 = 0 then
  (some ((1 : Int32), u4.2))
  else
  (some ((0 : Int32), u4.2)))

def fX7_type_46 (x1 x2 x3 : Int32) (σ : tf_S) : Option (Int32 × tf_S) :=
  if tf_inb x1 12 = true then
  (if (σ 1 (x1).toNatClampNeg) ≤ 0 then
  (if tf_inb x1 12 = true then
  (if (σ 1 (x1).toNatClampNeg) ≤ (1 : Int32) then
  ((fX7_made σ x1 (-1 : Int32) (-1 : Int32)).bind fun u12 =>
  some (u12.1, u12.2))
  else
  ((fX7_made σ x1 (-1 : Int32) x3).bind fun u14 =>
  some (u14.1, u14.2)))
  else none)
  else
  (if tf_inb x1 12 = true then
  (if (σ 1 (x1).toNatClampNeg) ≤ (1 : Int32) then
  ((fX7_made σ x1 x2 (-1 : Int32)).bind fun u18 =>
  some (u18.1, u18.2))
  else
  ((fX7_made σ x1 x2 x3).bind fun u20 =>
  some (u20.1, u20.2)))
  else none))
  else none
def fX7_type (σ : tf_S) (x1 x2 x3 : Int32) : Option (Int32 × tf_S) :=
  (fX7_isClass σ x1).bind fun u1 =>
  if u1.1 = 0 then
  (some ((-2 : Int32), u1.2))
  else
  (if tf_inb x1 12 = true then
  (if (u1.2 1 (x1).toNatClampNeg) ≤ 0 then
  (if tf_inb x1 12 = true then
  (if (u1.2 1 (x1).toNatClampNeg) ≤ (1 : Int32) then
  (fX7_type_46 x1 x2 x3 u1.2)
  else
  ((fX7_isArgument u1.2 x3).bind fun u22 =>
  if u22.1 = 0 then
  (some ((-2 : Int32), u22.2))
  else
  (fX7_type_46 x1 x2 x3 u22.2)))
  else none)
  else
  ((fX7_isArgument u1.2 x2).bind fun u25 =>
  if u25.1 = 0 then
  (some ((-2 : Int32), u25.2))
  else
  (if tf_inb x1 12 = true then
  (if (u25.2 1 (x1).toNatClampNeg) ≤ (1 : Int32) then
  (fX7_type_46 x1 x2 x3 u25.2)
  else
  ((fX7_isArgument u25.2 x3).bind fun u30 =>
  if u30.1 = 0 then
  (some ((-2 : Int32), u30.2))
  else
  (fX7_type_46 x1 x2 x3 u30.2)))
  else none)))
  else none)

def fX7_about (σ : tf_S) (x1 x2 : Int32) : Option (Int32 × tf_S) :=
  (fX7_isType σ x1).bind fun u1 =>
  if u1.1 = 0 then
  (some ((-2 : Int32), u1.2))
  else
  ((fX7_isIn u1.2 x2 (0 : Int32) (3 : Int32)).bind fun u4 =>
  if u4.1 = 0 then
  (some ((-2 : Int32), u4.2))
  else
  (if x2 = 0 then
  (if tf_inb x1 80 = true then
  (some ((u4.2 3 (x1).toNatClampNeg), u4.2))
  else none)
  else
  (if x2 = (1 : Int32) then
  (if tf_inb x1 80 = true then
  (some ((u4.2 4 (x1).toNatClampNeg), u4.2))
  else none)
  else
  (if x2 = (2 : Int32) then
  (if tf_inb x1 80 = true then
  (some ((u4.2 5 (x1).toNatClampNeg), u4.2))
  else none)
  else
  (if tf_inb x1 80 = true then
  (if (u4.2 6 (x1).toNatClampNeg) = 0 then
  (some ((1 : Int32), u4.2))
  else
  (some ((0 : Int32), u4.2)))
  else none)))))

def fX7_push (σ : tf_S) (x1 : Int32) : Option tf_S :=
  if tf_inb (σ 0 10) 200 = true then
  (tf_gl (tf_wr σ 8 ((σ 0 10)).toNatClampNeg x1) fun s2 =>
  tf_gl (tf_wr s2 0 10 ((s2 0 10) + (1 : Int32))) fun s3 =>
  some s3)
  else none

def fX7_isOpen (σ : tf_S) (x1 : Int32) : Option (Int32 × tf_S) :=
  if x1 ≤ (5 : Int32) then
  (some ((0 : Int32), σ))
  else
  (if tf_inb x1 80 = true then
  (if (σ 7 (x1).toNatClampNeg) = (-1 : Int32) then
  (some ((1 : Int32), σ))
  else
  (some ((0 : Int32), σ)))
  else none)

def fX7_put_251 (x1 x2 x3 : Int32) (k48 : tf_S → Option (Int32 × tf_S)) (σ : tf_S) (y4 t0 t1 t2 : Int32) : Option (Int32 × tf_S) :=
  (fX7_made σ t2 t1 t0).bind fun u37 =>
  tf_gl (u37.1) fun v39 =>
  if v39 = (-3 : Int32) then
  (some ((-3 : Int32), u37.2))
  else
  (if tf_inb y4 80 = true then
  (tf_gl (tf_wr u37.2 7 (y4).toNatClampNeg v39) fun s42 =>
  tf_gl (tf_wr s42 0 10 ((s42 0 10) - (1 : Int32))) fun s43 =>
  k48 s43)
  else none)
def fX7_put_99 (x1 x2 x3 : Int32) (k48 : tf_S → Option (Int32 × tf_S)) (σ : tf_S) (y4 : Int32) : Option (Int32 × tf_S) :=
  if y4 = (4 : Int32) then
  (tf_gl (tf_wr σ 0 10 ((σ 0 10) - (1 : Int32))) fun s15 =>
  k48 s15)
  else
  (if y4 = (5 : Int32) then
  (tf_gl (tf_wr σ 0 10 ((σ 0 10) - (1 : Int32))) fun s17 =>
  k48 s17)
  else
  (if tf_inb y4 80 = true then
  (if (σ 7 (y4).toNatClampNeg) = (-1 : Int32) then
  (if tf_inb y4 80 = true then
  ((fX7_isOpen σ (σ 4 (y4).toNatClampNeg)).bind fun u21 =>
  if u21.1 = 0 then
  (if tf_inb y4 80 = true then
  ((fX7_isOpen u21.2 (u21.2 5 (y4).toNatClampNeg)).bind fun u25 =>
  if u25.1 = 0 then
  (if tf_inb y4 80 = true then
  (if tf_inb y4 80 = true then
  (if 0 ≤ (u25.2 4 (y4).toNatClampNeg) then
  (if tf_inb y4 80 = true then
  (if tf_inb (u25.2 4 (y4).toNatClampNeg) 80 = true then
  (if tf_inb y4 80 = true then
  (if 0 ≤ (u25.2 5 (y4).toNatClampNeg) then
  (if tf_inb y4 80 = true then
  (if tf_inb (u25.2 5 (y4).toNatClampNeg) 80 = true then
  (fX7_put_251 x1 x2 x3 k48 u25.2 y4 (u25.2 7 ((u25.2 5 (y4).toNatClampNeg)).toNatClampNeg) (u25.2 7 ((u25.2 4 (y4).toNatClampNeg)).toNatClampNeg) (u25.2 3 (y4).toNatClampNeg))
  else none)
  else none)
  else
  (fX7_put_251 x1 x2 x3 k48 u25.2 y4 (-1 : Int32) (u25.2 7 ((u25.2 4 (y4).toNatClampNeg)).toNatClampNeg) (u25.2 3 (y4).toNatClampNeg)))
  else none)
  else none)
  else none)
  else
  (if tf_inb y4 80 = true then
  (if 0 ≤ (u25.2 5 (y4).toNatClampNeg) then
  (if tf_inb y4 80 = true then
  (if tf_inb (u25.2 5 (y4).toNatClampNeg) 80 = true then
  (fX7_put_251 x1 x2 x3 k48 u25.2 y4 (u25.2 7 ((u25.2 5 (y4).toNatClampNeg)).toNatClampNeg) (-1 : Int32) (u25.2 3 (y4).toNatClampNeg))
  else none)
  else none)
  else
  (fX7_put_251 x1 x2 x3 k48 u25.2 y4 (-1 : Int32) (-1 : Int32) (u25.2 3 (y4).toNatClampNeg)))
  else none))
  else none)
  else none)
  else
  (if tf_inb y4 80 = true then
  ((fX7_push u25.2 (u25.2 5 (y4).toNatClampNeg)).bind fun u49 =>
  k48 u49)
  else none))
  else none)
  else
  (if tf_inb y4 80 = true then
  ((fX7_push u21.2 (u21.2 4 (y4).toNatClampNeg)).bind fun u52 =>
  k48 u52)
  else none))
  else none)
  else
  (tf_gl (tf_wr σ 0 10 ((σ 0 10) - (1 : Int32))) fun s54 =>
  k48 s54))
  else none))
def fX7_put_48 (x1 x2 x3 : Int32) : Nat → tf_S → Option (Int32 × tf_S)
  | 0, _ => none
  | n + 1, σ =>
    if (σ 0 10) ≤ 0 then
    (if tf_inb x1 80 = true then
    (some ((σ 7 (x1).toNatClampNeg), σ))
    else none)
    else
    (if tf_inb ((σ 0 10) - (1 : Int32)) 200 = true then
    (tf_gl (σ 8 (((σ 0 10) - (1 : Int32))).toNatClampNeg) fun v12 =>
    if v12 = (4 : Int32) then
    (fX7_put_99 x1 x2 x3 (fX7_put_48 x1 x2 x3 n) σ v12)
    else
    (if v12 = (5 : Int32) then
    (fX7_put_99 x1 x2 x3 (fX7_put_48 x1 x2 x3 n) σ v12)
    else
    (if tf_inb v12 80 = true then
    (if (σ 6 (v12).toNatClampNeg) = 0 then
    (if tf_inb v12 80 = true then
    (tf_gl (tf_wr σ 7 (v12).toNatClampNeg v12) fun s59 =>
    fX7_put_99 x1 x2 x3 (fX7_put_48 x1 x2 x3 n) s59 v12)
    else none)
    else
    (fX7_put_99 x1 x2 x3 (fX7_put_48 x1 x2 x3 n) σ v12))
    else none)))
    else none)
def fX7_put_3 (x1 x2 x3 : Int32) : Nat → tf_S → Int32 → Option (Int32 × tf_S)
  | 0, _, _ => none
  | n + 1, σ, y4 =>
    if (80 : Int32) ≤ y4 then
    (if tf_inb (4 : Int32) 80 = true then
    (tf_gl (tf_wr σ 7 ((4 : Int32)).toNatClampNeg x2) fun s3 =>
    if tf_inb (5 : Int32) 80 = true then
    (tf_gl (tf_wr s3 7 ((5 : Int32)).toNatClampNeg x3) fun s5 =>
    tf_gl (tf_wr s5 0 10 (0 : Int32)) fun s6 =>
    (fX7_push s6 x1).bind fun u7 =>
    fX7_put_48 x1 x2 x3 100000 u7)
    else none)
    else none)
    else
    (if tf_inb y4 80 = true then
    (tf_gl (tf_wr σ 7 (y4).toNatClampNeg (-1 : Int32)) fun s61 =>
    tf_gl (y4 + (1 : Int32)) fun v62 =>
    fX7_put_3 x1 x2 x3 n s61 v62)
    else none)
def fX7_put (σ : tf_S) (x1 x2 x3 : Int32) : Option (Int32 × tf_S) :=
  fX7_put_3 x1 x2 x3 100000 σ (0 : Int32)

def fX7_comesFrom_2 (x1 x2 : Int32) : Nat → tf_S → Int32 → Option (Int32 × tf_S)
  | 0, _, _ => none
  | n + 1, σ, y3 =>
    if y3 = x2 then
    (if y3 = x2 then
    (some ((1 : Int32), σ))
    else
    (some ((0 : Int32), σ)))
    else
    (if y3 = 0 then
    (if y3 = x2 then
    (some ((1 : Int32), σ))
    else
    (some ((0 : Int32), σ)))
    else
    (if tf_inb y3 12 = true then
    (if tf_inb (σ 2 (y3).toNatClampNeg) 80 = true then
    (tf_gl (σ 3 ((σ 2 (y3).toNatClampNeg)).toNatClampNeg) fun v7 =>
    fX7_comesFrom_2 x1 x2 n σ v7)
    else none)
    else none))
def fX7_comesFrom (σ : tf_S) (x1 x2 : Int32) : Option (Int32 × tf_S) :=
  fX7_comesFrom_2 x1 x2 100000 σ x1

def fX7_seenAs_18 (x1 x2 : Int32) : Nat → tf_S → Int32 → Option (Int32 × tf_S)
  | 0, _, _ => none
  | n + 1, σ, y3 =>
    if y3 < 0 then
    (some (y3, σ))
    else
    (if tf_inb y3 80 = true then
    (if (σ 3 (y3).toNatClampNeg) = x2 then
    (some (y3, σ))
    else
    (if tf_inb y3 80 = true then
    (if tf_inb (σ 3 (y3).toNatClampNeg) 12 = true then
    (if tf_inb y3 80 = true then
    (if tf_inb y3 80 = true then
    ((fX7_put σ (σ 2 ((σ 3 (y3).toNatClampNeg)).toNatClampNeg) (σ 4 (y3).toNatClampNeg) (σ 5 (y3).toNatClampNeg)).bind fun u12 =>
    tf_gl (u12.1) fun v14 =>
    fX7_seenAs_18 x1 x2 n u12.2 v14)
    else none)
    else none)
    else none)
    else none))
    else none)
def fX7_seenAs (σ : tf_S) (x1 x2 : Int32) : Option (Int32 × tf_S) :=
  if tf_inb x1 80 = true then
  ((fX7_comesFrom σ (σ 3 (x1).toNatClampNeg) x2).bind fun u2 =>
  if u2.1 = 0 then
  (some ((-1 : Int32), u2.2))
  else
  (fX7_seenAs_18 x1 x2 100000 u2.2 x1))
  else none

def fX7_seen (σ : tf_S) (x1 x2 : Int32) : Option (Int32 × tf_S) :=
  (fX7_isClassType σ x1).bind fun u1 =>
  if u1.1 = 0 then
  (some ((-2 : Int32), u1.2))
  else
  ((fX7_isClass u1.2 x2).bind fun u4 =>
  if u4.1 = 0 then
  (some ((-2 : Int32), u4.2))
  else
  ((fX7_seenAs u4.2 x1 x2).bind fun u7 =>
  some (u7.1, u7.2)))

def fX7_goesFor_21 (x1 x2 : Int32) (σ : tf_S) : Option (Int32 × tf_S) :=
  if x1 = (1 : Int32) then
  (if x2 = (2 : Int32) then
  (some ((1 : Int32), σ))
  else
  (if x2 = (3 : Int32) then
  (some ((1 : Int32), σ))
  else
  (some ((0 : Int32), σ))))
  else
  (some ((0 : Int32), σ))
def fX7_goesFor (σ : tf_S) (x1 x2 : Int32) : Option (Int32 × tf_S) :=
  if x1 = x2 then
  (some ((1 : Int32), σ))
  else
  ((fX7_isPrimitive σ x1).bind fun u2 =>
  if u2.1 = 0 then
  ((fX7_isPrimitive u2.2 x2).bind fun u8 =>
  if u8.1 = 0 then
  (if tf_inb x2 80 = true then
  ((fX7_seenAs u8.2 x1 (u8.2 3 (x2).toNatClampNeg)).bind fun u12 =>
  tf_gl (u12.1) fun v14 =>
  if v14 = (-3 : Int32) then
  (some ((-3 : Int32), u12.2))
  else
  (if v14 = x2 then
  (some ((1 : Int32), u12.2))
  else
  (some ((0 : Int32), u12.2))))
  else none)
  else
  (fX7_goesFor_21 x1 x2 u8.2))
  else
  (fX7_goesFor_21 x1 x2 u2.2))

def fX7_goes (σ : tf_S) (x1 x2 : Int32) : Option (Int32 × tf_S) :=
  (fX7_isClosed σ x1).bind fun u1 =>
  if u1.1 = 0 then
  (some ((-2 : Int32), u1.2))
  else
  ((fX7_isClosed u1.2 x2).bind fun u4 =>
  if u4.1 = 0 then
  (some ((-2 : Int32), u4.2))
  else
  ((fX7_goesFor u4.2 x1 x2).bind fun u7 =>
  some (u7.1, u7.2)))

def fX7_commonOf_40 (x1 x2 : Int32) (σ : tf_S) (t0 : Int32) : Option (Int32 × tf_S) :=
  if t0 = (2 : Int32) then
  (some (t0, σ))
  else
  (if t0 = (3 : Int32) then
  (some (t0, σ))
  else
  (some ((-1 : Int32), σ)))
def fX7_commonOf_104 (x1 x2 : Int32) (k64 : tf_S → Int32 → Option (Int32 × tf_S)) (σ : tf_S) (y3 y4 t0 : Int32) : Option (Int32 × tf_S) :=
  if t0 = (-3 : Int32) then
  (some (t0, σ))
  else
  (if y4 = t0 then
  (some (t0, σ))
  else
  (if tf_inb y3 12 = true then
  (if tf_inb (σ 2 (y3).toNatClampNeg) 80 = true then
  (tf_gl (σ 3 ((σ 2 (y3).toNatClampNeg)).toNatClampNeg) fun v31 =>
  k64 σ v31)
  else none)
  else none))
def fX7_commonOf_64 (x1 x2 : Int32) : Nat → tf_S → Int32 → Option (Int32 × tf_S)
  | 0, _, _ => none
  | n + 1, σ, y3 =>
    if tf_inb x2 80 = true then
    ((fX7_comesFrom σ (σ 3 (x2).toNatClampNeg) y3).bind fun u15 =>
    if u15.1 = 0 then
    (if tf_inb y3 12 = true then
    (if tf_inb (u15.2 2 (y3).toNatClampNeg) 80 = true then
    (tf_gl (u15.2 3 ((u15.2 2 (y3).toNatClampNeg)).toNatClampNeg) fun v20 =>
    fX7_commonOf_64 x1 x2 n u15.2 v20)
    else none)
    else none)
    else
    ((fX7_seenAs u15.2 x1 y3).bind fun u21 =>
    tf_gl (u21.1) fun v23 =>
    if v23 = (-3 : Int32) then
    (fX7_commonOf_104 x1 x2 (fX7_commonOf_64 x1 x2 n) u21.2 y3 v23 (-3 : Int32))
    else
    ((fX7_seenAs u21.2 x2 y3).bind fun u25 =>
    fX7_commonOf_104 x1 x2 (fX7_commonOf_64 x1 x2 n) u25.2 y3 v23 u25.1)))
    else none
def fX7_commonOf (σ : tf_S) (x1 x2 : Int32) : Option (Int32 × tf_S) :=
  if x1 = x2 then
  (some (x1, σ))
  else
  ((fX7_isPrimitive σ x1).bind fun u2 =>
  if u2.1 = 0 then
  ((fX7_isPrimitive u2.2 x2).bind fun u9 =>
  if u9.1 = 0 then
  (if tf_inb x1 80 = true then
  (tf_gl (u9.2 3 (x1).toNatClampNeg) fun v13 =>
  fX7_commonOf_64 x1 x2 100000 u9.2 v13)
  else none)
  else
  (if x1 = (1 : Int32) then
  (fX7_commonOf_40 x1 x2 u9.2 x2)
  else
  (if x2 = (1 : Int32) then
  (fX7_commonOf_40 x1 x2 u9.2 x1)
  else
  (fX7_commonOf_40 x1 x2 u9.2 (-1 : Int32)))))
  else
  (if x1 = (1 : Int32) then
  (fX7_commonOf_40 x1 x2 u2.2 x2)
  else
  (if x2 = (1 : Int32) then
  (fX7_commonOf_40 x1 x2 u2.2 x1)
  else
  (fX7_commonOf_40 x1 x2 u2.2 (-1 : Int32)))))

def fX7_common (σ : tf_S) (x1 x2 : Int32) : Option (Int32 × tf_S) :=
  (fX7_isClosed σ x1).bind fun u1 =>
  if u1.1 = 0 then
  (some ((-2 : Int32), u1.2))
  else
  ((fX7_isClosed u1.2 x2).bind fun u4 =>
  if u4.1 = 0 then
  (some ((-2 : Int32), u4.2))
  else
  ((fX7_commonOf u4.2 x1 x2).bind fun u7 =>
  some (u7.1, u7.2)))

def fX7_member (σ : tf_S) (x1 x2 : Int32) : Option (Int32 × tf_S) :=
  (fX7_isClass σ x1).bind fun u1 =>
  if u1.1 = 0 then
  (some ((-2 : Int32), u1.2))
  else
  ((fX7_isType u1.2 x2).bind fun u4 =>
  if u4.1 = 0 then
  (some ((-2 : Int32), u4.2))
  else
  (if tf_inb x2 80 = true then
  (if tf_inb x1 12 = true then
  (if ((u4.2 6 (x2).toNatClampNeg) >>> ((u4.2 1 (x1).toNatClampNeg) &&& 31)) = 0 then
  (if (u4.2 0 11) = (24 : Int32) then
  (some ((-3 : Int32), u4.2))
  else
  (if tf_inb (u4.2 0 11) 24 = true then
  (tf_gl (tf_wr u4.2 9 ((u4.2 0 11)).toNatClampNeg x1) fun s12 =>
  if tf_inb (s12 0 11) 24 = true then
  (tf_gl (tf_wr s12 10 ((s12 0 11)).toNatClampNeg x2) fun s14 =>
  tf_gl (tf_wr s14 0 11 ((s14 0 11) + (1 : Int32))) fun s15 =>
  some (((s15 0 11) - (1 : Int32)), s15))
  else none)
  else none))
  else
  (some ((-2 : Int32), u4.2)))
  else none)
  else none))

def fX7_function_21 (x1 x2 x3 : Int32) (σ : tf_S) : Option (Int32 × tf_S) :=
  (fX7_isType σ x3).bind fun u5 =>
  if u5.1 = 0 then
  (some ((-2 : Int32), u5.2))
  else
  (if (u5.2 0 14) = (16 : Int32) then
  (some ((-3 : Int32), u5.2))
  else
  (if tf_inb (u5.2 0 14) 16 = true then
  (tf_gl (tf_wr u5.2 11 ((u5.2 0 14)).toNatClampNeg x1) fun s10 =>
  if tf_inb (s10 0 14) 16 = true then
  (tf_gl (tf_wr s10 12 ((s10 0 14)).toNatClampNeg x2) fun s12 =>
  if tf_inb (s12 0 14) 16 = true then
  (tf_gl (tf_wr s12 13 ((s12 0 14)).toNatClampNeg x3) fun s14 =>
  if tf_inb ((2 : Int32) * (s14 0 14)) 32 = true then
  (tf_gl (tf_wr s14 14 (((2 : Int32) * (s14 0 14))).toNatClampNeg (-1 : Int32)) fun s16 =>
  if tf_inb (((2 : Int32) * (s16 0 14)) + (1 : Int32)) 32 = true then
  (tf_gl (tf_wr s16 14 ((((2 : Int32) * (s16 0 14)) + (1 : Int32))).toNatClampNeg (-1 : Int32)) fun s18 =>
  tf_gl (tf_wr s18 0 14 ((s18 0 14) + (1 : Int32))) fun s19 =>
  some (((s19 0 14) - (1 : Int32)), s19))
  else none)
  else none)
  else none)
  else none)
  else none))
def fX7_function (σ : tf_S) (x1 x2 x3 : Int32) : Option (Int32 × tf_S) :=
  (fX7_isType σ x1).bind fun u1 =>
  if u1.1 = 0 then
  (some ((-2 : Int32), u1.2))
  else
  (if x2 = (-1 : Int32) then
  (fX7_function_21 x1 x2 x3 u1.2)
  else
  ((fX7_isType u1.2 x2).bind fun u20 =>
  if u20.1 = 0 then
  (some ((-2 : Int32), u20.2))
  else
  (fX7_function_21 x1 x2 x3 u20.2)))

def fX7_bound (σ : tf_S) (x1 x2 x3 : Int32) : Option (Int32 × tf_S) :=
  (fX7_isIn σ x1 (0 : Int32) ((σ 0 14) - (1 : Int32))).bind fun u1 =>
  if u1.1 = 0 then
  (some ((-2 : Int32), u1.2))
  else
  ((fX7_isIn u1.2 x2 (0 : Int32) (1 : Int32)).bind fun u4 =>
  if u4.1 = 0 then
  (some ((-2 : Int32), u4.2))
  else
  (if x3 = (-1 : Int32) then
  (if tf_inb (((2 : Int32) * x1) + x2) 32 = true then
  (tf_gl (tf_wr u4.2 14 ((((2 : Int32) * x1) + x2)).toNatClampNeg x3) fun s9 =>
  some ((1 : Int32), s9))
  else none)
  else
  ((fX7_isClassType u4.2 x3).bind fun u10 =>
  if u10.1 = 0 then
  (some ((-2 : Int32), u10.2))
  else
  ((fX7_isClosed u10.2 x3).bind fun u13 =>
  if u13.1 = 0 then
  (some ((-2 : Int32), u13.2))
  else
  (if tf_inb (((2 : Int32) * x1) + x2) 32 = true then
  (tf_gl (tf_wr u13.2 14 ((((2 : Int32) * x1) + x2)).toNatClampNeg x3) fun s17 =>
  some ((1 : Int32), s17))
  else none)))))

def fX7_fails (σ : tf_S) (x1 : Int32) : Option (Int32 × tf_S) :=
  tf_gl (tf_wr σ 0 20 x1) fun s1 =>
  some ((0 : Int32), s1)

def fX7_binds (σ : tf_S) (x1 x2 : Int32) : Option (Int32 × tf_S) :=
  if tf_inb x1 2 = true then
  (if (σ 15 (x1).toNatClampNeg) = (-1 : Int32) then
  (if tf_inb x1 2 = true then
  (tf_gl (tf_wr σ 15 (x1).toNatClampNeg x2) fun s4 =>
  some ((1 : Int32), s4))
  else none)
  else
  (if tf_inb x1 2 = true then
  (if (σ 15 (x1).toNatClampNeg) = x2 then
  (if tf_inb x1 2 = true then
  (tf_gl (tf_wr σ 15 (x1).toNatClampNeg x2) fun s8 =>
  some ((1 : Int32), s8))
  else none)
  else
  ((fX7_fails σ (2 : Int32)).bind fun u9 =>
  if tf_bz u9.1 = true then some (u9.1, u9.2) else none))
  else none))
  else none

def fX7_holdPair (σ : tf_S) (x1 x2 : Int32) : Option tf_S :=
  if tf_inb ((2 : Int32) * (σ 0 23)) 400 = true then
  (tf_gl (tf_wr σ 16 (((2 : Int32) * (σ 0 23))).toNatClampNeg x1) fun s2 =>
  if tf_inb (((2 : Int32) * (s2 0 23)) + (1 : Int32)) 400 = true then
  (tf_gl (tf_wr s2 16 ((((2 : Int32) * (s2 0 23)) + (1 : Int32))).toNatClampNeg x2) fun s4 =>
  tf_gl (tf_wr s4 0 23 ((s4 0 23) + (1 : Int32))) fun s5 =>
  some s5)
  else none)
  else none

def fX7_holds_177 (x1 x2 : Int32) (k33 : tf_S → Option (Int32 × tf_S)) (σ : tf_S) (y3 y4 : Int32) : Option (Int32 × tf_S) :=
  if tf_inb y3 80 = true then
  (if (σ 4 (y3).toNatClampNeg) < 0 then
  (k33 σ)
  else
  (if tf_inb y3 80 = true then
  (if tf_inb y4 80 = true then
  ((fX7_holdPair σ (σ 4 (y3).toNatClampNeg) (σ 4 (y4).toNatClampNeg)).bind fun u29 =>
  k33 u29)
  else none)
  else none))
  else none
def fX7_holds_33 (x1 x2 : Int32) : Nat → tf_S → Option (Int32 × tf_S)
  | 0, _ => none
  | n + 1, σ =>
    if (σ 0 23) ≤ 0 then
    (some ((1 : Int32), σ))
    else
    (tf_gl (tf_wr σ 0 23 ((σ 0 23) - (1 : Int32))) fun s6 =>
    if tf_inb ((2 : Int32) * (s6 0 23)) 400 = true then
    (tf_gl (s6 16 (((2 : Int32) * (s6 0 23))).toNatClampNeg) fun v8 =>
    if tf_inb (((2 : Int32) * (s6 0 23)) + (1 : Int32)) 400 = true then
    (tf_gl (s6 16 ((((2 : Int32) * (s6 0 23)) + (1 : Int32))).toNatClampNeg) fun v10 =>
    if v8 = (4 : Int32) then
    ((fX7_binds s6 (v8 - (4 : Int32)) v10).bind fun u12 =>
    if u12.1 = 0 then
    (some ((0 : Int32), u12.2))
    else
    (fX7_holds_33 x1 x2 n u12.2))
    else
    (if v8 = (5 : Int32) then
    ((fX7_binds s6 (v8 - (4 : Int32)) v10).bind fun u38 =>
    if u38.1 = 0 then
    (some ((0 : Int32), u38.2))
    else
    (fX7_holds_33 x1 x2 n u38.2))
    else
    (if tf_inb (((80 : Int32) * v8) + v10) 6400 = true then
    (if (s6 17 ((((80 : Int32) * v8) + v10)).toNatClampNeg) = 0 then
    (if tf_inb (((80 : Int32) * v8) + v10) 6400 = true then
    (tf_gl (tf_wr s6 17 ((((80 : Int32) * v8) + v10)).toNatClampNeg (1 : Int32)) fun s19 =>
    if tf_inb v8 80 = true then
    (if tf_inb v10 80 = true then
    (if (s19 3 (v8).toNatClampNeg) = (s19 3 (v10).toNatClampNeg) then
    (if tf_inb v8 80 = true then
    (if (s19 5 (v8).toNatClampNeg) < 0 then
    (fX7_holds_177 x1 x2 (fX7_holds_33 x1 x2 n) s19 v8 v10)
    else
    (if tf_inb v8 80 = true then
    (if tf_inb v10 80 = true then
    ((fX7_holdPair s19 (s19 5 (v8).toNatClampNeg) (s19 5 (v10).toNatClampNeg)).bind fun u33 =>
    fX7_holds_177 x1 x2 (fX7_holds_33 x1 x2 n) u33 v8 v10)
    else none)
    else none))
    else none)
    else
    ((fX7_fails s19 (1 : Int32)).bind fun u35 =>
    if tf_bz u35.1 = true then some (u35.1, u35.2) else none))
    else none)
    else none)
    else none)
    else
    (fX7_holds_33 x1 x2 n s6))
    else none)))
    else none)
    else none)
def fX7_holds_2 (x1 x2 : Int32) : Nat → tf_S → Int32 → Option (Int32 × tf_S)
  | 0, _, _ => none
  | n + 1, σ, y3 =>
    if (6400 : Int32) ≤ y3 then
    (tf_gl (tf_wr σ 0 23 (0 : Int32)) fun s2 =>
    (fX7_holdPair s2 x1 x2).bind fun u3 =>
    fX7_holds_33 x1 x2 100000 u3)
    else
    (if tf_inb y3 6400 = true then
    (tf_gl (tf_wr σ 17 (y3).toNatClampNeg (0 : Int32)) fun s42 =>
    tf_gl (y3 + (1 : Int32)) fun v43 =>
    fX7_holds_2 x1 x2 n s42 v43)
    else none)
def fX7_holds (σ : tf_S) (x1 x2 : Int32) : Option (Int32 × tf_S) :=
  fX7_holds_2 x1 x2 100000 σ (0 : Int32)

def fX7_takes (σ : tf_S) (x1 x2 : Int32) : Option (Int32 × tf_S) :=
  (fX7_isPrimitive σ x1).bind fun u1 =>
  if u1.1 = 0 then
  ((fX7_isPrimitive u1.2 x2).bind fun u4 =>
  if u4.1 = 0 then
  (if (6 : Int32) ≤ x1 then
  (if tf_inb x1 80 = true then
  ((fX7_seenAs u4.2 x2 (u4.2 3 (x1).toNatClampNeg)).bind fun u9 =>
  tf_gl (u9.1) fun v11 =>
  if 0 ≤ v11 then
  ((fX7_holds u9.2 x1 v11).bind fun u13 =>
  if tf_bz u13.1 = true then some (u13.1, u13.2) else none)
  else
  (if v11 = (-3 : Int32) then
  ((fX7_fails u9.2 (8 : Int32)).bind fun u20 =>
  if tf_bz u20.1 = true then some (u20.1, u20.2) else none)
  else
  ((fX7_fails u9.2 (1 : Int32)).bind fun u17 =>
  if tf_bz u17.1 = true then some (u17.1, u17.2) else none)))
  else none)
  else
  ((fX7_binds u4.2 (x1 - (4 : Int32)) x2).bind fun u23 =>
  if tf_bz u23.1 = true then some (u23.1, u23.2) else none))
  else
  ((fX7_fails u4.2 (1 : Int32)).bind fun u26 =>
  if tf_bz u26.1 = true then some (u26.1, u26.2) else none))
  else
  ((fX7_goesFor u1.2 x2 x1).bind fun u29 =>
  if u29.1 = (1 : Int32) then
  (some ((1 : Int32), u29.2))
  else
  ((fX7_fails u29.2 (1 : Int32)).bind fun u32 =>
  if u32.1 = 0 then
  (some ((0 : Int32), u32.2))
  else
  (some ((1 : Int32), u32.2))))

def fX7_orRoom (σ : tf_S) (x1 : Int32) : Option (Int32 × tf_S) :=
  if x1 = (-3 : Int32) then
  (tf_gl (tf_wr σ 0 20 (8 : Int32)) fun s4 =>
  if x1 = (-3 : Int32) then
  (some ((-1 : Int32), s4))
  else
  (some (x1, s4)))
  else
  (tf_gl (tf_wr σ 0 20 (0 : Int32)) fun s2 =>
  if x1 = (-3 : Int32) then
  (some ((-1 : Int32), s2))
  else
  (some (x1, s2)))

def fX7_putTo_147 (x1 x2 x3 : Int32) : Nat → tf_S → Int32 → Option (Int32 × tf_S)
  | 0, _, _ => none
  | n + 1, σ, y4 =>
    if (2 : Int32) ≤ y4 then
    (if tf_inb x1 16 = true then
    (if tf_inb (0 : Int32) 2 = true then
    (if tf_inb (1 : Int32) 2 = true then
    ((fX7_put σ (σ 13 (x1).toNatClampNeg) (σ 15 ((0 : Int32)).toNatClampNeg) (σ 15 ((1 : Int32)).toNatClampNeg)).bind fun u16 =>
    (fX7_orRoom u16.2 u16.1).bind fun u18 =>
    some (u18.1, u18.2))
    else none)
    else none)
    else none)
    else
    (if tf_inb x1 16 = true then
    (if tf_inb (σ 13 (x1).toNatClampNeg) 80 = true then
    (if (((σ 6 ((σ 13 (x1).toNatClampNeg)).toNatClampNeg) >>> (y4 &&& 31)) &&& (1 : Int32)) = (1 : Int32) then
    (if tf_inb y4 2 = true then
    (if (σ 15 (y4).toNatClampNeg) = (-1 : Int32) then
    (tf_gl (tf_wr σ 0 20 (4 : Int32)) fun s27 =>
    some ((-1 : Int32), s27))
    else
    (tf_gl (y4 + (1 : Int32)) fun v26 =>
    fX7_putTo_147 x1 x2 x3 n σ v26))
    else none)
    else
    (tf_gl (y4 + (1 : Int32)) fun v23 =>
    fX7_putTo_147 x1 x2 x3 n σ v23))
    else none)
    else none)
def fX7_putTo_57 (x1 x2 x3 : Int32) : Nat → tf_S → Int32 → Option (Int32 × tf_S)
  | 0, _, _ => none
  | n + 1, σ, y4 =>
    if (2 : Int32) ≤ y4 then
    (fX7_putTo_147 x1 x2 x3 100000 σ (0 : Int32))
    else
    (if tf_inb y4 2 = true then
    (if (σ 15 (y4).toNatClampNeg) = (-1 : Int32) then
    (tf_gl (y4 + (1 : Int32)) fun v30 =>
    fX7_putTo_57 x1 x2 x3 n σ v30)
    else
    (if tf_inb (((2 : Int32) * x1) + y4) 32 = true then
    (if (σ 14 ((((2 : Int32) * x1) + y4)).toNatClampNeg) = (-1 : Int32) then
    (tf_gl (y4 + (1 : Int32)) fun v33 =>
    fX7_putTo_57 x1 x2 x3 n σ v33)
    else
    (if tf_inb y4 2 = true then
    (if tf_inb (((2 : Int32) * x1) + y4) 32 = true then
    ((fX7_goesFor σ (σ 15 (y4).toNatClampNeg) (σ 14 ((((2 : Int32) * x1) + y4)).toNatClampNeg)).bind fun u36 =>
    tf_gl (u36.1) fun v38 =>
    if v38 = (1 : Int32) then
    (tf_gl (y4 + (1 : Int32)) fun v40 =>
    fX7_putTo_57 x1 x2 x3 n u36.2 v40)
    else
    (if v38 = (-3 : Int32) then
    (tf_gl (tf_wr u36.2 0 20 (8 : Int32)) fun s43 =>
    some ((-1 : Int32), s43))
    else
    (tf_gl (tf_wr u36.2 0 20 (3 : Int32)) fun s42 =>
    some ((-1 : Int32), s42))))
    else none)
    else none))
    else none))
    else none)
def fX7_putTo (σ : tf_S) (x1 x2 x3 : Int32) : Option (Int32 × tf_S) :=
  if tf_inb (0 : Int32) 2 = true then
  (tf_gl (tf_wr σ 15 ((0 : Int32)).toNatClampNeg (-1 : Int32)) fun s2 =>
  if tf_inb (1 : Int32) 2 = true then
  (tf_gl (tf_wr s2 15 ((1 : Int32)).toNatClampNeg (-1 : Int32)) fun s4 =>
  if tf_inb x1 16 = true then
  ((fX7_takes s4 (s4 11 (x1).toNatClampNeg) x2).bind fun u6 =>
  if u6.1 = 0 then
  (some ((-1 : Int32), u6.2))
  else
  (if tf_inb x1 16 = true then
  (if (u6.2 12 (x1).toNatClampNeg) = (-1 : Int32) then
  (fX7_putTo_57 x1 x2 x3 100000 u6.2 (0 : Int32))
  else
  (if tf_inb x1 16 = true then
  ((fX7_takes u6.2 (u6.2 12 (x1).toNatClampNeg) x3).bind fun u45 =>
  if u45.1 = 0 then
  (some ((-1 : Int32), u45.2))
  else
  (fX7_putTo_57 x1 x2 x3 100000 u45.2 (0 : Int32)))
  else none))
  else none))
  else none)
  else none)
  else none

def fX7_memberOf_22 (x1 x2 : Int32) (σ : tf_S) (t0 : Int32) : Option (Int32 × tf_S) :=
  if 0 ≤ t0 then
  (if tf_inb x1 24 = true then
  (if tf_inb t0 80 = true then
  (if tf_inb t0 80 = true then
  ((fX7_put σ (σ 10 (x1).toNatClampNeg) (σ 4 (t0).toNatClampNeg) (σ 5 (t0).toNatClampNeg)).bind fun u11 =>
  (fX7_orRoom u11.2 u11.1).bind fun u13 =>
  some (u13.1, u13.2))
  else none)
  else none)
  else none)
  else
  (if t0 = (-3 : Int32) then
  (tf_gl (tf_wr σ 0 20 (8 : Int32)) fun s17 =>
  some ((-1 : Int32), s17))
  else
  (tf_gl (tf_wr σ 0 20 (5 : Int32)) fun s16 =>
  some ((-1 : Int32), s16)))
def fX7_memberOf (σ : tf_S) (x1 x2 : Int32) : Option (Int32 × tf_S) :=
  (fX7_isPrimitive σ x2).bind fun u1 =>
  if u1.1 = 0 then
  (if tf_inb x1 24 = true then
  ((fX7_seenAs u1.2 x2 (u1.2 9 (x1).toNatClampNeg)).bind fun u5 =>
  fX7_memberOf_22 x1 x2 u5.2 u5.1)
  else none)
  else
  (fX7_memberOf_22 x1 x2 u1.2 (-1 : Int32))

def fX7_isFunction (σ : tf_S) (x1 x2 : Int32) : Option (Int32 × tf_S) :=
  (fX7_isIn σ x1 (0 : Int32) ((σ 0 14) - (1 : Int32))).bind fun u1 =>
  if u1.1 = 0 then
  (some ((0 : Int32), u1.2))
  else
  (if tf_inb x1 16 = true then
  (if (u1.2 12 (x1).toNatClampNeg) = (-1 : Int32) then
  (if (0 : Int32) = x2 then
  (some ((1 : Int32), u1.2))
  else
  (some ((0 : Int32), u1.2)))
  else
  (if (1 : Int32) = x2 then
  (some ((1 : Int32), u1.2))
  else
  (some ((0 : Int32), u1.2))))
  else none)

def fX7_isRight (σ : tf_S) (x1 x2 x3 x4 : Int32) : Option (Int32 × tf_S) :=
  if x1 = (0 : Int32) then
  ((fX7_isClosed σ x2).bind fun u2 =>
  if tf_bz u2.1 = true then some (u2.1, u2.2) else none)
  else
  (if x1 = (1 : Int32) then
  ((fX7_isFunction σ x2 (0 : Int32)).bind fun u6 =>
  if tf_bz u6.1 = true then some (u6.1, u6.2) else none)
  else
  (if x1 = (2 : Int32) then
  ((fX7_isFunction σ x2 (0 : Int32)).bind fun u10 =>
  if tf_bz u10.1 = true then some (u10.1, u10.2) else none)
  else
  (if x1 = (3 : Int32) then
  ((fX7_isIn σ x2 (0 : Int32) ((σ 0 11) - (1 : Int32))).bind fun u14 =>
  if tf_bz u14.1 = true then some (u14.1, u14.2) else none)
  else
  (if x1 = (4 : Int32) then
  (some ((1 : Int32), σ))
  else
  (if x1 = (5 : Int32) then
  ((fX7_isFunction σ x2 (1 : Int32)).bind fun u19 =>
  if tf_bz u19.1 = true then some (u19.1, u19.2) else none)
  else
  (if x1 = (6 : Int32) then
  ((fX7_isIn σ x2 (0 : Int32) ((σ 0 11) - (1 : Int32))).bind fun u23 =>
  if u23.1 = 0 then
  (some ((0 : Int32), u23.2))
  else
  ((fX7_isIn u23.2 x3 (0 : Int32) ((u23.2 0 11) - (1 : Int32))).bind fun u26 =>
  if u26.1 = 0 then
  (some ((0 : Int32), u26.2))
  else
  ((fX7_isClass u26.2 x4).bind fun u29 =>
  if u29.1 = 0 then
  (some ((0 : Int32), u29.2))
  else
  (if tf_inb x4 12 = true then
  (if (u29.2 1 (x4).toNatClampNeg) = (2 : Int32) then
  (some ((1 : Int32), u29.2))
  else
  (some ((0 : Int32), u29.2)))
  else none))))
  else
  (if x1 = (7 : Int32) then
  ((fX7_isClosed σ x2).bind fun u35 =>
  if tf_bz u35.1 = true then some (u35.1, u35.2) else none)
  else
  (some ((1 : Int32), σ)))))))))

def fX7_operator_55 (x1 x2 x3 x4 x5 x6 : Int32) (σ : tf_S) (y7 t0 : Int32) : Option (Int32 × tf_S) :=
  (fX7_isIn σ x1 (0 : Int32) (7 : Int32)).bind fun u3 =>
  if u3.1 = 0 then
  (some ((-2 : Int32), u3.2))
  else
  (if y7 = 0 then
  (some ((-2 : Int32), u3.2))
  else
  (if t0 = 0 then
  (some ((-2 : Int32), u3.2))
  else
  ((fX7_isRight u3.2 x1 x4 x5 x6).bind fun u8 =>
  if u8.1 = 0 then
  (some ((-2 : Int32), u8.2))
  else
  (if (u8.2 0 24) = (24 : Int32) then
  (some ((-3 : Int32), u8.2))
  else
  (if tf_inb (u8.2 0 24) 24 = true then
  (tf_gl (tf_wr u8.2 18 ((u8.2 0 24)).toNatClampNeg x1) fun s13 =>
  if tf_inb (s13 0 24) 24 = true then
  (tf_gl (tf_wr s13 19 ((s13 0 24)).toNatClampNeg x2) fun s15 =>
  if tf_inb (s15 0 24) 24 = true then
  (tf_gl (tf_wr s15 20 ((s15 0 24)).toNatClampNeg x3) fun s17 =>
  if tf_inb (s17 0 24) 24 = true then
  (tf_gl (tf_wr s17 21 ((s17 0 24)).toNatClampNeg x4) fun s19 =>
  if tf_inb (s19 0 24) 24 = true then
  (tf_gl (tf_wr s19 22 ((s19 0 24)).toNatClampNeg x5) fun s21 =>
  if tf_inb (s21 0 24) 24 = true then
  (tf_gl (tf_wr s21 23 ((s21 0 24)).toNatClampNeg x6) fun s23 =>
  if tf_inb (s23 0 24) 24 = true then
  (tf_gl (tf_wr s23 24 ((s23 0 24)).toNatClampNeg (-1 : Int32)) fun s25 =>
  if tf_inb (s25 0 24) 24 = true then
  (tf_gl (tf_wr s25 25 ((s25 0 24)).toNatClampNeg (0 : Int32)) fun s27 =>
  if tf_inb (s27 0 24) 24 = true then
  (tf_gl (tf_wr s27 26 ((s27 0 24)).toNatClampNeg (0 : Int32)) fun s29 =>
  if tf_inb ((2 : Int32) * (s29 0 24)) 48 = true then
  (tf_gl (tf_wr s29 27 (((2 : Int32) * (s29 0 24))).toNatClampNeg (-1 : Int32)) fun s31 =>
  if tf_inb (((2 : Int32) * (s31 0 24)) + (1 : Int32)) 48 = true then
  (tf_gl (tf_wr s31 27 ((((2 : Int32) * (s31 0 24)) + (1 : Int32))).toNatClampNeg (-1 : Int32)) fun s33 =>
  tf_gl (tf_wr s33 0 24 ((s33 0 24) + (1 : Int32))) fun s34 =>
  some (((s34 0 24) - (1 : Int32)), s34))
  else none)
  else none)
  else none)
  else none)
  else none)
  else none)
  else none)
  else none)
  else none)
  else none)
  else none)))))
def fX7_operator_23 (x1 x2 x3 x4 x5 x6 : Int32) (σ : tf_S) (t0 : Int32) : Option (Int32 × tf_S) :=
  if x1 < (4 : Int32) then
  (fX7_operator_55 x1 x2 x3 x4 x5 x6 σ t0 (1 : Int32))
  else
  (if x1 = (7 : Int32) then
  (fX7_operator_55 x1 x2 x3 x4 x5 x6 σ t0 (1 : Int32))
  else
  ((fX7_isIn σ x3 (0 : Int32) ((σ 0 24) - (1 : Int32))).bind fun u36 =>
  if u36.1 = 0 then
  (fX7_operator_55 x1 x2 x3 x4 x5 x6 u36.2 t0 (0 : Int32))
  else
  (fX7_operator_55 x1 x2 x3 x4 x5 x6 u36.2 t0 (1 : Int32))))
def fX7_operator (σ : tf_S) (x1 x2 x3 x4 x5 x6 : Int32) : Option (Int32 × tf_S) :=
  if x1 = 0 then
  (fX7_operator_23 x1 x2 x3 x4 x5 x6 σ (1 : Int32))
  else
  ((fX7_isIn σ x2 (0 : Int32) ((σ 0 24) - (1 : Int32))).bind fun u39 =>
  if u39.1 = 0 then
  (fX7_operator_23 x1 x2 x3 x4 x5 x6 u39.2 (0 : Int32))
  else
  (fX7_operator_23 x1 x2 x3 x4 x5 x6 u39.2 (1 : Int32)))

def fX7_clear (σ : tf_S) : Option (Int32 × tf_S) :=
  tf_gl (σ 0 24) fun v1 =>
  tf_gl (tf_wr σ 0 24 (0 : Int32)) fun s2 =>
  some (v1, s2)

def fX7_areKeys_21 (x1 x2 : Int32) (σ : tf_S) (t0 : Int32) : Option (Int32 × tf_S) :=
  if t0 = (1 : Int32) then
  (some ((1 : Int32), σ))
  else
  (if t0 = (-3 : Int32) then
  ((fX7_fails σ (8 : Int32)).bind fun u10 =>
  if u10.1 = 0 then
  (some ((0 : Int32), u10.2))
  else
  (some ((1 : Int32), u10.2)))
  else
  ((fX7_fails σ (6 : Int32)).bind fun u7 =>
  if u7.1 = 0 then
  (some ((0 : Int32), u7.2))
  else
  (some ((1 : Int32), u7.2))))
def fX7_areKeys (σ : tf_S) (x1 x2 : Int32) : Option (Int32 × tf_S) :=
  (fX7_goesFor σ x1 x2).bind fun u1 =>
  tf_gl (u1.1) fun v3 =>
  if v3 = 0 then
  ((fX7_goesFor u1.2 x2 x1).bind fun u13 =>
  fX7_areKeys_21 x1 x2 u13.2 u13.1)
  else
  (fX7_areKeys_21 x1 x2 u1.2 v3)

def fX7_joined (σ : tf_S) (x1 x2 x3 : Int32) : Option (Int32 × tf_S) :=
  if tf_inb x1 24 = true then
  ((fX7_memberOf σ (σ 21 (x1).toNatClampNeg) x2).bind fun u2 =>
  tf_gl (u2.1) fun v4 =>
  if v4 = (-1 : Int32) then
  (some ((-1 : Int32), u2.2))
  else
  (if tf_inb x1 24 = true then
  ((fX7_memberOf u2.2 (u2.2 22 (x1).toNatClampNeg) x3).bind fun u7 =>
  tf_gl (u7.1) fun v9 =>
  if v9 = (-1 : Int32) then
  (some ((-1 : Int32), u7.2))
  else
  ((fX7_areKeys u7.2 v4 v9).bind fun u11 =>
  if u11.1 = 0 then
  (some ((-1 : Int32), u11.2))
  else
  (if tf_inb x1 24 = true then
  ((fX7_made u11.2 (u11.2 23 (x1).toNatClampNeg) x2 x3).bind fun u15 =>
  (fX7_orRoom u15.2 u15.1).bind fun u17 =>
  some (u17.1, u17.2))
  else none)))
  else none))
  else none

def fX7_castOf_76 (x1 x2 : Int32) (σ : tf_S) (y3 y4 : Int32) : Option (Int32 × tf_S) :=
  if y4 = (1 : Int32) then
  (some (y3, σ))
  else
  (if y4 = (-3 : Int32) then
  (tf_gl (tf_wr σ 0 20 (8 : Int32)) fun s10 =>
  some ((-1 : Int32), s10))
  else
  (tf_gl (tf_wr σ 0 20 (6 : Int32)) fun s9 =>
  some ((-1 : Int32), s9)))
def fX7_castOf (σ : tf_S) (x1 x2 : Int32) : Option (Int32 × tf_S) :=
  if tf_inb x1 24 = true then
  (tf_gl (σ 21 (x1).toNatClampNeg) fun v2 =>
  (fX7_goesFor σ x2 v2).bind fun u3 =>
  tf_gl (u3.1) fun v5 =>
  if v5 = 0 then
  ((fX7_goesFor u3.2 v2 x2).bind fun u11 =>
  tf_gl (u11.1) fun v13 =>
  if v13 = 0 then
  ((fX7_isIn u11.2 x2 (1 : Int32) (3 : Int32)).bind fun u20 =>
  if u20.1 = 0 then
  (if v13 = (1 : Int32) then
  (if tf_inb x1 24 = true then
  (tf_gl (tf_wr u20.2 26 (x1).toNatClampNeg (1 : Int32)) fun s27 =>
  fX7_castOf_76 x1 x2 s27 v2 v13)
  else none)
  else
  (if tf_inb x1 24 = true then
  (tf_gl (tf_wr u20.2 26 (x1).toNatClampNeg (0 : Int32)) fun s25 =>
  fX7_castOf_76 x1 x2 s25 v2 v13)
  else none))
  else
  ((fX7_isIn u20.2 v2 (1 : Int32) (3 : Int32)).bind fun u28 =>
  if u28.1 = 0 then
  (if v13 = (1 : Int32) then
  (if tf_inb x1 24 = true then
  (tf_gl (tf_wr u28.2 26 (x1).toNatClampNeg (1 : Int32)) fun s35 =>
  fX7_castOf_76 x1 x2 s35 v2 v13)
  else none)
  else
  (if tf_inb x1 24 = true then
  (tf_gl (tf_wr u28.2 26 (x1).toNatClampNeg (0 : Int32)) fun s33 =>
  fX7_castOf_76 x1 x2 s33 v2 v13)
  else none))
  else
  (if (1 : Int32) = (1 : Int32) then
  (if tf_inb x1 24 = true then
  (tf_gl (tf_wr u28.2 26 (x1).toNatClampNeg (1 : Int32)) fun s40 =>
  fX7_castOf_76 x1 x2 s40 v2 (1 : Int32))
  else none)
  else
  (if tf_inb x1 24 = true then
  (tf_gl (tf_wr u28.2 26 (x1).toNatClampNeg (0 : Int32)) fun s38 =>
  fX7_castOf_76 x1 x2 s38 v2 (1 : Int32))
  else none))))
  else
  (if v13 = (1 : Int32) then
  (if tf_inb x1 24 = true then
  (tf_gl (tf_wr u11.2 26 (x1).toNatClampNeg (1 : Int32)) fun s19 =>
  fX7_castOf_76 x1 x2 s19 v2 v13)
  else none)
  else
  (if tf_inb x1 24 = true then
  (tf_gl (tf_wr u11.2 26 (x1).toNatClampNeg (0 : Int32)) fun s17 =>
  fX7_castOf_76 x1 x2 s17 v2 v13)
  else none)))
  else
  (fX7_castOf_76 x1 x2 u3.2 v2 v5))
  else none

def fX7_work_91 (x1 : Int32) (σ : tf_S) (y2 y4 : Int32) : Option (Int32 × tf_S) :=
  if tf_inb x1 24 = true then
  (if (σ 18 (x1).toNatClampNeg) = (0 : Int32) then
  (if tf_inb x1 24 = true then
  (some ((σ 21 (x1).toNatClampNeg), σ))
  else none)
  else
  (if (σ 18 (x1).toNatClampNeg) = (1 : Int32) then
  (if tf_inb x1 24 = true then
  ((fX7_putTo σ (σ 21 (x1).toNatClampNeg) y2 (-1 : Int32)).bind fun u18 =>
  some (u18.1, u18.2))
  else none)
  else
  (if (σ 18 (x1).toNatClampNeg) = (2 : Int32) then
  (if tf_inb x1 24 = true then
  ((fX7_putTo σ (σ 21 (x1).toNatClampNeg) y2 (-1 : Int32)).bind fun u22 =>
  tf_gl (u22.1) fun v24 =>
  if v24 = (-1 : Int32) then
  (if v24 = 0 then
  (some (y2, u22.2))
  else
  (some ((-1 : Int32), u22.2)))
  else
  (if v24 = 0 then
  (if v24 = 0 then
  (some (y2, u22.2))
  else
  (some ((-1 : Int32), u22.2)))
  else
  (tf_gl (tf_wr u22.2 0 20 (1 : Int32)) fun s29 =>
  if v24 = 0 then
  (some (y2, s29))
  else
  (some ((-1 : Int32), s29)))))
  else none)
  else
  (if (σ 18 (x1).toNatClampNeg) = (3 : Int32) then
  (if tf_inb x1 24 = true then
  ((fX7_memberOf σ (σ 21 (x1).toNatClampNeg) y2).bind fun u33 =>
  some (u33.1, u33.2))
  else none)
  else
  (if (σ 18 (x1).toNatClampNeg) = (4 : Int32) then
  ((fX7_commonOf σ y2 y4).bind fun u36 =>
  tf_gl (u36.1) fun v38 =>
  if v38 = (-3 : Int32) then
  (tf_gl (tf_wr u36.2 0 20 (8 : Int32)) fun s42 =>
  if 0 ≤ v38 then
  (some (v38, s42))
  else
  (some ((-1 : Int32), s42)))
  else
  (tf_gl (tf_wr u36.2 0 20 (6 : Int32)) fun s40 =>
  if 0 ≤ v38 then
  (some (v38, s40))
  else
  (some ((-1 : Int32), s40))))
  else
  (if (σ 18 (x1).toNatClampNeg) = (5 : Int32) then
  (if tf_inb x1 24 = true then
  ((fX7_putTo σ (σ 21 (x1).toNatClampNeg) y2 y4).bind fun u46 =>
  some (u46.1, u46.2))
  else none)
  else
  (if (σ 18 (x1).toNatClampNeg) = (6 : Int32) then
  ((fX7_joined σ x1 y2 y4).bind fun u49 =>
  some (u49.1, u49.2))
  else
  ((fX7_castOf σ x1 y2).bind fun u51 =>
  some (u51.1, u51.2)))))))))
  else none
def fX7_work_57 (x1 : Int32) (σ : tf_S) (y2 y3 t0 : Int32) : Option (Int32 × tf_S) :=
  if tf_inb x1 24 = true then
  (if (σ 18 (x1).toNatClampNeg) ≤ 0 then
  (if y3 = 0 then
  (fX7_work_91 x1 σ y2 t0)
  else
  (if t0 = (-1 : Int32) then
  (tf_gl (tf_wr σ 0 20 (7 : Int32)) fun s54 =>
  some ((-1 : Int32), s54))
  else
  (fX7_work_91 x1 σ y2 t0)))
  else
  (if y2 = (-1 : Int32) then
  (tf_gl (tf_wr σ 0 20 (7 : Int32)) fun s56 =>
  some ((-1 : Int32), s56))
  else
  (if y3 = 0 then
  (fX7_work_91 x1 σ y2 t0)
  else
  (if t0 = (-1 : Int32) then
  (tf_gl (tf_wr σ 0 20 (7 : Int32)) fun s59 =>
  some ((-1 : Int32), s59))
  else
  (fX7_work_91 x1 σ y2 t0)))))
  else none
def fX7_work_24 (x1 : Int32) (σ : tf_S) (t0 : Int32) : Option (Int32 × tf_S) :=
  if tf_inb x1 24 = true then
  ((fX7_isIn σ (σ 18 (x1).toNatClampNeg) (4 : Int32) (6 : Int32)).bind fun u6 =>
  tf_gl (u6.1) fun v8 =>
  if v8 = 0 then
  (fX7_work_57 x1 u6.2 t0 v8 (-1 : Int32))
  else
  (if tf_inb x1 24 = true then
  (if tf_inb (u6.2 20 (x1).toNatClampNeg) 24 = true then
  (fX7_work_57 x1 u6.2 t0 v8 (u6.2 24 ((u6.2 20 (x1).toNatClampNeg)).toNatClampNeg))
  else none)
  else none))
  else none
def fX7_work (σ : tf_S) (x1 : Int32) : Option (Int32 × tf_S) :=
  if tf_inb x1 24 = true then
  (if (σ 18 (x1).toNatClampNeg) = 0 then
  (fX7_work_24 x1 σ (-1 : Int32))
  else
  (if tf_inb x1 24 = true then
  (if tf_inb (σ 19 (x1).toNatClampNeg) 24 = true then
  (fX7_work_24 x1 σ (σ 24 ((σ 19 (x1).toNatClampNeg)).toNatClampNeg))
  else none)
  else none))
  else none

def fX7_flow_101 (k4 : tf_S → Int32 → Int32 → Option (Int32 × tf_S)) : Nat → tf_S → Int32 → Int32 → Int32 → Int32 → Int32 → Option (Int32 × tf_S)
  | 0, _, _, _, _, _, _ => none
  | n + 1, σ, y1, y2, y3, y4, y5 =>
    if (2 : Int32) ≤ y5 then
    (if y3 = (-1 : Int32) then
    (tf_gl (y1 + (0 : Int32)) fun v18 =>
    tf_gl (y2 + (1 : Int32)) fun v19 =>
    k4 σ v18 v19)
    else
    (tf_gl (y1 + (1 : Int32)) fun v16 =>
    tf_gl (y2 + (1 : Int32)) fun v17 =>
    k4 σ v16 v17))
    else
    (if y4 = 0 then
    (if tf_inb (((2 : Int32) * y2) + y5) 48 = true then
    (tf_gl (tf_wr σ 27 ((((2 : Int32) * y2) + y5)).toNatClampNeg (-1 : Int32)) fun s22 =>
    tf_gl (y5 + (1 : Int32)) fun v23 =>
    fX7_flow_101 k4 n s22 y1 y2 y3 y4 v23)
    else none)
    else
    (if tf_inb y5 2 = true then
    (if tf_inb (((2 : Int32) * y2) + y5) 48 = true then
    (tf_gl (tf_wr σ 27 ((((2 : Int32) * y2) + y5)).toNatClampNeg (σ 15 (y5).toNatClampNeg)) fun s26 =>
    tf_gl (y5 + (1 : Int32)) fun v27 =>
    fX7_flow_101 k4 n s26 y1 y2 y3 y4 v27)
    else none)
    else none))
def fX7_flow_55 (k4 : tf_S → Int32 → Int32 → Option (Int32 × tf_S)) (σ : tf_S) (y1 y2 y3 t0 t1 : Int32) : Option (Int32 × tf_S) :=
  if tf_inb t1 24 = true then
  (tf_gl (tf_wr σ 25 (t1).toNatClampNeg t0) fun s12 =>
  if y3 = (-1 : Int32) then
  (fX7_flow_101 k4 100000 s12 y1 y2 y3 (0 : Int32) (0 : Int32))
  else
  (if tf_inb y2 24 = true then
  (if (s12 18 (y2).toNatClampNeg) = (1 : Int32) then
  (fX7_flow_101 k4 100000 s12 y1 y2 y3 (1 : Int32) (0 : Int32))
  else
  (if tf_inb y2 24 = true then
  (if (s12 18 (y2).toNatClampNeg) = (2 : Int32) then
  (fX7_flow_101 k4 100000 s12 y1 y2 y3 (1 : Int32) (0 : Int32))
  else
  (if tf_inb y2 24 = true then
  (if (s12 18 (y2).toNatClampNeg) = (5 : Int32) then
  (fX7_flow_101 k4 100000 s12 y1 y2 y3 (1 : Int32) (0 : Int32))
  else
  (fX7_flow_101 k4 100000 s12 y1 y2 y3 (0 : Int32) (0 : Int32)))
  else none))
  else none))
  else none))
  else none
def fX7_flow_4 : Nat → tf_S → Int32 → Int32 → Option (Int32 × tf_S)
  | 0, _, _, _ => none
  | n + 1, σ, y1, y2 =>
    if (σ 0 24) ≤ y2 then
    (some (y1, σ))
    else
    (if tf_inb y2 24 = true then
    (tf_gl (tf_wr σ 26 (y2).toNatClampNeg (0 : Int32)) fun s3 =>
    tf_gl (tf_wr s3 0 20 (0 : Int32)) fun s4 =>
    (fX7_work s4 y2).bind fun u5 =>
    tf_gl (u5.1) fun v7 =>
    if tf_inb y2 24 = true then
    (tf_gl (tf_wr u5.2 24 (y2).toNatClampNeg v7) fun s9 =>
    if v7 = (-1 : Int32) then
    (fX7_flow_55 (fX7_flow_4 n) s9 y1 y2 v7 (s9 0 20) y2)
    else
    (fX7_flow_55 (fX7_flow_4 n) s9 y1 y2 v7 (0 : Int32) y2))
    else none)
    else none)
def fX7_flow (σ : tf_S) : Option (Int32 × tf_S) :=
  fX7_flow_4 100000 σ (0 : Int32) (0 : Int32)

def fX7_isOperator (σ : tf_S) (x1 : Int32) : Option (Int32 × tf_S) :=
  (fX7_isIn σ x1 (0 : Int32) ((σ 0 24) - (1 : Int32))).bind fun u1 =>
  if tf_bz u1.1 = true then some (u1.1, u1.2) else none

def fX7_comes (σ : tf_S) (x1 : Int32) : Option (Int32 × tf_S) :=
  (fX7_isOperator σ x1).bind fun u1 =>
  if u1.1 = 0 then
  (some ((-2 : Int32), u1.2))
  else
  (if tf_inb x1 24 = true then
  (some ((u1.2 24 (x1).toNatClampNeg), u1.2))
  else none)

def fX7_reason (σ : tf_S) (x1 : Int32) : Option (Int32 × tf_S) :=
  (fX7_isOperator σ x1).bind fun u1 =>
  if u1.1 = 0 then
  (some ((-2 : Int32), u1.2))
  else
  (if tf_inb x1 24 = true then
  (some ((u1.2 25 (x1).toNatClampNeg), u1.2))
  else none)

def fX7_mayFail (σ : tf_S) (x1 : Int32) : Option (Int32 × tf_S) :=
  (fX7_isOperator σ x1).bind fun u1 =>
  if u1.1 = 0 then
  (some ((-2 : Int32), u1.2))
  else
  (if tf_inb x1 24 = true then
  (if (u1.2 26 (x1).toNatClampNeg) = 0 then
  (some ((0 : Int32), u1.2))
  else
  (some ((1 : Int32), u1.2)))
  else none)

def fX7_cast_4 (x1 : Int32) : Nat → tf_S → Int32 → Int32 → Option (Int32 × tf_S)
  | 0, _, _, _ => none
  | n + 1, σ, y2, y3 =>
    if (σ 0 24) ≤ y3 then
    (some ((-1 : Int32), σ))
    else
    (if y2 < 0 then
    (some ((-1 : Int32), σ))
    else
    (if tf_inb y3 24 = true then
    (if (σ 26 (y3).toNatClampNeg) = 0 then
    (tf_gl (y3 + (1 : Int32)) fun v5 =>
    fX7_cast_4 x1 n σ y2 v5)
    else
    (if y2 = 0 then
    (some (y3, σ))
    else
    (tf_gl (y2 + (-1 : Int32)) fun v7 =>
    tf_gl (y3 + (1 : Int32)) fun v8 =>
    fX7_cast_4 x1 n σ v7 v8)))
    else none))
def fX7_cast (σ : tf_S) (x1 : Int32) : Option (Int32 × tf_S) :=
  fX7_cast_4 x1 100000 σ x1 (0 : Int32)

def fX7_boundTo (σ : tf_S) (x1 x2 : Int32) : Option (Int32 × tf_S) :=
  (fX7_isOperator σ x1).bind fun u1 =>
  if u1.1 = 0 then
  (some ((-2 : Int32), u1.2))
  else
  ((fX7_isIn u1.2 x2 (0 : Int32) (1 : Int32)).bind fun u4 =>
  if u4.1 = 0 then
  (some ((-2 : Int32), u4.2))
  else
  (if tf_inb (((2 : Int32) * x1) + x2) 48 = true then
  (some ((u4.2 27 ((((2 : Int32) * x1) + x2)).toNatClampNeg), u4.2))
  else none))

def fX7_count_4 (x1 : Int32) : Nat → tf_S → Int32 → Int32 → Option (Int32 × tf_S)
  | 0, _, _, _ => none
  | n + 1, σ, y2, y3 =>
    if (σ 0 24) ≤ y3 then
    (if x1 = 0 then
    (some ((σ 0 0), σ))
    else
    (if x1 = (1 : Int32) then
    (some ((σ 0 3), σ))
    else
    (if x1 = (2 : Int32) then
    (some ((σ 0 11), σ))
    else
    (if x1 = (3 : Int32) then
    (some ((σ 0 14), σ))
    else
    (if x1 = (4 : Int32) then
    (some ((σ 0 24), σ))
    else
    (if x1 = (5 : Int32) then
    (some (y2, σ))
    else
    (some ((-2 : Int32), σ))))))))
    else
    (if tf_inb y3 24 = true then
    (if (σ 26 (y3).toNatClampNeg) = 0 then
    (tf_gl (y2 + (0 : Int32)) fun v10 =>
    tf_gl (y3 + (1 : Int32)) fun v11 =>
    fX7_count_4 x1 n σ v10 v11)
    else
    (tf_gl (y2 + (1 : Int32)) fun v12 =>
    tf_gl (y3 + (1 : Int32)) fun v13 =>
    fX7_count_4 x1 n σ v12 v13))
    else none)
def fX7_count (σ : tf_S) (x1 : Int32) : Option (Int32 × tf_S) :=
  fX7_count_4 x1 100000 σ (0 : Int32) (0 : Int32)
