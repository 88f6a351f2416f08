/-- the world of 1 -/
def tf_w1 (ad : Nat → Nat) (cI cZ : ClassId) (σ : tf_S) : va_W := [(ad 2, .inr (1, [.int (σ 2 0), .ref (ad 15), .ref (ad 16)])), (ad 15, .inl (cI, 24, .inl (σ 15))), (ad 16, .inl (cI, 24, .inl (σ 16)))]
theorem tf_1_ad (ad : Nat → Nat) (cI cZ : ClassId) : tf_Ad (tf_w1 ad cI cZ) := fun _ _ => rfl
/-- the world of 0 -/
def tf_w0 (ad : Nat → Nat) (cI cZ : ClassId) (σ : tf_S) : va_W := [(ad 3, .inr (0, [.int (σ 3 0), .ref (ad 17), .ref (ad 18), .ref (ad 19), .ref (ad 20)])), (ad 17, .inl (cI, 16, .inl (σ 17))), (ad 18, .inl (cI, 16, .inl (σ 18))), (ad 19, .inl (cI, 16, .inl (σ 19))), (ad 20, .inl (cI, 32, .inl (σ 20)))]
theorem tf_0w_ad (ad : Nat → Nat) (cI cZ : ClassId) : tf_Ad (tf_w0 ad cI cZ) := fun _ _ => rfl
/-- the world of 2 -/
def tf_w2 (ad : Nat → Nat) (cI cZ : ClassId) (σ : tf_S) : va_W := [(ad 4, .inr (2, [.int (σ 4 0), .ref (ad 21), .ref (ad 22), .ref (ad 23), .ref (ad 24), .ref (ad 25), .ref (ad 26), .ref (ad 27), .ref (ad 28), .ref (ad 29), .ref (ad 30)])), (ad 21, .inl (cI, 24, .inl (σ 21))), (ad 22, .inl (cI, 24, .inl (σ 22))), (ad 23, .inl (cI, 24, .inl (σ 23))), (ad 24, .inl (cI, 24, .inl (σ 24))), (ad 25, .inl (cI, 24, .inl (σ 25))), (ad 26, .inl (cI, 24, .inl (σ 26))), (ad 27, .inl (cI, 24, .inl (σ 27))), (ad 28, .inl (cI, 24, .inl (σ 28))), (ad 29, .inl (cZ, 24, .inl (σ 29))), (ad 30, .inl (cI, 48, .inl (σ 30)))]
theorem tf_2_ad (ad : Nat → Nat) (cI cZ : ClassId) : tf_Ad (tf_w2 ad cI cZ) := fun _ _ => rfl
/-- the world of 3 -/
def tf_w3 (ad : Nat → Nat) (cI cZ : ClassId) (σ : tf_S) : va_W := [(ad 6, .inr (3, [.ref (ad 1), .ref (ad 3), .ref (ad 31), .int (σ 6 3), .ref (ad 32), .ref (ad 33), .ref (ad 34)])), (ad 31, .inl (cI, 2, .inl (σ 31))), (ad 32, .inl (cI, 80, .inl (σ 32))), (ad 33, .inl (cI, 82, .inl (σ 33))), (ad 34, .inl (cI, 82, .inl (σ 34)))]
theorem tf_3_ad (ad : Nat → Nat) (cI cZ : ClassId) : tf_Ad (tf_w3 ad cI cZ) := fun _ _ => rfl
/-- the world of 5 -/
def tf_w5 (ad : Nat → Nat) (cI cZ : ClassId) (σ : tf_S) : va_W := [(ad 5, .inr (5, [.ref (ad 1), .ref (ad 2), .ref (ad 4), .ref (ad 6), .int (σ 5 4), .int (σ 5 5)])), (ad 6, .inr (3, [.ref (ad 1), .ref (ad 3), .ref (ad 31), .int (σ 6 3), .ref (ad 32), .ref (ad 33), .ref (ad 34)])), (ad 31, .inl (cI, 2, .inl (σ 31))), (ad 32, .inl (cI, 80, .inl (σ 32))), (ad 33, .inl (cI, 82, .inl (σ 33))), (ad 34, .inl (cI, 82, .inl (σ 34)))]
theorem tf_5_ad (ad : Nat → Nat) (cI cZ : ClassId) : tf_Ad (tf_w5 ad cI cZ) := fun _ _ => rfl
def fX4_init (σ : tf_S) : Option tf_S :=
  (fX4_addClass σ (0 : Int32) (-1 : Int32)).bind fun u1 =>
  tf_gl (tf_hs u1.2 9 (tf_fl (u1.2 9) 80 (-1 : Int32))) fun s3 =>
  tf_gl (tf_hs s3 10 (tf_fl (s3 10) 80 (-1 : Int32))) fun s4 =>
  tf_gl (tf_hs s4 11 (tf_fl (s4 11) 80 (-1 : Int32))) fun s5 =>
  if tf_inb (4 : Int32) 80 = true then
  (tf_gl (tf_wr s5 12 ((4 : Int32)).toNatClampNeg (1 : Int32)) fun s7 =>
  if tf_inb (5 : Int32) 80 = true then
  (tf_gl (tf_wr s7 12 ((5 : Int32)).toNatClampNeg (2 : Int32)) fun s9 =>
  tf_gl (tf_wr s9 1 3 (6 : Int32)) fun s10 =>
  (fX4_make s10 (0 : Int32) (-1 : Int32) (-1 : Int32)).bind fun u11 =>
  some u11.2)
  else none)
  else none

def fX7_init_235 : Nat → tf_S → Int32 → Option tf_S
  | 0, _, _ => none
  | n + 1, σ, y1 =>
    if (7 : Int32) ≤ y1 then
    (if tf_inb (0 : Int32) 12 = true then
    (tf_gl (tf_wr σ 2 ((0 : Int32)).toNatClampNeg (-1 : Int32)) fun s3 =>
    some s3)
    else none)
    else
    (if y1 = (6 : Int32) then
    (if tf_inb y1 80 = true then
    (tf_gl (tf_wr σ 3 (y1).toNatClampNeg (0 : Int32)) fun s23 =>
    if tf_inb y1 80 = true then
    (tf_gl (tf_wr s23 4 (y1).toNatClampNeg (-1 : Int32)) fun s25 =>
    if tf_inb y1 80 = true then
    (tf_gl (tf_wr s25 5 (y1).toNatClampNeg (-1 : Int32)) fun s27 =>
    if y1 = (4 : Int32) then
    (if tf_inb y1 80 = true then
    (tf_gl (tf_wr s27 6 (y1).toNatClampNeg (1 : Int32)) fun s37 =>
    tf_gl (y1 + (1 : Int32)) fun v38 =>
    fX7_init_235 n s37 v38)
    else none)
    else
    (if y1 = (5 : Int32) then
    (if tf_inb y1 80 = true then
    (tf_gl (tf_wr s27 6 (y1).toNatClampNeg (2 : Int32)) fun s34 =>
    tf_gl (y1 + (1 : Int32)) fun v35 =>
    fX7_init_235 n s34 v35)
    else none)
    else
    (if tf_inb y1 80 = true then
    (tf_gl (tf_wr s27 6 (y1).toNatClampNeg (0 : Int32)) fun s31 =>
    tf_gl (y1 + (1 : Int32)) fun v32 =>
    fX7_init_235 n s31 v32)
    else none)))
    else none)
    else none)
    else none)
    else
    (if tf_inb y1 80 = true then
    (tf_gl (tf_wr σ 3 (y1).toNatClampNeg (-1 : Int32)) fun s6 =>
    if tf_inb y1 80 = true then
    (tf_gl (tf_wr s6 4 (y1).toNatClampNeg (-1 : Int32)) fun s8 =>
    if tf_inb y1 80 = true then
    (tf_gl (tf_wr s8 5 (y1).toNatClampNeg (-1 : Int32)) fun s10 =>
    if y1 = (4 : Int32) then
    (if tf_inb y1 80 = true then
    (tf_gl (tf_wr s10 6 (y1).toNatClampNeg (1 : Int32)) fun s20 =>
    tf_gl (y1 + (1 : Int32)) fun v21 =>
    fX7_init_235 n s20 v21)
    else none)
    else
    (if y1 = (5 : Int32) then
    (if tf_inb y1 80 = true then
    (tf_gl (tf_wr s10 6 (y1).toNatClampNeg (2 : Int32)) fun s17 =>
    tf_gl (y1 + (1 : Int32)) fun v18 =>
    fX7_init_235 n s17 v18)
    else none)
    else
    (if tf_inb y1 80 = true then
    (tf_gl (tf_wr s10 6 (y1).toNatClampNeg (0 : Int32)) fun s14 =>
    tf_gl (y1 + (1 : Int32)) fun v15 =>
    fX7_init_235 n s14 v15)
    else none)))
    else none)
    else none)
    else none))
def fX7_init (σ : tf_S) : Option tf_S :=
  fX7_init_235 100000 σ (0 : Int32)

set_option maxHeartbeats 4000000 in
set_option maxRecDepth 100000 in
theorem kc_X0_init (l : Launch) (D : va_G) (cI cZ : ClassId) (h0 sz : Nat) : Met l yX0_init wsX0_init ({ frames := 1, cells := 4, slots := 80, locals := 20 }) (va_Pc [.ref h0] (fun U => U.heap.size = sz ∧ va_P D vwCl [(h0, .inr (0, [.int 0, .null, .null, .null, .null]))] U.heap ∧ va_K D vwCl [(cI, .int), (cZ, .boolean)] U ∧ tf_N tf_nest U ∧ va_D (fun _ => True) [(h0, .inr (0, [.int 0, .null, .null, .null, .null]))])) (va_Qv (fun (ad : Nat → Nat) => ad 3 = h0) (fun ad t => va_P D vwCl (tf_w0 ad cI cZ tf_0) t.heap ∧ va_D (va_A [(h0, .inr (0, [.int 0, .null, .null, .null, .null]))] sz) (tf_w0 ad cI cZ tf_0)) (va_A [(h0, .inr (0, [.int 0, .null, .null, .null, .null]))] sz)) 4 80 (va_A [(h0, .inr (0, [.int 0, .null, .null, .null, .null]))] sz) := by
  refine Met.ofW (cc := cX0_init) (maxL := 1) (ret := none) (by decide) rfl ?_
  intro p e s m args below meth c s₁ B hml hv
  obtain ⟨rfl, hsz, hP, hK, hN, hD0⟩ := hv
  have hx := B.exec
  have hb := B.bytes
  have hr := B.returns
  have hts := atoms_spec (ws := wsX0_init) B.pre
  have hown : s.vm.findClass RX0 = some m.cls := findClass_of_methodNamed B.named
  have hlocks := B.notSynchronized
  have hin : meth.name = "<init>" := (name_of_methodNamed B.named B.method).1
  subst hsz
  have hD := hD0.self (sz := s.heap.size)
  generalize hAe : va_A [(h0, .inr (0, [.int 0, .null, .null, .null, .null]))] s.heap.size = A at hD ⊢
  have hA : ∀ q : Nat, s.heap.size ≤ q → A q := fun q h => by rw [← hAe]; exact Or.inr h
  have hS : va_S A s.heap s.heap [] := va_S.rf
  have hl := lv_entry ([.ref h0]) (n := 1) (Nat.le_of_ble_eq_true rfl)
  rw [lg_entry_eq]
  generalize (lg_sl ([.ref h0]) ++ List.replicate (1 - (lg_sl ([.ref h0])).length) Slot.unset).toArray = ls at hl ⊢
  have hl : lv_has ls 1 [(0, .ref h0)] := hl
  have hn_X0 : ∀ w ∈ u_ws RX0 TX0 5, w ∈ wsX0_init := by decide +kernel
  have hf_9 := hts (.fieldLink RX0 9 "TypeFlow$Functions" "size" "I") (by decide +kernel)
  have hf_15 := hts (.fieldLink RX0 15 "TypeFlow$Functions" "first" "[I") (by decide +kernel)
  have hf_19 := hts (.fieldLink RX0 19 "TypeFlow$Functions" "second" "[I") (by decide +kernel)
  have hf_22 := hts (.fieldLink RX0 22 "TypeFlow$Functions" "result" "[I") (by decide +kernel)
  have hf_25 := hts (.fieldLink RX0 25 "TypeFlow$Functions" "bounds" "[I") (by decide +kernel)
  refine lv_aload_n hx hb dX0_init_0 rfl (lv_at hl 0 rfl) ?_
  refine W.objInit hx hb hown (hts (.methodLink RX0 3 objectInit) (by decide +kernel)) (hts (.instanceMethod objectInit) (by decide +kernel)) (hts (.code objectInit ⟨#[0xb1]⟩ 1 none) (List.mem_of_getElem? (i := 3) rfl)) rfl (by rw [hml]; exact hl.1) rfl dX0_init_1 (Nat.le_of_ble_eq_true rfl) (Nat.le_of_ble_eq_true rfl) ?_
  refine W.eq (g2 := F0 m 4 ls []) rfl ?_
  refine lv_aload_n hx hb dX0_init_4 rfl (lv_at hl 0 rfl) ?_
  refine lv_iconst (v := 0) hx hb dX0_init_5 (by decide +kernel) ?_
  refine va_put (D := D) (ci := 0) (v := .int (0 : Int32)) (ty := .int) (C := RX0) (T := TX0) (N := 5) hx hb hts hn_X0 tyX0 tyX0_ok nmX0 hown hK hP hD hS 0 rfl rfl 0 (by decide) hf_9 (fun _ h9 => h9) rfl (by decide +kernel) rfl rfl (Nat.le_of_ble_eq_true rfl) dX0_init_6 (fun H locs hP hD hS => ?_)
  have hP : va_P D vwCl ([(h0, .inr (0, [.int (0 : Int32), .null, .null, .null, .null]))]) H := hP
  have hD : va_D A ([(h0, .inr (0, [.int (0 : Int32), .null, .null, .null, .null]))]) := hD
  refine lv_aload_n hx hb dX0_init_9 rfl (lv_at hl 0 rfl) ?_
  refine lv_bipush (v := 16) hx hb dX0_init_10 (by decide +kernel) ?_
  refine tf_newa (atype := .int) (a0 := (16, .inl (fun _ => 0))) (N' := 16) hx hb (hts (.arrayClass .int) (by decide +kernel)) rfl hK hP hD hS hA 0 rfl tf_uI (fun _ => rfl) (by decide +kernel) (by decide +kernel) (by decide) (Nat.le_of_ble_eq_true rfl) (Nat.le_of_ble_eq_true rfl) dX0_init_12 (fun q17 H hP hD hS => ?_)
  have hP : va_P D vwCl ([(h0, .inr (0, [.int (0 : Int32), .null, .null, .null, .null])), (q17, .inl (cI, 16, .inl (fun _ => 0)))]) H := hP
  have hD : va_D A ([(h0, .inr (0, [.int (0 : Int32), .null, .null, .null, .null])), (q17, .inl (cI, 16, .inl (fun _ => 0)))]) := hD
  refine va_putF (D := D) (ci := 0) (v := .ref q17) (ty := .array .int) (C := RX0) (T := TX0) (N := 5) hx hb hts hn_X0 tyX0 tyX0_ok nmX0 hown hK hP hD hS 0 rfl rfl 1 (by decide) hf_15 (fun _ h9 => h9) rfl hin rfl (by decide +kernel) rfl rfl (Nat.le_of_ble_eq_true rfl) dX0_init_14 (fun H locs hP hD hS => ?_)
  have hP : va_P D vwCl ([(h0, .inr (0, [.int (0 : Int32), .ref q17, .null, .null, .null])), (q17, .inl (cI, 16, .inl (fun _ => 0)))]) H := hP
  have hD : va_D A ([(h0, .inr (0, [.int (0 : Int32), .ref q17, .null, .null, .null])), (q17, .inl (cI, 16, .inl (fun _ => 0)))]) := hD
  refine lv_aload_n hx hb dX0_init_17 rfl (lv_at hl 0 rfl) ?_
  refine lv_bipush (v := 16) hx hb dX0_init_18 (by decide +kernel) ?_
  refine tf_newa (atype := .int) (a0 := (16, .inl (fun _ => 0))) (N' := 16) hx hb (hts (.arrayClass .int) (by decide +kernel)) rfl hK hP hD hS hA 0 rfl tf_uI (fun _ => rfl) (by decide +kernel) (by decide +kernel) (by decide) (Nat.le_of_ble_eq_true rfl) (Nat.le_of_ble_eq_true rfl) dX0_init_20 (fun q18 H hP hD hS => ?_)
  have hP : va_P D vwCl ([(h0, .inr (0, [.int (0 : Int32), .ref q17, .null, .null, .null])), (q17, .inl (cI, 16, .inl (fun _ => 0))), (q18, .inl (cI, 16, .inl (fun _ => 0)))]) H := hP
  have hD : va_D A ([(h0, .inr (0, [.int (0 : Int32), .ref q17, .null, .null, .null])), (q17, .inl (cI, 16, .inl (fun _ => 0))), (q18, .inl (cI, 16, .inl (fun _ => 0)))]) := hD
  refine va_putF (D := D) (ci := 0) (v := .ref q18) (ty := .array .int) (C := RX0) (T := TX0) (N := 5) hx hb hts hn_X0 tyX0 tyX0_ok nmX0 hown hK hP hD hS 0 rfl rfl 2 (by decide) hf_19 (fun _ h9 => h9) rfl hin rfl (by decide +kernel) rfl rfl (Nat.le_of_ble_eq_true rfl) dX0_init_22 (fun H locs hP hD hS => ?_)
  have hP : va_P D vwCl ([(h0, .inr (0, [.int (0 : Int32), .ref q17, .ref q18, .null, .null])), (q17, .inl (cI, 16, .inl (fun _ => 0))), (q18, .inl (cI, 16, .inl (fun _ => 0)))]) H := hP
  have hD : va_D A ([(h0, .inr (0, [.int (0 : Int32), .ref q17, .ref q18, .null, .null])), (q17, .inl (cI, 16, .inl (fun _ => 0))), (q18, .inl (cI, 16, .inl (fun _ => 0)))]) := hD
  refine lv_aload_n hx hb dX0_init_25 rfl (lv_at hl 0 rfl) ?_
  refine lv_bipush (v := 16) hx hb dX0_init_26 (by decide +kernel) ?_
  refine tf_newa (atype := .int) (a0 := (16, .inl (fun _ => 0))) (N' := 16) hx hb (hts (.arrayClass .int) (by decide +kernel)) rfl hK hP hD hS hA 0 rfl tf_uI (fun _ => rfl) (by decide +kernel) (by decide +kernel) (by decide) (Nat.le_of_ble_eq_true rfl) (Nat.le_of_ble_eq_true rfl) dX0_init_28 (fun q19 H hP hD hS => ?_)
  have hP : va_P D vwCl ([(h0, .inr (0, [.int (0 : Int32), .ref q17, .ref q18, .null, .null])), (q17, .inl (cI, 16, .inl (fun _ => 0))), (q18, .inl (cI, 16, .inl (fun _ => 0))), (q19, .inl (cI, 16, .inl (fun _ => 0)))]) H := hP
  have hD : va_D A ([(h0, .inr (0, [.int (0 : Int32), .ref q17, .ref q18, .null, .null])), (q17, .inl (cI, 16, .inl (fun _ => 0))), (q18, .inl (cI, 16, .inl (fun _ => 0))), (q19, .inl (cI, 16, .inl (fun _ => 0)))]) := hD
  refine va_putF (D := D) (ci := 0) (v := .ref q19) (ty := .array .int) (C := RX0) (T := TX0) (N := 5) hx hb hts hn_X0 tyX0 tyX0_ok nmX0 hown hK hP hD hS 0 rfl rfl 3 (by decide) hf_22 (fun _ h9 => h9) rfl hin rfl (by decide +kernel) rfl rfl (Nat.le_of_ble_eq_true rfl) dX0_init_30 (fun H locs hP hD hS => ?_)
  have hP : va_P D vwCl ([(h0, .inr (0, [.int (0 : Int32), .ref q17, .ref q18, .ref q19, .null])), (q17, .inl (cI, 16, .inl (fun _ => 0))), (q18, .inl (cI, 16, .inl (fun _ => 0))), (q19, .inl (cI, 16, .inl (fun _ => 0)))]) H := hP
  have hD : va_D A ([(h0, .inr (0, [.int (0 : Int32), .ref q17, .ref q18, .ref q19, .null])), (q17, .inl (cI, 16, .inl (fun _ => 0))), (q18, .inl (cI, 16, .inl (fun _ => 0))), (q19, .inl (cI, 16, .inl (fun _ => 0)))]) := hD
  refine lv_aload_n hx hb dX0_init_33 rfl (lv_at hl 0 rfl) ?_
  refine lv_bipush (v := 32) hx hb dX0_init_34 (by decide +kernel) ?_
  refine tf_newa (atype := .int) (a0 := (32, .inl (fun _ => 0))) (N' := 32) hx hb (hts (.arrayClass .int) (by decide +kernel)) rfl hK hP hD hS hA 0 rfl tf_uI (fun _ => rfl) (by decide +kernel) (by decide +kernel) (by decide) (Nat.le_of_ble_eq_true rfl) (Nat.le_of_ble_eq_true rfl) dX0_init_36 (fun q20 H hP hD hS => ?_)
  have hP : va_P D vwCl ([(h0, .inr (0, [.int (0 : Int32), .ref q17, .ref q18, .ref q19, .null])), (q17, .inl (cI, 16, .inl (fun _ => 0))), (q18, .inl (cI, 16, .inl (fun _ => 0))), (q19, .inl (cI, 16, .inl (fun _ => 0))), (q20, .inl (cI, 32, .inl (fun _ => 0)))]) H := hP
  have hD : va_D A ([(h0, .inr (0, [.int (0 : Int32), .ref q17, .ref q18, .ref q19, .null])), (q17, .inl (cI, 16, .inl (fun _ => 0))), (q18, .inl (cI, 16, .inl (fun _ => 0))), (q19, .inl (cI, 16, .inl (fun _ => 0))), (q20, .inl (cI, 32, .inl (fun _ => 0)))]) := hD
  refine va_putF (D := D) (ci := 0) (v := .ref q20) (ty := .array .int) (C := RX0) (T := TX0) (N := 5) hx hb hts hn_X0 tyX0 tyX0_ok nmX0 hown hK hP hD hS 0 rfl rfl 4 (by decide) hf_25 (fun _ h9 => h9) rfl hin rfl (by decide +kernel) rfl rfl (Nat.le_of_ble_eq_true rfl) dX0_init_38 (fun H locs hP hD hS => ?_)
  have hP : va_P D vwCl ([(h0, .inr (0, [.int (0 : Int32), .ref q17, .ref q18, .ref q19, .ref q20])), (q17, .inl (cI, 16, .inl (fun _ => 0))), (q18, .inl (cI, 16, .inl (fun _ => 0))), (q19, .inl (cI, 16, .inl (fun _ => 0))), (q20, .inl (cI, 32, .inl (fun _ => 0)))]) H := hP
  have hD : va_D A ([(h0, .inr (0, [.int (0 : Int32), .ref q17, .ref q18, .ref q19, .ref q20])), (q17, .inl (cI, 16, .inl (fun _ => 0))), (q18, .inl (cI, 16, .inl (fun _ => 0))), (q19, .inl (cI, 16, .inl (fun _ => 0))), (q20, .inl (cI, 32, .inl (fun _ => 0)))]) := hD
  obtain ⟨ad, rfl, rfl, rfl, rfl, rfl⟩ : ∃ ad : Nat → Nat, ad 3 = h0 ∧ ad 17 = q17 ∧ ad 18 = q18 ∧ ad 19 = q19 ∧ ad 20 = q20 := ⟨fun i => match i with | 3 => h0 | 17 => q17 | 18 => q18 | 19 => q19 | 20 => q20 | _ => 0, rfl, rfl, rfl, rfl, rfl⟩
  have hP9 : va_P D vwCl (tf_w0 ad cI cZ tf_0) H := hP.sub [0, 1, 2, 3, 4] rfl
  have hD9 : va_D A (tf_w0 ad cI cZ tf_0) := hD.sub [0, 1, 2, 3, 4] (by decide) rfl
  refine W.widen (k := 4) (n := 80) (by decide) (by decide) ?_
  exact W.vret hx hb hr (fun t ht hW => ⟨⟨ad, rfl, rfl, by rw [ht]; exact hP9, hD9⟩, hS.F ht⟩) hS.2.2 dX0_init_41 hlocks

set_option maxHeartbeats 4000000 in
set_option maxRecDepth 100000 in
theorem kc_X1_init (l : Launch) (D : va_G) (cI cZ : ClassId) (h0 sz : Nat) : Met l yX1_init wsX1_init ({ frames := 1, cells := 2, slots := 48, locals := 20 }) (va_Pc [.ref h0] (fun U => U.heap.size = sz ∧ va_P D vwCl [(h0, .inr (1, [.int 0, .null, .null]))] U.heap ∧ va_K D vwCl [(cI, .int), (cZ, .boolean)] U ∧ tf_N tf_nest U ∧ va_D (fun _ => True) [(h0, .inr (1, [.int 0, .null, .null]))])) (va_Qv (fun (ad : Nat → Nat) => ad 2 = h0) (fun ad t => va_P D vwCl (tf_w1 ad cI cZ tf_0) t.heap ∧ va_D (va_A [(h0, .inr (1, [.int 0, .null, .null]))] sz) (tf_w1 ad cI cZ tf_0)) (va_A [(h0, .inr (1, [.int 0, .null, .null]))] sz)) 2 48 (va_A [(h0, .inr (1, [.int 0, .null, .null]))] sz) := by
  refine Met.ofW (cc := cX1_init) (maxL := 1) (ret := none) (by decide) rfl ?_
  intro p e s m args below meth c s₁ B hml hv
  obtain ⟨rfl, hsz, hP, hK, hN, hD0⟩ := hv
  have hx := B.exec
  have hb := B.bytes
  have hr := B.returns
  have hts := atoms_spec (ws := wsX1_init) B.pre
  have hown : s.vm.findClass RX1 = some m.cls := findClass_of_methodNamed B.named
  have hlocks := B.notSynchronized
  have hin : meth.name = "<init>" := (name_of_methodNamed B.named B.method).1
  subst hsz
  have hD := hD0.self (sz := s.heap.size)
  generalize hAe : va_A [(h0, .inr (1, [.int 0, .null, .null]))] s.heap.size = A at hD ⊢
  have hA : ∀ q : Nat, s.heap.size ≤ q → A q := fun q h => by rw [← hAe]; exact Or.inr h
  have hS : va_S A s.heap s.heap [] := va_S.rf
  have hl := lv_entry ([.ref h0]) (n := 1) (Nat.le_of_ble_eq_true rfl)
  rw [lg_entry_eq]
  generalize (lg_sl ([.ref h0]) ++ List.replicate (1 - (lg_sl ([.ref h0])).length) Slot.unset).toArray = ls at hl ⊢
  have hl : lv_has ls 1 [(0, .ref h0)] := hl
  have hn_X1 : ∀ w ∈ u_ws RX1 TX1 3, w ∈ wsX1_init := by decide +kernel
  have hf_9 := hts (.fieldLink RX1 9 "TypeFlow$Members" "size" "I") (by decide +kernel)
  have hf_15 := hts (.fieldLink RX1 15 "TypeFlow$Members" "ofClass" "[I") (by decide +kernel)
  have hf_19 := hts (.fieldLink RX1 19 "TypeFlow$Members" "type" "[I") (by decide +kernel)
  refine lv_aload_n hx hb dX1_init_0 rfl (lv_at hl 0 rfl) ?_
  refine W.objInit hx hb hown (hts (.methodLink RX1 3 objectInit) (by decide +kernel)) (hts (.instanceMethod objectInit) (by decide +kernel)) (hts (.code objectInit ⟨#[0xb1]⟩ 1 none) (List.mem_of_getElem? (i := 3) rfl)) rfl (by rw [hml]; exact hl.1) rfl dX1_init_1 (Nat.le_of_ble_eq_true rfl) (Nat.le_of_ble_eq_true rfl) ?_
  refine W.eq (g2 := F0 m 4 ls []) rfl ?_
  refine lv_aload_n hx hb dX1_init_4 rfl (lv_at hl 0 rfl) ?_
  refine lv_iconst (v := 0) hx hb dX1_init_5 (by decide +kernel) ?_
  refine va_put (D := D) (ci := 1) (v := .int (0 : Int32)) (ty := .int) (C := RX1) (T := TX1) (N := 3) hx hb hts hn_X1 tyX1 tyX1_ok nmX1 hown hK hP hD hS 0 rfl rfl 0 (by decide) hf_9 (fun _ h9 => h9) rfl (by decide +kernel) rfl rfl (Nat.le_of_ble_eq_true rfl) dX1_init_6 (fun H locs hP hD hS => ?_)
  have hP : va_P D vwCl ([(h0, .inr (1, [.int (0 : Int32), .null, .null]))]) H := hP
  have hD : va_D A ([(h0, .inr (1, [.int (0 : Int32), .null, .null]))]) := hD
  refine lv_aload_n hx hb dX1_init_9 rfl (lv_at hl 0 rfl) ?_
  refine lv_bipush (v := 24) hx hb dX1_init_10 (by decide +kernel) ?_
  refine tf_newa (atype := .int) (a0 := (24, .inl (fun _ => 0))) (N' := 24) hx hb (hts (.arrayClass .int) (by decide +kernel)) rfl hK hP hD hS hA 0 rfl tf_uI (fun _ => rfl) (by decide +kernel) (by decide +kernel) (by decide) (Nat.le_of_ble_eq_true rfl) (Nat.le_of_ble_eq_true rfl) dX1_init_12 (fun q15 H hP hD hS => ?_)
  have hP : va_P D vwCl ([(h0, .inr (1, [.int (0 : Int32), .null, .null])), (q15, .inl (cI, 24, .inl (fun _ => 0)))]) H := hP
  have hD : va_D A ([(h0, .inr (1, [.int (0 : Int32), .null, .null])), (q15, .inl (cI, 24, .inl (fun _ => 0)))]) := hD
  refine va_putF (D := D) (ci := 1) (v := .ref q15) (ty := .array .int) (C := RX1) (T := TX1) (N := 3) hx hb hts hn_X1 tyX1 tyX1_ok nmX1 hown hK hP hD hS 0 rfl rfl 1 (by decide) hf_15 (fun _ h9 => h9) rfl hin rfl (by decide +kernel) rfl rfl (Nat.le_of_ble_eq_true rfl) dX1_init_14 (fun H locs hP hD hS => ?_)
  have hP : va_P D vwCl ([(h0, .inr (1, [.int (0 : Int32), .ref q15, .null])), (q15, .inl (cI, 24, .inl (fun _ => 0)))]) H := hP
  have hD : va_D A ([(h0, .inr (1, [.int (0 : Int32), .ref q15, .null])), (q15, .inl (cI, 24, .inl (fun _ => 0)))]) := hD
  refine lv_aload_n hx hb dX1_init_17 rfl (lv_at hl 0 rfl) ?_
  refine lv_bipush (v := 24) hx hb dX1_init_18 (by decide +kernel) ?_
  refine tf_newa (atype := .int) (a0 := (24, .inl (fun _ => 0))) (N' := 24) hx hb (hts (.arrayClass .int) (by decide +kernel)) rfl hK hP hD hS hA 0 rfl tf_uI (fun _ => rfl) (by decide +kernel) (by decide +kernel) (by decide) (Nat.le_of_ble_eq_true rfl) (Nat.le_of_ble_eq_true rfl) dX1_init_20 (fun q16 H hP hD hS => ?_)
  have hP : va_P D vwCl ([(h0, .inr (1, [.int (0 : Int32), .ref q15, .null])), (q15, .inl (cI, 24, .inl (fun _ => 0))), (q16, .inl (cI, 24, .inl (fun _ => 0)))]) H := hP
  have hD : va_D A ([(h0, .inr (1, [.int (0 : Int32), .ref q15, .null])), (q15, .inl (cI, 24, .inl (fun _ => 0))), (q16, .inl (cI, 24, .inl (fun _ => 0)))]) := hD
  refine va_putF (D := D) (ci := 1) (v := .ref q16) (ty := .array .int) (C := RX1) (T := TX1) (N := 3) hx hb hts hn_X1 tyX1 tyX1_ok nmX1 hown hK hP hD hS 0 rfl rfl 2 (by decide) hf_19 (fun _ h9 => h9) rfl hin rfl (by decide +kernel) rfl rfl (Nat.le_of_ble_eq_true rfl) dX1_init_22 (fun H locs hP hD hS => ?_)
  have hP : va_P D vwCl ([(h0, .inr (1, [.int (0 : Int32), .ref q15, .ref q16])), (q15, .inl (cI, 24, .inl (fun _ => 0))), (q16, .inl (cI, 24, .inl (fun _ => 0)))]) H := hP
  have hD : va_D A ([(h0, .inr (1, [.int (0 : Int32), .ref q15, .ref q16])), (q15, .inl (cI, 24, .inl (fun _ => 0))), (q16, .inl (cI, 24, .inl (fun _ => 0)))]) := hD
  obtain ⟨ad, rfl, rfl, rfl⟩ : ∃ ad : Nat → Nat, ad 2 = h0 ∧ ad 15 = q15 ∧ ad 16 = q16 := ⟨fun i => match i with | 2 => h0 | 15 => q15 | 16 => q16 | _ => 0, rfl, rfl, rfl⟩
  have hP9 : va_P D vwCl (tf_w1 ad cI cZ tf_0) H := hP.sub [0, 1, 2] rfl
  have hD9 : va_D A (tf_w1 ad cI cZ tf_0) := hD.sub [0, 1, 2] (by decide) rfl
  refine W.widen (k := 2) (n := 48) (by decide) (by decide) ?_
  exact W.vret hx hb hr (fun t ht hW => ⟨⟨ad, rfl, rfl, by rw [ht]; exact hP9, hD9⟩, hS.F ht⟩) hS.2.2 dX1_init_25 hlocks

set_option maxHeartbeats 4000000 in
set_option maxRecDepth 100000 in
theorem kc_X2_init (l : Launch) (D : va_G) (cI cZ : ClassId) (h0 sz : Nat) : Met l yX2_init wsX2_init ({ frames := 1, cells := 10, slots := 264, locals := 20 }) (va_Pc [.ref h0] (fun U => U.heap.size = sz ∧ va_P D vwCl [(h0, .inr (2, [.int 0, .null, .null, .null, .null, .null, .null, .null, .null, .null, .null]))] U.heap ∧ va_K D vwCl [(cI, .int), (cZ, .boolean)] U ∧ tf_N tf_nest U ∧ va_D (fun _ => True) [(h0, .inr (2, [.int 0, .null, .null, .null, .null, .null, .null, .null, .null, .null, .null]))])) (va_Qv (fun (ad : Nat → Nat) => ad 4 = h0) (fun ad t => va_P D vwCl (tf_w2 ad cI cZ tf_0) t.heap ∧ va_D (va_A [(h0, .inr (2, [.int 0, .null, .null, .null, .null, .null, .null, .null, .null, .null, .null]))] sz) (tf_w2 ad cI cZ tf_0)) (va_A [(h0, .inr (2, [.int 0, .null, .null, .null, .null, .null, .null, .null, .null, .null, .null]))] sz)) 10 264 (va_A [(h0, .inr (2, [.int 0, .null, .null, .null, .null, .null, .null, .null, .null, .null, .null]))] sz) := by
  refine Met.ofW (cc := cX2_init) (maxL := 1) (ret := none) (by decide) rfl ?_
  intro p e s m args below meth c s₁ B hml hv
  obtain ⟨rfl, hsz, hP, hK, hN, hD0⟩ := hv
  have hx := B.exec
  have hb := B.bytes
  have hr := B.returns
  have hts := atoms_spec (ws := wsX2_init) B.pre
  have hown : s.vm.findClass RX2 = some m.cls := findClass_of_methodNamed B.named
  have hlocks := B.notSynchronized
  have hin : meth.name = "<init>" := (name_of_methodNamed B.named B.method).1
  subst hsz
  have hD := hD0.self (sz := s.heap.size)
  generalize hAe : va_A [(h0, .inr (2, [.int 0, .null, .null, .null, .null, .null, .null, .null, .null, .null, .null]))] s.heap.size = A at hD ⊢
  have hA : ∀ q : Nat, s.heap.size ≤ q → A q := fun q h => by rw [← hAe]; exact Or.inr h
  have hS : va_S A s.heap s.heap [] := va_S.rf
  have hl := lv_entry ([.ref h0]) (n := 1) (Nat.le_of_ble_eq_true rfl)
  rw [lg_entry_eq]
  generalize (lg_sl ([.ref h0]) ++ List.replicate (1 - (lg_sl ([.ref h0])).length) Slot.unset).toArray = ls at hl ⊢
  have hl : lv_has ls 1 [(0, .ref h0)] := hl
  have hn_X2 : ∀ w ∈ u_ws RX2 TX2 11, w ∈ wsX2_init := by decide +kernel
  have hf_9 := hts (.fieldLink RX2 9 "TypeFlow$Operators" "size" "I") (by decide +kernel)
  have hf_15 := hts (.fieldLink RX2 15 "TypeFlow$Operators" "kind" "[I") (by decide +kernel)
  have hf_19 := hts (.fieldLink RX2 19 "TypeFlow$Operators" "a" "[I") (by decide +kernel)
  have hf_22 := hts (.fieldLink RX2 22 "TypeFlow$Operators" "b" "[I") (by decide +kernel)
  have hf_25 := hts (.fieldLink RX2 25 "TypeFlow$Operators" "f" "[I") (by decide +kernel)
  have hf_28 := hts (.fieldLink RX2 28 "TypeFlow$Operators" "g" "[I") (by decide +kernel)
  have hf_31 := hts (.fieldLink RX2 31 "TypeFlow$Operators" "c" "[I") (by decide +kernel)
  have hf_34 := hts (.fieldLink RX2 34 "TypeFlow$Operators" "type" "[I") (by decide +kernel)
  have hf_37 := hts (.fieldLink RX2 37 "TypeFlow$Operators" "fault" "[I") (by decide +kernel)
  have hf_40 := hts (.fieldLink RX2 40 "TypeFlow$Operators" "risky" "[Z") (by decide +kernel)
  have hf_44 := hts (.fieldLink RX2 44 "TypeFlow$Operators" "bindings" "[I") (by decide +kernel)
  refine lv_aload_n hx hb dX2_init_0 rfl (lv_at hl 0 rfl) ?_
  refine W.objInit hx hb hown (hts (.methodLink RX2 3 objectInit) (by decide +kernel)) (hts (.instanceMethod objectInit) (by decide +kernel)) (hts (.code objectInit ⟨#[0xb1]⟩ 1 none) (List.mem_of_getElem? (i := 3) rfl)) rfl (by rw [hml]; exact hl.1) rfl dX2_init_1 (Nat.le_of_ble_eq_true rfl) (Nat.le_of_ble_eq_true rfl) ?_
  refine W.eq (g2 := F0 m 4 ls []) rfl ?_
  refine lv_aload_n hx hb dX2_init_4 rfl (lv_at hl 0 rfl) ?_
  refine lv_iconst (v := 0) hx hb dX2_init_5 (by decide +kernel) ?_
  refine va_put (D := D) (ci := 2) (v := .int (0 : Int32)) (ty := .int) (C := RX2) (T := TX2) (N := 11) hx hb hts hn_X2 tyX2 tyX2_ok nmX2 hown hK hP hD hS 0 rfl rfl 0 (by decide) hf_9 (fun _ h9 => h9) rfl (by decide +kernel) rfl rfl (Nat.le_of_ble_eq_true rfl) dX2_init_6 (fun H locs hP hD hS => ?_)
  have hP : va_P D vwCl ([(h0, .inr (2, [.int (0 : Int32), .null, .null, .null, .null, .null, .null, .null, .null, .null, .null]))]) H := hP
  have hD : va_D A ([(h0, .inr (2, [.int (0 : Int32), .null, .null, .null, .null, .null, .null, .null, .null, .null, .null]))]) := hD
  refine lv_aload_n hx hb dX2_init_9 rfl (lv_at hl 0 rfl) ?_
  refine lv_bipush (v := 24) hx hb dX2_init_10 (by decide +kernel) ?_
  refine tf_newa (atype := .int) (a0 := (24, .inl (fun _ => 0))) (N' := 24) hx hb (hts (.arrayClass .int) (by decide +kernel)) rfl hK hP hD hS hA 0 rfl tf_uI (fun _ => rfl) (by decide +kernel) (by decide +kernel) (by decide) (Nat.le_of_ble_eq_true rfl) (Nat.le_of_ble_eq_true rfl) dX2_init_12 (fun q21 H hP hD hS => ?_)
  have hP : va_P D vwCl ([(h0, .inr (2, [.int (0 : Int32), .null, .null, .null, .null, .null, .null, .null, .null, .null, .null])), (q21, .inl (cI, 24, .inl (fun _ => 0)))]) H := hP
  have hD : va_D A ([(h0, .inr (2, [.int (0 : Int32), .null, .null, .null, .null, .null, .null, .null, .null, .null, .null])), (q21, .inl (cI, 24, .inl (fun _ => 0)))]) := hD
  refine va_putF (D := D) (ci := 2) (v := .ref q21) (ty := .array .int) (C := RX2) (T := TX2) (N := 11) hx hb hts hn_X2 tyX2 tyX2_ok nmX2 hown hK hP hD hS 0 rfl rfl 1 (by decide) hf_15 (fun _ h9 => h9) rfl hin rfl (by decide +kernel) rfl rfl (Nat.le_of_ble_eq_true rfl) dX2_init_14 (fun H locs hP hD hS => ?_)
  have hP : va_P D vwCl ([(h0, .inr (2, [.int (0 : Int32), .ref q21, .null, .null, .null, .null, .null, .null, .null, .null, .null])), (q21, .inl (cI, 24, .inl (fun _ => 0)))]) H := hP
  have hD : va_D A ([(h0, .inr (2, [.int (0 : Int32), .ref q21, .null, .null, .null, .null, .null, .null, .null, .null, .null])), (q21, .inl (cI, 24, .inl (fun _ => 0)))]) := hD
  refine lv_aload_n hx hb dX2_init_17 rfl (lv_at hl 0 rfl) ?_
  refine lv_bipush (v := 24) hx hb dX2_init_18 (by decide +kernel) ?_
  refine tf_newa (atype := .int) (a0 := (24, .inl (fun _ => 0))) (N' := 24) hx hb (hts (.arrayClass .int) (by decide +kernel)) rfl hK hP hD hS hA 0 rfl tf_uI (fun _ => rfl) (by decide +kernel) (by decide +kernel) (by decide) (Nat.le_of_ble_eq_true rfl) (Nat.le_of_ble_eq_true rfl) dX2_init_20 (fun q22 H hP hD hS => ?_)
  have hP : va_P D vwCl ([(h0, .inr (2, [.int (0 : Int32), .ref q21, .null, .null, .null, .null, .null, .null, .null, .null, .null])), (q21, .inl (cI, 24, .inl (fun _ => 0))), (q22, .inl (cI, 24, .inl (fun _ => 0)))]) H := hP
  have hD : va_D A ([(h0, .inr (2, [.int (0 : Int32), .ref q21, .null, .null, .null, .null, .null, .null, .null, .null, .null])), (q21, .inl (cI, 24, .inl (fun _ => 0))), (q22, .inl (cI, 24, .inl (fun _ => 0)))]) := hD
  refine va_putF (D := D) (ci := 2) (v := .ref q22) (ty := .array .int) (C := RX2) (T := TX2) (N := 11) hx hb hts hn_X2 tyX2 tyX2_ok nmX2 hown hK hP hD hS 0 rfl rfl 2 (by decide) hf_19 (fun _ h9 => h9) rfl hin rfl (by decide +kernel) rfl rfl (Nat.le_of_ble_eq_true rfl) dX2_init_22 (fun H locs hP hD hS => ?_)
  have hP : va_P D vwCl ([(h0, .inr (2, [.int (0 : Int32), .ref q21, .ref q22, .null, .null, .null, .null, .null, .null, .null, .null])), (q21, .inl (cI, 24, .inl (fun _ => 0))), (q22, .inl (cI, 24, .inl (fun _ => 0)))]) H := hP
  have hD : va_D A ([(h0, .inr (2, [.int (0 : Int32), .ref q21, .ref q22, .null, .null, .null, .null, .null, .null, .null, .null])), (q21, .inl (cI, 24, .inl (fun _ => 0))), (q22, .inl (cI, 24, .inl (fun _ => 0)))]) := hD
  refine lv_aload_n hx hb dX2_init_25 rfl (lv_at hl 0 rfl) ?_
  refine lv_bipush (v := 24) hx hb dX2_init_26 (by decide +kernel) ?_
  refine tf_newa (atype := .int) (a0 := (24, .inl (fun _ => 0))) (N' := 24) hx hb (hts (.arrayClass .int) (by decide +kernel)) rfl hK hP hD hS hA 0 rfl tf_uI (fun _ => rfl) (by decide +kernel) (by decide +kernel) (by decide) (Nat.le_of_ble_eq_true rfl) (Nat.le_of_ble_eq_true rfl) dX2_init_28 (fun q23 H hP hD hS => ?_)
  have hP : va_P D vwCl ([(h0, .inr (2, [.int (0 : Int32), .ref q21, .ref q22, .null, .null, .null, .null, .null, .null, .null, .null])), (q21, .inl (cI, 24, .inl (fun _ => 0))), (q22, .inl (cI, 24, .inl (fun _ => 0))), (q23, .inl (cI, 24, .inl (fun _ => 0)))]) H := hP
  have hD : va_D A ([(h0, .inr (2, [.int (0 : Int32), .ref q21, .ref q22, .null, .null, .null, .null, .null, .null, .null, .null])), (q21, .inl (cI, 24, .inl (fun _ => 0))), (q22, .inl (cI, 24, .inl (fun _ => 0))), (q23, .inl (cI, 24, .inl (fun _ => 0)))]) := hD
  refine va_putF (D := D) (ci := 2) (v := .ref q23) (ty := .array .int) (C := RX2) (T := TX2) (N := 11) hx hb hts hn_X2 tyX2 tyX2_ok nmX2 hown hK hP hD hS 0 rfl rfl 3 (by decide) hf_22 (fun _ h9 => h9) rfl hin rfl (by decide +kernel) rfl rfl (Nat.le_of_ble_eq_true rfl) dX2_init_30 (fun H locs hP hD hS => ?_)
  have hP : va_P D vwCl ([(h0, .inr (2, [.int (0 : Int32), .ref q21, .ref q22, .ref q23, .null, .null, .null, .null, .null, .null, .null])), (q21, .inl (cI, 24, .inl (fun _ => 0))), (q22, .inl (cI, 24, .inl (fun _ => 0))), (q23, .inl (cI, 24, .inl (fun _ => 0)))]) H := hP
  have hD : va_D A ([(h0, .inr (2, [.int (0 : Int32), .ref q21, .ref q22, .ref q23, .null, .null, .null, .null, .null, .null, .null])), (q21, .inl (cI, 24, .inl (fun _ => 0))), (q22, .inl (cI, 24, .inl (fun _ => 0))), (q23, .inl (cI, 24, .inl (fun _ => 0)))]) := hD
  refine lv_aload_n hx hb dX2_init_33 rfl (lv_at hl 0 rfl) ?_
  refine lv_bipush (v := 24) hx hb dX2_init_34 (by decide +kernel) ?_
  refine tf_newa (atype := .int) (a0 := (24, .inl (fun _ => 0))) (N' := 24) hx hb (hts (.arrayClass .int) (by decide +kernel)) rfl hK hP hD hS hA 0 rfl tf_uI (fun _ => rfl) (by decide +kernel) (by decide +kernel) (by decide) (Nat.le_of_ble_eq_true rfl) (Nat.le_of_ble_eq_true rfl) dX2_init_36 (fun q24 H hP hD hS => ?_)
  have hP : va_P D vwCl ([(h0, .inr (2, [.int (0 : Int32), .ref q21, .ref q22, .ref q23, .null, .null, .null, .null, .null, .null, .null])), (q21, .inl (cI, 24, .inl (fun _ => 0))), (q22, .inl (cI, 24, .inl (fun _ => 0))), (q23, .inl (cI, 24, .inl (fun _ => 0))), (q24, .inl (cI, 24, .inl (fun _ => 0)))]) H := hP
  have hD : va_D A ([(h0, .inr (2, [.int (0 : Int32), .ref q21, .ref q22, .ref q23, .null, .null, .null, .null, .null, .null, .null])), (q21, .inl (cI, 24, .inl (fun _ => 0))), (q22, .inl (cI, 24, .inl (fun _ => 0))), (q23, .inl (cI, 24, .inl (fun _ => 0))), (q24, .inl (cI, 24, .inl (fun _ => 0)))]) := hD
  refine va_putF (D := D) (ci := 2) (v := .ref q24) (ty := .array .int) (C := RX2) (T := TX2) (N := 11) hx hb hts hn_X2 tyX2 tyX2_ok nmX2 hown hK hP hD hS 0 rfl rfl 4 (by decide) hf_25 (fun _ h9 => h9) rfl hin rfl (by decide +kernel) rfl rfl (Nat.le_of_ble_eq_true rfl) dX2_init_38 (fun H locs hP hD hS => ?_)
  have hP : va_P D vwCl ([(h0, .inr (2, [.int (0 : Int32), .ref q21, .ref q22, .ref q23, .ref q24, .null, .null, .null, .null, .null, .null])), (q21, .inl (cI, 24, .inl (fun _ => 0))), (q22, .inl (cI, 24, .inl (fun _ => 0))), (q23, .inl (cI, 24, .inl (fun _ => 0))), (q24, .inl (cI, 24, .inl (fun _ => 0)))]) H := hP
  have hD : va_D A ([(h0, .inr (2, [.int (0 : Int32), .ref q21, .ref q22, .ref q23, .ref q24, .null, .null, .null, .null, .null, .null])), (q21, .inl (cI, 24, .inl (fun _ => 0))), (q22, .inl (cI, 24, .inl (fun _ => 0))), (q23, .inl (cI, 24, .inl (fun _ => 0))), (q24, .inl (cI, 24, .inl (fun _ => 0)))]) := hD
  refine lv_aload_n hx hb dX2_init_41 rfl (lv_at hl 0 rfl) ?_
  refine lv_bipush (v := 24) hx hb dX2_init_42 (by decide +kernel) ?_
  refine tf_newa (atype := .int) (a0 := (24, .inl (fun _ => 0))) (N' := 24) hx hb (hts (.arrayClass .int) (by decide +kernel)) rfl hK hP hD hS hA 0 rfl tf_uI (fun _ => rfl) (by decide +kernel) (by decide +kernel) (by decide) (Nat.le_of_ble_eq_true rfl) (Nat.le_of_ble_eq_true rfl) dX2_init_44 (fun q25 H hP hD hS => ?_)
  have hP : va_P D vwCl ([(h0, .inr (2, [.int (0 : Int32), .ref q21, .ref q22, .ref q23, .ref q24, .null, .null, .null, .null, .null, .null])), (q21, .inl (cI, 24, .inl (fun _ => 0))), (q22, .inl (cI, 24, .inl (fun _ => 0))), (q23, .inl (cI, 24, .inl (fun _ => 0))), (q24, .inl (cI, 24, .inl (fun _ => 0))), (q25, .inl (cI, 24, .inl (fun _ => 0)))]) H := hP
  have hD : va_D A ([(h0, .inr (2, [.int (0 : Int32), .ref q21, .ref q22, .ref q23, .ref q24, .null, .null, .null, .null, .null, .null])), (q21, .inl (cI, 24, .inl (fun _ => 0))), (q22, .inl (cI, 24, .inl (fun _ => 0))), (q23, .inl (cI, 24, .inl (fun _ => 0))), (q24, .inl (cI, 24, .inl (fun _ => 0))), (q25, .inl (cI, 24, .inl (fun _ => 0)))]) := hD
  refine va_putF (D := D) (ci := 2) (v := .ref q25) (ty := .array .int) (C := RX2) (T := TX2) (N := 11) hx hb hts hn_X2 tyX2 tyX2_ok nmX2 hown hK hP hD hS 0 rfl rfl 5 (by decide) hf_28 (fun _ h9 => h9) rfl hin rfl (by decide +kernel) rfl rfl (Nat.le_of_ble_eq_true rfl) dX2_init_46 (fun H locs hP hD hS => ?_)
  have hP : va_P D vwCl ([(h0, .inr (2, [.int (0 : Int32), .ref q21, .ref q22, .ref q23, .ref q24, .ref q25, .null, .null, .null, .null, .null])), (q21, .inl (cI, 24, .inl (fun _ => 0))), (q22, .inl (cI, 24, .inl (fun _ => 0))), (q23, .inl (cI, 24, .inl (fun _ => 0))), (q24, .inl (cI, 24, .inl (fun _ => 0))), (q25, .inl (cI, 24, .inl (fun _ => 0)))]) H := hP
  have hD : va_D A ([(h0, .inr (2, [.int (0 : Int32), .ref q21, .ref q22, .ref q23, .ref q24, .ref q25, .null, .null, .null, .null, .null])), (q21, .inl (cI, 24, .inl (fun _ => 0))), (q22, .inl (cI, 24, .inl (fun _ => 0))), (q23, .inl (cI, 24, .inl (fun _ => 0))), (q24, .inl (cI, 24, .inl (fun _ => 0))), (q25, .inl (cI, 24, .inl (fun _ => 0)))]) := hD
  refine lv_aload_n hx hb dX2_init_49 rfl (lv_at hl 0 rfl) ?_
  refine lv_bipush (v := 24) hx hb dX2_init_50 (by decide +kernel) ?_
  refine tf_newa (atype := .int) (a0 := (24, .inl (fun _ => 0))) (N' := 24) hx hb (hts (.arrayClass .int) (by decide +kernel)) rfl hK hP hD hS hA 0 rfl tf_uI (fun _ => rfl) (by decide +kernel) (by decide +kernel) (by decide) (Nat.le_of_ble_eq_true rfl) (Nat.le_of_ble_eq_true rfl) dX2_init_52 (fun q26 H hP hD hS => ?_)
  have hP : va_P D vwCl ([(h0, .inr (2, [.int (0 : Int32), .ref q21, .ref q22, .ref q23, .ref q24, .ref q25, .null, .null, .null, .null, .null])), (q21, .inl (cI, 24, .inl (fun _ => 0))), (q22, .inl (cI, 24, .inl (fun _ => 0))), (q23, .inl (cI, 24, .inl (fun _ => 0))), (q24, .inl (cI, 24, .inl (fun _ => 0))), (q25, .inl (cI, 24, .inl (fun _ => 0))), (q26, .inl (cI, 24, .inl (fun _ => 0)))]) H := hP
  have hD : va_D A ([(h0, .inr (2, [.int (0 : Int32), .ref q21, .ref q22, .ref q23, .ref q24, .ref q25, .null, .null, .null, .null, .null])), (q21, .inl (cI, 24, .inl (fun _ => 0))), (q22, .inl (cI, 24, .inl (fun _ => 0))), (q23, .inl (cI, 24, .inl (fun _ => 0))), (q24, .inl (cI, 24, .inl (fun _ => 0))), (q25, .inl (cI, 24, .inl (fun _ => 0))), (q26, .inl (cI, 24, .inl (fun _ => 0)))]) := hD
  refine va_putF (D := D) (ci := 2) (v := .ref q26) (ty := .array .int) (C := RX2) (T := TX2) (N := 11) hx hb hts hn_X2 tyX2 tyX2_ok nmX2 hown hK hP hD hS 0 rfl rfl 6 (by decide) hf_31 (fun _ h9 => h9) rfl hin rfl (by decide +kernel) rfl rfl (Nat.le_of_ble_eq_true rfl) dX2_init_54 (fun H locs hP hD hS => ?_)
  have hP : va_P D vwCl ([(h0, .inr (2, [.int (0 : Int32), .ref q21, .ref q22, .ref q23, .ref q24, .ref q25, .ref q26, .null, .null, .null, .null])), (q21, .inl (cI, 24, .inl (fun _ => 0))), (q22, .inl (cI, 24, .inl (fun _ => 0))), (q23, .inl (cI, 24, .inl (fun _ => 0))), (q24, .inl (cI, 24, .inl (fun _ => 0))), (q25, .inl (cI, 24, .inl (fun _ => 0))), (q26, .inl (cI, 24, .inl (fun _ => 0)))]) H := hP
  have hD : va_D A ([(h0, .inr (2, [.int (0 : Int32), .ref q21, .ref q22, .ref q23, .ref q24, .ref q25, .ref q26, .null, .null, .null, .null])), (q21, .inl (cI, 24, .inl (fun _ => 0))), (q22, .inl (cI, 24, .inl (fun _ => 0))), (q23, .inl (cI, 24, .inl (fun _ => 0))), (q24, .inl (cI, 24, .inl (fun _ => 0))), (q25, .inl (cI, 24, .inl (fun _ => 0))), (q26, .inl (cI, 24, .inl (fun _ => 0)))]) := hD
  refine lv_aload_n hx hb dX2_init_57 rfl (lv_at hl 0 rfl) ?_
  refine lv_bipush (v := 24) hx hb dX2_init_58 (by decide +kernel) ?_
  refine tf_newa (atype := .int) (a0 := (24, .inl (fun _ => 0))) (N' := 24) hx hb (hts (.arrayClass .int) (by decide +kernel)) rfl hK hP hD hS hA 0 rfl tf_uI (fun _ => rfl) (by decide +kernel) (by decide +kernel) (by decide) (Nat.le_of_ble_eq_true rfl) (Nat.le_of_ble_eq_true rfl) dX2_init_60 (fun q27 H hP hD hS => ?_)
  have hP : va_P D vwCl ([(h0, .inr (2, [.int (0 : Int32), .ref q21, .ref q22, .ref q23, .ref q24, .ref q25, .ref q26, .null, .null, .null, .null])), (q21, .inl (cI, 24, .inl (fun _ => 0))), (q22, .inl (cI, 24, .inl (fun _ => 0))), (q23, .inl (cI, 24, .inl (fun _ => 0))), (q24, .inl (cI, 24, .inl (fun _ => 0))), (q25, .inl (cI, 24, .inl (fun _ => 0))), (q26, .inl (cI, 24, .inl (fun _ => 0))), (q27, .inl (cI, 24, .inl (fun _ => 0)))]) H := hP
  have hD : va_D A ([(h0, .inr (2, [.int (0 : Int32), .ref q21, .ref q22, .ref q23, .ref q24, .ref q25, .ref q26, .null, .null, .null, .null])), (q21, .inl (cI, 24, .inl (fun _ => 0))), (q22, .inl (cI, 24, .inl (fun _ => 0))), (q23, .inl (cI, 24, .inl (fun _ => 0))), (q24, .inl (cI, 24, .inl (fun _ => 0))), (q25, .inl (cI, 24, .inl (fun _ => 0))), (q26, .inl (cI, 24, .inl (fun _ => 0))), (q27, .inl (cI, 24, .inl (fun _ => 0)))]) := hD
  refine va_putF (D := D) (ci := 2) (v := .ref q27) (ty := .array .int) (C := RX2) (T := TX2) (N := 11) hx hb hts hn_X2 tyX2 tyX2_ok nmX2 hown hK hP hD hS 0 rfl rfl 7 (by decide) hf_34 (fun _ h9 => h9) rfl hin rfl (by decide +kernel) rfl rfl (Nat.le_of_ble_eq_true rfl) dX2_init_62 (fun H locs hP hD hS => ?_)
  have hP : va_P D vwCl ([(h0, .inr (2, [.int (0 : Int32), .ref q21, .ref q22, .ref q23, .ref q24, .ref q25, .ref q26, .ref q27, .null, .null, .null])), (q21, .inl (cI, 24, .inl (fun _ => 0))), (q22, .inl (cI, 24, .inl (fun _ => 0))), (q23, .inl (cI, 24, .inl (fun _ => 0))), (q24, .inl (cI, 24, .inl (fun _ => 0))), (q25, .inl (cI, 24, .inl (fun _ => 0))), (q26, .inl (cI, 24, .inl (fun _ => 0))), (q27, .inl (cI, 24, .inl (fun _ => 0)))]) H := hP
  have hD : va_D A ([(h0, .inr (2, [.int (0 : Int32), .ref q21, .ref q22, .ref q23, .ref q24, .ref q25, .ref q26, .ref q27, .null, .null, .null])), (q21, .inl (cI, 24, .inl (fun _ => 0))), (q22, .inl (cI, 24, .inl (fun _ => 0))), (q23, .inl (cI, 24, .inl (fun _ => 0))), (q24, .inl (cI, 24, .inl (fun _ => 0))), (q25, .inl (cI, 24, .inl (fun _ => 0))), (q26, .inl (cI, 24, .inl (fun _ => 0))), (q27, .inl (cI, 24, .inl (fun _ => 0)))]) := hD
  refine lv_aload_n hx hb dX2_init_65 rfl (lv_at hl 0 rfl) ?_
  refine lv_bipush (v := 24) hx hb dX2_init_66 (by decide +kernel) ?_
  refine tf_newa (atype := .int) (a0 := (24, .inl (fun _ => 0))) (N' := 24) hx hb (hts (.arrayClass .int) (by decide +kernel)) rfl hK hP hD hS hA 0 rfl tf_uI (fun _ => rfl) (by decide +kernel) (by decide +kernel) (by decide) (Nat.le_of_ble_eq_true rfl) (Nat.le_of_ble_eq_true rfl) dX2_init_68 (fun q28 H hP hD hS => ?_)
  have hP : va_P D vwCl ([(h0, .inr (2, [.int (0 : Int32), .ref q21, .ref q22, .ref q23, .ref q24, .ref q25, .ref q26, .ref q27, .null, .null, .null])), (q21, .inl (cI, 24, .inl (fun _ => 0))), (q22, .inl (cI, 24, .inl (fun _ => 0))), (q23, .inl (cI, 24, .inl (fun _ => 0))), (q24, .inl (cI, 24, .inl (fun _ => 0))), (q25, .inl (cI, 24, .inl (fun _ => 0))), (q26, .inl (cI, 24, .inl (fun _ => 0))), (q27, .inl (cI, 24, .inl (fun _ => 0))), (q28, .inl (cI, 24, .inl (fun _ => 0)))]) H := hP
  have hD : va_D A ([(h0, .inr (2, [.int (0 : Int32), .ref q21, .ref q22, .ref q23, .ref q24, .ref q25, .ref q26, .ref q27, .null, .null, .null])), (q21, .inl (cI, 24, .inl (fun _ => 0))), (q22, .inl (cI, 24, .inl (fun _ => 0))), (q23, .inl (cI, 24, .inl (fun _ => 0))), (q24, .inl (cI, 24, .inl (fun _ => 0))), (q25, .inl (cI, 24, .inl (fun _ => 0))), (q26, .inl (cI, 24, .inl (fun _ => 0))), (q27, .inl (cI, 24, .inl (fun _ => 0))), (q28, .inl (cI, 24, .inl (fun _ => 0)))]) := hD
  refine va_putF (D := D) (ci := 2) (v := .ref q28) (ty := .array .int) (C := RX2) (T := TX2) (N := 11) hx hb hts hn_X2 tyX2 tyX2_ok nmX2 hown hK hP hD hS 0 rfl rfl 8 (by decide) hf_37 (fun _ h9 => h9) rfl hin rfl (by decide +kernel) rfl rfl (Nat.le_of_ble_eq_true rfl) dX2_init_70 (fun H locs hP hD hS => ?_)
  have hP : va_P D vwCl ([(h0, .inr (2, [.int (0 : Int32), .ref q21, .ref q22, .ref q23, .ref q24, .ref q25, .ref q26, .ref q27, .ref q28, .null, .null])), (q21, .inl (cI, 24, .inl (fun _ => 0))), (q22, .inl (cI, 24, .inl (fun _ => 0))), (q23, .inl (cI, 24, .inl (fun _ => 0))), (q24, .inl (cI, 24, .inl (fun _ => 0))), (q25, .inl (cI, 24, .inl (fun _ => 0))), (q26, .inl (cI, 24, .inl (fun _ => 0))), (q27, .inl (cI, 24, .inl (fun _ => 0))), (q28, .inl (cI, 24, .inl (fun _ => 0)))]) H := hP
  have hD : va_D A ([(h0, .inr (2, [.int (0 : Int32), .ref q21, .ref q22, .ref q23, .ref q24, .ref q25, .ref q26, .ref q27, .ref q28, .null, .null])), (q21, .inl (cI, 24, .inl (fun _ => 0))), (q22, .inl (cI, 24, .inl (fun _ => 0))), (q23, .inl (cI, 24, .inl (fun _ => 0))), (q24, .inl (cI, 24, .inl (fun _ => 0))), (q25, .inl (cI, 24, .inl (fun _ => 0))), (q26, .inl (cI, 24, .inl (fun _ => 0))), (q27, .inl (cI, 24, .inl (fun _ => 0))), (q28, .inl (cI, 24, .inl (fun _ => 0)))]) := hD
  refine lv_aload_n hx hb dX2_init_73 rfl (lv_at hl 0 rfl) ?_
  refine lv_bipush (v := 24) hx hb dX2_init_74 (by decide +kernel) ?_
  refine tf_newa (atype := .boolean) (a0 := (24, .inl (fun _ => 0))) (N' := 24) hx hb (hts (.arrayClass .boolean) (by decide +kernel)) rfl hK hP hD hS hA 1 rfl tf_uZ (fun _ => rfl) (by decide +kernel) (by decide +kernel) (by decide) (Nat.le_of_ble_eq_true rfl) (Nat.le_of_ble_eq_true rfl) dX2_init_76 (fun q29 H hP hD hS => ?_)
  have hP : va_P D vwCl ([(h0, .inr (2, [.int (0 : Int32), .ref q21, .ref q22, .ref q23, .ref q24, .ref q25, .ref q26, .ref q27, .ref q28, .null, .null])), (q21, .inl (cI, 24, .inl (fun _ => 0))), (q22, .inl (cI, 24, .inl (fun _ => 0))), (q23, .inl (cI, 24, .inl (fun _ => 0))), (q24, .inl (cI, 24, .inl (fun _ => 0))), (q25, .inl (cI, 24, .inl (fun _ => 0))), (q26, .inl (cI, 24, .inl (fun _ => 0))), (q27, .inl (cI, 24, .inl (fun _ => 0))), (q28, .inl (cI, 24, .inl (fun _ => 0))), (q29, .inl (cZ, 24, .inl (fun _ => 0)))]) H := hP
  have hD : va_D A ([(h0, .inr (2, [.int (0 : Int32), .ref q21, .ref q22, .ref q23, .ref q24, .ref q25, .ref q26, .ref q27, .ref q28, .null, .null])), (q21, .inl (cI, 24, .inl (fun _ => 0))), (q22, .inl (cI, 24, .inl (fun _ => 0))), (q23, .inl (cI, 24, .inl (fun _ => 0))), (q24, .inl (cI, 24, .inl (fun _ => 0))), (q25, .inl (cI, 24, .inl (fun _ => 0))), (q26, .inl (cI, 24, .inl (fun _ => 0))), (q27, .inl (cI, 24, .inl (fun _ => 0))), (q28, .inl (cI, 24, .inl (fun _ => 0))), (q29, .inl (cZ, 24, .inl (fun _ => 0)))]) := hD
  refine va_putF (D := D) (ci := 2) (v := .ref q29) (ty := .array .boolean) (C := RX2) (T := TX2) (N := 11) hx hb hts hn_X2 tyX2 tyX2_ok nmX2 hown hK hP hD hS 0 rfl rfl 9 (by decide) hf_40 (fun _ h9 => h9) rfl hin rfl (by decide +kernel) rfl rfl (Nat.le_of_ble_eq_true rfl) dX2_init_78 (fun H locs hP hD hS => ?_)
  have hP : va_P D vwCl ([(h0, .inr (2, [.int (0 : Int32), .ref q21, .ref q22, .ref q23, .ref q24, .ref q25, .ref q26, .ref q27, .ref q28, .ref q29, .null])), (q21, .inl (cI, 24, .inl (fun _ => 0))), (q22, .inl (cI, 24, .inl (fun _ => 0))), (q23, .inl (cI, 24, .inl (fun _ => 0))), (q24, .inl (cI, 24, .inl (fun _ => 0))), (q25, .inl (cI, 24, .inl (fun _ => 0))), (q26, .inl (cI, 24, .inl (fun _ => 0))), (q27, .inl (cI, 24, .inl (fun _ => 0))), (q28, .inl (cI, 24, .inl (fun _ => 0))), (q29, .inl (cZ, 24, .inl (fun _ => 0)))]) H := hP
  have hD : va_D A ([(h0, .inr (2, [.int (0 : Int32), .ref q21, .ref q22, .ref q23, .ref q24, .ref q25, .ref q26, .ref q27, .ref q28, .ref q29, .null])), (q21, .inl (cI, 24, .inl (fun _ => 0))), (q22, .inl (cI, 24, .inl (fun _ => 0))), (q23, .inl (cI, 24, .inl (fun _ => 0))), (q24, .inl (cI, 24, .inl (fun _ => 0))), (q25, .inl (cI, 24, .inl (fun _ => 0))), (q26, .inl (cI, 24, .inl (fun _ => 0))), (q27, .inl (cI, 24, .inl (fun _ => 0))), (q28, .inl (cI, 24, .inl (fun _ => 0))), (q29, .inl (cZ, 24, .inl (fun _ => 0)))]) := hD
  refine lv_aload_n hx hb dX2_init_81 rfl (lv_at hl 0 rfl) ?_
  refine lv_bipush (v := 48) hx hb dX2_init_82 (by decide +kernel) ?_
  refine tf_newa (atype := .int) (a0 := (48, .inl (fun _ => 0))) (N' := 48) hx hb (hts (.arrayClass .int) (by decide +kernel)) rfl hK hP hD hS hA 0 rfl tf_uI (fun _ => rfl) (by decide +kernel) (by decide +kernel) (by decide) (Nat.le_of_ble_eq_true rfl) (Nat.le_of_ble_eq_true rfl) dX2_init_84 (fun q30 H hP hD hS => ?_)
  have hP : va_P D vwCl ([(h0, .inr (2, [.int (0 : Int32), .ref q21, .ref q22, .ref q23, .ref q24, .ref q25, .ref q26, .ref q27, .ref q28, .ref q29, .null])), (q21, .inl (cI, 24, .inl (fun _ => 0))), (q22, .inl (cI, 24, .inl (fun _ => 0))), (q23, .inl (cI, 24, .inl (fun _ => 0))), (q24, .inl (cI, 24, .inl (fun _ => 0))), (q25, .inl (cI, 24, .inl (fun _ => 0))), (q26, .inl (cI, 24, .inl (fun _ => 0))), (q27, .inl (cI, 24, .inl (fun _ => 0))), (q28, .inl (cI, 24, .inl (fun _ => 0))), (q29, .inl (cZ, 24, .inl (fun _ => 0))), (q30, .inl (cI, 48, .inl (fun _ => 0)))]) H := hP
  have hD : va_D A ([(h0, .inr (2, [.int (0 : Int32), .ref q21, .ref q22, .ref q23, .ref q24, .ref q25, .ref q26, .ref q27, .ref q28, .ref q29, .null])), (q21, .inl (cI, 24, .inl (fun _ => 0))), (q22, .inl (cI, 24, .inl (fun _ => 0))), (q23, .inl (cI, 24, .inl (fun _ => 0))), (q24, .inl (cI, 24, .inl (fun _ => 0))), (q25, .inl (cI, 24, .inl (fun _ => 0))), (q26, .inl (cI, 24, .inl (fun _ => 0))), (q27, .inl (cI, 24, .inl (fun _ => 0))), (q28, .inl (cI, 24, .inl (fun _ => 0))), (q29, .inl (cZ, 24, .inl (fun _ => 0))), (q30, .inl (cI, 48, .inl (fun _ => 0)))]) := hD
  refine va_putF (D := D) (ci := 2) (v := .ref q30) (ty := .array .int) (C := RX2) (T := TX2) (N := 11) hx hb hts hn_X2 tyX2 tyX2_ok nmX2 hown hK hP hD hS 0 rfl rfl 10 (by decide) hf_44 (fun _ h9 => h9) rfl hin rfl (by decide +kernel) rfl rfl (Nat.le_of_ble_eq_true rfl) dX2_init_86 (fun H locs hP hD hS => ?_)
  have hP : va_P D vwCl ([(h0, .inr (2, [.int (0 : Int32), .ref q21, .ref q22, .ref q23, .ref q24, .ref q25, .ref q26, .ref q27, .ref q28, .ref q29, .ref q30])), (q21, .inl (cI, 24, .inl (fun _ => 0))), (q22, .inl (cI, 24, .inl (fun _ => 0))), (q23, .inl (cI, 24, .inl (fun _ => 0))), (q24, .inl (cI, 24, .inl (fun _ => 0))), (q25, .inl (cI, 24, .inl (fun _ => 0))), (q26, .inl (cI, 24, .inl (fun _ => 0))), (q27, .inl (cI, 24, .inl (fun _ => 0))), (q28, .inl (cI, 24, .inl (fun _ => 0))), (q29, .inl (cZ, 24, .inl (fun _ => 0))), (q30, .inl (cI, 48, .inl (fun _ => 0)))]) H := hP
  have hD : va_D A ([(h0, .inr (2, [.int (0 : Int32), .ref q21, .ref q22, .ref q23, .ref q24, .ref q25, .ref q26, .ref q27, .ref q28, .ref q29, .ref q30])), (q21, .inl (cI, 24, .inl (fun _ => 0))), (q22, .inl (cI, 24, .inl (fun _ => 0))), (q23, .inl (cI, 24, .inl (fun _ => 0))), (q24, .inl (cI, 24, .inl (fun _ => 0))), (q25, .inl (cI, 24, .inl (fun _ => 0))), (q26, .inl (cI, 24, .inl (fun _ => 0))), (q27, .inl (cI, 24, .inl (fun _ => 0))), (q28, .inl (cI, 24, .inl (fun _ => 0))), (q29, .inl (cZ, 24, .inl (fun _ => 0))), (q30, .inl (cI, 48, .inl (fun _ => 0)))]) := hD
  obtain ⟨ad, rfl, rfl, rfl, rfl, rfl, rfl, rfl, rfl, rfl, rfl, rfl⟩ : ∃ ad : Nat → Nat, ad 4 = h0 ∧ ad 21 = q21 ∧ ad 22 = q22 ∧ ad 23 = q23 ∧ ad 24 = q24 ∧ ad 25 = q25 ∧ ad 26 = q26 ∧ ad 27 = q27 ∧ ad 28 = q28 ∧ ad 29 = q29 ∧ ad 30 = q30 := ⟨fun i => match i with | 4 => h0 | 21 => q21 | 22 => q22 | 23 => q23 | 24 => q24 | 25 => q25 | 26 => q26 | 27 => q27 | 28 => q28 | 29 => q29 | 30 => q30 | _ => 0, rfl, rfl, rfl, rfl, rfl, rfl, rfl, rfl, rfl, rfl, rfl⟩
  have hP9 : va_P D vwCl (tf_w2 ad cI cZ tf_0) H := hP.sub [0, 1, 2, 3, 4, 5, 6, 7, 8, 9, 10] rfl
  have hD9 : va_D A (tf_w2 ad cI cZ tf_0) := hD.sub [0, 1, 2, 3, 4, 5, 6, 7, 8, 9, 10] (by decide) rfl
  refine W.widen (k := 10) (n := 264) (by decide) (by decide) ?_
  exact W.vret hx hb hr (fun t ht hW => ⟨⟨ad, rfl, rfl, by rw [ht]; exact hP9, hD9⟩, hS.F ht⟩) hS.2.2 dX2_init_89 hlocks

set_option maxHeartbeats 4000000 in
set_option maxRecDepth 100000 in
theorem kc_X3_init (l : Launch) (D : va_G) (cI cZ : ClassId) (h0 p1 p3 sz : Nat) : Met l yX3_init wsX3_init ({ frames := 1, cells := 4, slots := 246, locals := 20 }) (va_Pc [.ref h0, .ref p1, .ref p3] (fun U => U.heap.size = sz ∧ va_P D vwCl [(h0, .inr (3, [.null, .null, .null, .int 0, .null, .null, .null]))] U.heap ∧ va_K D vwCl [(cI, .int), (cZ, .boolean)] U ∧ tf_N tf_nest U ∧ va_D (fun _ => True) [(h0, .inr (3, [.null, .null, .null, .int 0, .null, .null, .null]))])) (va_Qv (fun (ad : Nat → Nat) => ad 6 = h0 ∧ ad 1 = p1 ∧ ad 3 = p3) (fun ad t => va_P D vwCl (tf_w3 ad cI cZ tf_0) t.heap ∧ va_D (va_A [(h0, .inr (3, [.null, .null, .null, .int 0, .null, .null, .null]))] sz) (tf_w3 ad cI cZ tf_0)) (va_A [(h0, .inr (3, [.null, .null, .null, .int 0, .null, .null, .null]))] sz)) 4 246 (va_A [(h0, .inr (3, [.null, .null, .null, .int 0, .null, .null, .null]))] sz) := by
  refine Met.ofW (cc := cX3_init) (maxL := 3) (ret := none) (by decide) rfl ?_
  intro p e s m args below meth c s₁ B hml hv
  obtain ⟨rfl, hsz, hP, hK, hN, hD0⟩ := hv
  have hx := B.exec
  have hb := B.bytes
  have hr := B.returns
  have hts := atoms_spec (ws := wsX3_init) B.pre
  have hown : s.vm.findClass RX3 = some m.cls := findClass_of_methodNamed B.named
  have hlocks := B.notSynchronized
  have hin : meth.name = "<init>" := (name_of_methodNamed B.named B.method).1
  subst hsz
  have hD := hD0.self (sz := s.heap.size)
  generalize hAe : va_A [(h0, .inr (3, [.null, .null, .null, .int 0, .null, .null, .null]))] s.heap.size = A at hD ⊢
  have hA : ∀ q : Nat, s.heap.size ≤ q → A q := fun q h => by rw [← hAe]; exact Or.inr h
  have hS : va_S A s.heap s.heap [] := va_S.rf
  have hl := lv_entry ([.ref h0, .ref p1, .ref p3]) (n := 3) (Nat.le_of_ble_eq_true rfl)
  rw [lg_entry_eq]
  generalize (lg_sl ([.ref h0, .ref p1, .ref p3]) ++ List.replicate (3 - (lg_sl ([.ref h0, .ref p1, .ref p3])).length) Slot.unset).toArray = ls at hl ⊢
  have hl : lv_has ls 3 [(0, .ref h0), (1, .ref p1), (2, .ref p3)] := hl
  have hn_X3 : ∀ w ∈ u_ws RX3 TX3 7, w ∈ wsX3_init := by decide +kernel
  have hf_9 := hts (.fieldLink RX3 9 "TypeFlow$Putting" "bound" "[I") (by decide +kernel)
  have hf_15 := hts (.fieldLink RX3 15 "TypeFlow$Putting" "fault" "I") (by decide +kernel)
  have hf_19 := hts (.fieldLink RX3 19 "TypeFlow$Putting" "alike" "[I") (by decide +kernel)
  have hf_22 := hts (.fieldLink RX3 22 "TypeFlow$Putting" "wanted" "[I") (by decide +kernel)
  have hf_25 := hts (.fieldLink RX3 25 "TypeFlow$Putting" "given" "[I") (by decide +kernel)
  have hf_28 := hts (.fieldLink RX3 28 "TypeFlow$Putting" "types" "LTypeFlow$Types;") (by decide +kernel)
  have hf_32 := hts (.fieldLink RX3 32 "TypeFlow$Putting" "functions" "LTypeFlow$Functions;") (by decide +kernel)
  refine lv_aload_n hx hb dX3_init_0 rfl (lv_at hl 0 rfl) ?_
  refine W.objInit hx hb hown (hts (.methodLink RX3 3 objectInit) (by decide +kernel)) (hts (.instanceMethod objectInit) (by decide +kernel)) (hts (.code objectInit ⟨#[0xb1]⟩ 1 none) (List.mem_of_getElem? (i := 3) rfl)) rfl (by rw [hml]; exact hl.1) rfl dX3_init_1 (Nat.le_of_ble_eq_true rfl) (Nat.le_of_ble_eq_true rfl) ?_
  refine W.eq (g2 := F0 m 4 ls []) rfl ?_
  refine lv_aload_n hx hb dX3_init_4 rfl (lv_at hl 0 rfl) ?_
  refine lv_iconst (v := 2) hx hb dX3_init_5 (by decide +kernel) ?_
  refine tf_newa (atype := .int) (a0 := (2, .inl (fun _ => 0))) (N' := 2) hx hb (hts (.arrayClass .int) (by decide +kernel)) rfl hK hP hD hS hA 0 rfl tf_uI (fun _ => rfl) (by decide +kernel) (by decide +kernel) (by decide) (Nat.le_of_ble_eq_true rfl) (Nat.le_of_ble_eq_true rfl) dX3_init_6 (fun q31 H hP hD hS => ?_)
  have hP : va_P D vwCl ([(h0, .inr (3, [.null, .null, .null, .int 0, .null, .null, .null])), (q31, .inl (cI, 2, .inl (fun _ => 0)))]) H := hP
  have hD : va_D A ([(h0, .inr (3, [.null, .null, .null, .int 0, .null, .null, .null])), (q31, .inl (cI, 2, .inl (fun _ => 0)))]) := hD
  refine va_putF (D := D) (ci := 3) (v := .ref q31) (ty := .array .int) (C := RX3) (T := TX3) (N := 7) hx hb hts hn_X3 tyX3 tyX3_ok nmX3 hown hK hP hD hS 0 rfl rfl 2 (by decide) hf_9 (fun _ h9 => h9) rfl hin rfl (by decide +kernel) rfl rfl (Nat.le_of_ble_eq_true rfl) dX3_init_8 (fun H locs hP hD hS => ?_)
  have hP : va_P D vwCl ([(h0, .inr (3, [.null, .null, .ref q31, .int 0, .null, .null, .null])), (q31, .inl (cI, 2, .inl (fun _ => 0)))]) H := hP
  have hD : va_D A ([(h0, .inr (3, [.null, .null, .ref q31, .int 0, .null, .null, .null])), (q31, .inl (cI, 2, .inl (fun _ => 0)))]) := hD
  refine lv_aload_n hx hb dX3_init_11 rfl (lv_at hl 0 rfl) ?_
  refine lv_iconst (v := 0) hx hb dX3_init_12 (by decide +kernel) ?_
  refine va_put (D := D) (ci := 3) (v := .int (0 : Int32)) (ty := .int) (C := RX3) (T := TX3) (N := 7) hx hb hts hn_X3 tyX3 tyX3_ok nmX3 hown hK hP hD hS 0 rfl rfl 3 (by decide) hf_15 (fun _ h9 => h9) rfl (by decide +kernel) rfl rfl (Nat.le_of_ble_eq_true rfl) dX3_init_13 (fun H locs hP hD hS => ?_)
  have hP : va_P D vwCl ([(h0, .inr (3, [.null, .null, .ref q31, .int (0 : Int32), .null, .null, .null])), (q31, .inl (cI, 2, .inl (fun _ => 0)))]) H := hP
  have hD : va_D A ([(h0, .inr (3, [.null, .null, .ref q31, .int (0 : Int32), .null, .null, .null])), (q31, .inl (cI, 2, .inl (fun _ => 0)))]) := hD
  refine lv_aload_n hx hb dX3_init_16 rfl (lv_at hl 0 rfl) ?_
  refine lv_bipush (v := 80) hx hb dX3_init_17 (by decide +kernel) ?_
  refine tf_newa (atype := .int) (a0 := (80, .inl (fun _ => 0))) (N' := 80) hx hb (hts (.arrayClass .int) (by decide +kernel)) rfl hK hP hD hS hA 0 rfl tf_uI (fun _ => rfl) (by decide +kernel) (by decide +kernel) (by decide) (Nat.le_of_ble_eq_true rfl) (Nat.le_of_ble_eq_true rfl) dX3_init_19 (fun q32 H hP hD hS => ?_)
  have hP : va_P D vwCl ([(h0, .inr (3, [.null, .null, .ref q31, .int (0 : Int32), .null, .null, .null])), (q31, .inl (cI, 2, .inl (fun _ => 0))), (q32, .inl (cI, 80, .inl (fun _ => 0)))]) H := hP
  have hD : va_D A ([(h0, .inr (3, [.null, .null, .ref q31, .int (0 : Int32), .null, .null, .null])), (q31, .inl (cI, 2, .inl (fun _ => 0))), (q32, .inl (cI, 80, .inl (fun _ => 0)))]) := hD
  refine va_putF (D := D) (ci := 3) (v := .ref q32) (ty := .array .int) (C := RX3) (T := TX3) (N := 7) hx hb hts hn_X3 tyX3 tyX3_ok nmX3 hown hK hP hD hS 0 rfl rfl 4 (by decide) hf_19 (fun _ h9 => h9) rfl hin rfl (by decide +kernel) rfl rfl (Nat.le_of_ble_eq_true rfl) dX3_init_21 (fun H locs hP hD hS => ?_)
  have hP : va_P D vwCl ([(h0, .inr (3, [.null, .null, .ref q31, .int (0 : Int32), .ref q32, .null, .null])), (q31, .inl (cI, 2, .inl (fun _ => 0))), (q32, .inl (cI, 80, .inl (fun _ => 0)))]) H := hP
  have hD : va_D A ([(h0, .inr (3, [.null, .null, .ref q31, .int (0 : Int32), .ref q32, .null, .null])), (q31, .inl (cI, 2, .inl (fun _ => 0))), (q32, .inl (cI, 80, .inl (fun _ => 0)))]) := hD
  refine lv_aload_n hx hb dX3_init_24 rfl (lv_at hl 0 rfl) ?_
  refine lv_bipush (v := 82) hx hb dX3_init_25 (by decide +kernel) ?_
  refine tf_newa (atype := .int) (a0 := (82, .inl (fun _ => 0))) (N' := 82) hx hb (hts (.arrayClass .int) (by decide +kernel)) rfl hK hP hD hS hA 0 rfl tf_uI (fun _ => rfl) (by decide +kernel) (by decide +kernel) (by decide) (Nat.le_of_ble_eq_true rfl) (Nat.le_of_ble_eq_true rfl) dX3_init_27 (fun q33 H hP hD hS => ?_)
  have hP : va_P D vwCl ([(h0, .inr (3, [.null, .null, .ref q31, .int (0 : Int32), .ref q32, .null, .null])), (q31, .inl (cI, 2, .inl (fun _ => 0))), (q32, .inl (cI, 80, .inl (fun _ => 0))), (q33, .inl (cI, 82, .inl (fun _ => 0)))]) H := hP
  have hD : va_D A ([(h0, .inr (3, [.null, .null, .ref q31, .int (0 : Int32), .ref q32, .null, .null])), (q31, .inl (cI, 2, .inl (fun _ => 0))), (q32, .inl (cI, 80, .inl (fun _ => 0))), (q33, .inl (cI, 82, .inl (fun _ => 0)))]) := hD
  refine va_putF (D := D) (ci := 3) (v := .ref q33) (ty := .array .int) (C := RX3) (T := TX3) (N := 7) hx hb hts hn_X3 tyX3 tyX3_ok nmX3 hown hK hP hD hS 0 rfl rfl 5 (by decide) hf_22 (fun _ h9 => h9) rfl hin rfl (by decide +kernel) rfl rfl (Nat.le_of_ble_eq_true rfl) dX3_init_29 (fun H locs hP hD hS => ?_)
  have hP : va_P D vwCl ([(h0, .inr (3, [.null, .null, .ref q31, .int (0 : Int32), .ref q32, .ref q33, .null])), (q31, .inl (cI, 2, .inl (fun _ => 0))), (q32, .inl (cI, 80, .inl (fun _ => 0))), (q33, .inl (cI, 82, .inl (fun _ => 0)))]) H := hP
  have hD : va_D A ([(h0, .inr (3, [.null, .null, .ref q31, .int (0 : Int32), .ref q32, .ref q33, .null])), (q31, .inl (cI, 2, .inl (fun _ => 0))), (q32, .inl (cI, 80, .inl (fun _ => 0))), (q33, .inl (cI, 82, .inl (fun _ => 0)))]) := hD
  refine lv_aload_n hx hb dX3_init_32 rfl (lv_at hl 0 rfl) ?_
  refine lv_bipush (v := 82) hx hb dX3_init_33 (by decide +kernel) ?_
  refine tf_newa (atype := .int) (a0 := (82, .inl (fun _ => 0))) (N' := 82) hx hb (hts (.arrayClass .int) (by decide +kernel)) rfl hK hP hD hS hA 0 rfl tf_uI (fun _ => rfl) (by decide +kernel) (by decide +kernel) (by decide) (Nat.le_of_ble_eq_true rfl) (Nat.le_of_ble_eq_true rfl) dX3_init_35 (fun q34 H hP hD hS => ?_)
  have hP : va_P D vwCl ([(h0, .inr (3, [.null, .null, .ref q31, .int (0 : Int32), .ref q32, .ref q33, .null])), (q31, .inl (cI, 2, .inl (fun _ => 0))), (q32, .inl (cI, 80, .inl (fun _ => 0))), (q33, .inl (cI, 82, .inl (fun _ => 0))), (q34, .inl (cI, 82, .inl (fun _ => 0)))]) H := hP
  have hD : va_D A ([(h0, .inr (3, [.null, .null, .ref q31, .int (0 : Int32), .ref q32, .ref q33, .null])), (q31, .inl (cI, 2, .inl (fun _ => 0))), (q32, .inl (cI, 80, .inl (fun _ => 0))), (q33, .inl (cI, 82, .inl (fun _ => 0))), (q34, .inl (cI, 82, .inl (fun _ => 0)))]) := hD
  refine va_putF (D := D) (ci := 3) (v := .ref q34) (ty := .array .int) (C := RX3) (T := TX3) (N := 7) hx hb hts hn_X3 tyX3 tyX3_ok nmX3 hown hK hP hD hS 0 rfl rfl 6 (by decide) hf_25 (fun _ h9 => h9) rfl hin rfl (by decide +kernel) rfl rfl (Nat.le_of_ble_eq_true rfl) dX3_init_37 (fun H locs hP hD hS => ?_)
  have hP : va_P D vwCl ([(h0, .inr (3, [.null, .null, .ref q31, .int (0 : Int32), .ref q32, .ref q33, .ref q34])), (q31, .inl (cI, 2, .inl (fun _ => 0))), (q32, .inl (cI, 80, .inl (fun _ => 0))), (q33, .inl (cI, 82, .inl (fun _ => 0))), (q34, .inl (cI, 82, .inl (fun _ => 0)))]) H := hP
  have hD : va_D A ([(h0, .inr (3, [.null, .null, .ref q31, .int (0 : Int32), .ref q32, .ref q33, .ref q34])), (q31, .inl (cI, 2, .inl (fun _ => 0))), (q32, .inl (cI, 80, .inl (fun _ => 0))), (q33, .inl (cI, 82, .inl (fun _ => 0))), (q34, .inl (cI, 82, .inl (fun _ => 0)))]) := hD
  refine lv_aload_n hx hb dX3_init_40 rfl (lv_at hl 0 rfl) ?_
  refine lv_aload_n hx hb dX3_init_41 rfl (lv_at hl 1 rfl) ?_
  refine va_putF (D := D) (ci := 3) (v := .ref p1) (ty := .object "TypeFlow$Types") (C := RX3) (T := TX3) (N := 7) hx hb hts hn_X3 tyX3 tyX3_ok nmX3 hown hK hP hD hS 0 rfl rfl 0 (by decide) hf_28 (fun _ h9 => h9) rfl hin rfl (by decide +kernel) rfl rfl (Nat.le_of_ble_eq_true rfl) dX3_init_42 (fun H locs hP hD hS => ?_)
  have hP : va_P D vwCl ([(h0, .inr (3, [.ref p1, .null, .ref q31, .int (0 : Int32), .ref q32, .ref q33, .ref q34])), (q31, .inl (cI, 2, .inl (fun _ => 0))), (q32, .inl (cI, 80, .inl (fun _ => 0))), (q33, .inl (cI, 82, .inl (fun _ => 0))), (q34, .inl (cI, 82, .inl (fun _ => 0)))]) H := hP
  have hD : va_D A ([(h0, .inr (3, [.ref p1, .null, .ref q31, .int (0 : Int32), .ref q32, .ref q33, .ref q34])), (q31, .inl (cI, 2, .inl (fun _ => 0))), (q32, .inl (cI, 80, .inl (fun _ => 0))), (q33, .inl (cI, 82, .inl (fun _ => 0))), (q34, .inl (cI, 82, .inl (fun _ => 0)))]) := hD
  refine lv_aload_n hx hb dX3_init_45 rfl (lv_at hl 0 rfl) ?_
  refine lv_aload_n hx hb dX3_init_46 rfl (lv_at hl 2 rfl) ?_
  refine va_putF (D := D) (ci := 3) (v := .ref p3) (ty := .object "TypeFlow$Functions") (C := RX3) (T := TX3) (N := 7) hx hb hts hn_X3 tyX3 tyX3_ok nmX3 hown hK hP hD hS 0 rfl rfl 1 (by decide) hf_32 (fun _ h9 => h9) rfl hin rfl (by decide +kernel) rfl rfl (Nat.le_of_ble_eq_true rfl) dX3_init_47 (fun H locs hP hD hS => ?_)
  have hP : va_P D vwCl ([(h0, .inr (3, [.ref p1, .ref p3, .ref q31, .int (0 : Int32), .ref q32, .ref q33, .ref q34])), (q31, .inl (cI, 2, .inl (fun _ => 0))), (q32, .inl (cI, 80, .inl (fun _ => 0))), (q33, .inl (cI, 82, .inl (fun _ => 0))), (q34, .inl (cI, 82, .inl (fun _ => 0)))]) H := hP
  have hD : va_D A ([(h0, .inr (3, [.ref p1, .ref p3, .ref q31, .int (0 : Int32), .ref q32, .ref q33, .ref q34])), (q31, .inl (cI, 2, .inl (fun _ => 0))), (q32, .inl (cI, 80, .inl (fun _ => 0))), (q33, .inl (cI, 82, .inl (fun _ => 0))), (q34, .inl (cI, 82, .inl (fun _ => 0)))]) := hD
  obtain ⟨ad, rfl, rfl, rfl, rfl, rfl, rfl, rfl⟩ : ∃ ad : Nat → Nat, ad 6 = h0 ∧ ad 31 = q31 ∧ ad 32 = q32 ∧ ad 33 = q33 ∧ ad 34 = q34 ∧ ad 1 = p1 ∧ ad 3 = p3 := ⟨fun i => match i with | 6 => h0 | 31 => q31 | 32 => q32 | 33 => q33 | 34 => q34 | 1 => p1 | 3 => p3 | _ => 0, rfl, rfl, rfl, rfl, rfl, rfl, rfl⟩
  have hP9 : va_P D vwCl (tf_w3 ad cI cZ tf_0) H := hP.sub [0, 1, 2, 3, 4] rfl
  have hD9 : va_D A (tf_w3 ad cI cZ tf_0) := hD.sub [0, 1, 2, 3, 4] (by decide) rfl
  refine W.widen (k := 4) (n := 246) (by decide) (by decide) ?_
  exact W.vret hx hb hr (fun t ht hW => ⟨⟨ad, rfl, ⟨rfl, rfl, rfl⟩, by rw [ht]; exact hP9, hD9⟩, hS.F ht⟩) hS.2.2 dX3_init_50 hlocks

set_option maxHeartbeats 4000000 in
set_option maxRecDepth 100000 in
theorem kc_X4_init (l : Launch) (D : va_G) (cI cZ : ClassId) (h0 sz : Nat) (z : tf_S) (h : fX4_init tf_0 = some z) : Met l yX4_init wsX4_init ({ frames := 1, cells := 8, slots := 504, locals := 24 }) (va_Pc [.ref h0] (fun U => U.heap.size = sz ∧ va_P D vwCl [(h0, .inr (4, [.int 0, .null, .null, .int 0, .null, .null, .null, .null, .null, .null]))] U.heap ∧ va_K D vwCl [(cI, .int), (cZ, .boolean)] U ∧ tf_N tf_nest U ∧ va_D (fun _ => True) [(h0, .inr (4, [.int 0, .null, .null, .int 0, .null, .null, .null, .null, .null, .null]))])) (va_Qv (fun (ad : Nat → Nat) => ad 1 = h0) (fun ad t => va_P D vwCl (tf_wt ad cI cZ z) t.heap ∧ va_D (va_A [(h0, .inr (4, [.int 0, .null, .null, .int 0, .null, .null, .null, .null, .null, .null]))] sz) (tf_wt ad cI cZ z)) (va_A [(h0, .inr (4, [.int 0, .null, .null, .int 0, .null, .null, .null, .null, .null, .null]))] sz)) 8 504 (va_A [(h0, .inr (4, [.int 0, .null, .null, .int 0, .null, .null, .null, .null, .null, .null]))] sz) := by
  refine Met.ofW (cc := cX4_init) (maxL := 1) (ret := none) (by decide) rfl ?_
  intro p e s m args below meth c s₁ B hml hv
  obtain ⟨rfl, hsz, hP, hK, hN, hD0⟩ := hv
  have hx := B.exec
  have hb := B.bytes
  have hr := B.returns
  have hts := atoms_spec (ws := wsX4_init) B.pre
  have hown : s.vm.findClass RX4 = some m.cls := findClass_of_methodNamed B.named
  have hlocks := B.notSynchronized
  have hin : meth.name = "<init>" := (name_of_methodNamed B.named B.method).1
  subst hsz
  have hD := hD0.self (sz := s.heap.size)
  generalize hAe : va_A [(h0, .inr (4, [.int 0, .null, .null, .int 0, .null, .null, .null, .null, .null, .null]))] s.heap.size = A at hD ⊢
  have hA : ∀ q : Nat, s.heap.size ≤ q → A q := fun q h => by rw [← hAe]; exact Or.inr h
  have hS : va_S A s.heap s.heap [] := va_S.rf
  have hl := lv_entry ([.ref h0]) (n := 1) (Nat.le_of_ble_eq_true rfl)
  rw [lg_entry_eq]
  generalize (lg_sl ([.ref h0]) ++ List.replicate (1 - (lg_sl ([.ref h0])).length) Slot.unset).toArray = ls at hl ⊢
  have hl : lv_has ls 1 [(0, .ref h0)] := hl
  have hn_X4 : ∀ w ∈ u_ws RX4 TX4 10, w ∈ wsX4_init := by decide +kernel
  have hf_9 := hts (.fieldLink RX4 9 "TypeFlow$Types" "classes" "I") (by decide +kernel)
  have hf_15 := hts (.fieldLink RX4 15 "TypeFlow$Types" "variables" "[I") (by decide +kernel)
  have hf_19 := hts (.fieldLink RX4 19 "TypeFlow$Types" "parent" "[I") (by decide +kernel)
  have hf_22 := hts (.fieldLink RX4 22 "TypeFlow$Types" "size" "I") (by decide +kernel)
  have hf_25 := hts (.fieldLink RX4 25 "TypeFlow$Types" "ofClass" "[I") (by decide +kernel)
  have hf_28 := hts (.fieldLink RX4 28 "TypeFlow$Types" "first" "[I") (by decide +kernel)
  have hf_31 := hts (.fieldLink RX4 31 "TypeFlow$Types" "second" "[I") (by decide +kernel)
  have hf_34 := hts (.fieldLink RX4 34 "TypeFlow$Types" "within" "[I") (by decide +kernel)
  have hf_37 := hts (.fieldLink RX4 37 "TypeFlow$Types" "image" "[I") (by decide +kernel)
  have hf_40 := hts (.fieldLink RX4 40 "TypeFlow$Types" "path" "[I") (by decide +kernel)
  refine lv_aload_n hx hb dX4_init_0 rfl (lv_at hl 0 rfl) ?_
  refine W.objInit hx hb hown (hts (.methodLink RX4 3 objectInit) (by decide +kernel)) (hts (.instanceMethod objectInit) (by decide +kernel)) (hts (.code objectInit ⟨#[0xb1]⟩ 1 none) (List.mem_of_getElem? (i := 3) rfl)) rfl (by rw [hml]; exact hl.1) rfl dX4_init_1 (Nat.le_of_ble_eq_true rfl) (Nat.le_of_ble_eq_true rfl) ?_
  refine W.eq (g2 := F0 m 4 ls []) rfl ?_
  refine lv_aload_n hx hb dX4_init_4 rfl (lv_at hl 0 rfl) ?_
  refine lv_iconst (v := 0) hx hb dX4_init_5 (by decide +kernel) ?_
  refine va_put (D := D) (ci := 4) (v := .int (0 : Int32)) (ty := .int) (C := RX4) (T := TX4) (N := 10) hx hb hts hn_X4 tyX4 tyX4_ok nmX4 hown hK hP hD hS 0 rfl rfl 0 (by decide) hf_9 (fun _ h9 => h9) rfl (by decide +kernel) rfl rfl (Nat.le_of_ble_eq_true rfl) dX4_init_6 (fun H locs hP hD hS => ?_)
  have hP : va_P D vwCl ([(h0, .inr (4, [.int (0 : Int32), .null, .null, .int 0, .null, .null, .null, .null, .null, .null]))]) H := hP
  have hD : va_D A ([(h0, .inr (4, [.int (0 : Int32), .null, .null, .int 0, .null, .null, .null, .null, .null, .null]))]) := hD
  refine lv_aload_n hx hb dX4_init_9 rfl (lv_at hl 0 rfl) ?_
  refine lv_bipush (v := 12) hx hb dX4_init_10 (by decide +kernel) ?_
  refine tf_newa (atype := .int) (a0 := (12, .inl (fun _ => 0))) (N' := 12) hx hb (hts (.arrayClass .int) (by decide +kernel)) rfl hK hP hD hS hA 0 rfl tf_uI (fun _ => rfl) (by decide +kernel) (by decide +kernel) (by decide) (Nat.le_of_ble_eq_true rfl) (Nat.le_of_ble_eq_true rfl) dX4_init_12 (fun q7 H hP hD hS => ?_)
  have hP : va_P D vwCl ([(h0, .inr (4, [.int (0 : Int32), .null, .null, .int 0, .null, .null, .null, .null, .null, .null])), (q7, .inl (cI, 12, .inl (fun _ => 0)))]) H := hP
  have hD : va_D A ([(h0, .inr (4, [.int (0 : Int32), .null, .null, .int 0, .null, .null, .null, .null, .null, .null])), (q7, .inl (cI, 12, .inl (fun _ => 0)))]) := hD
  refine va_putF (D := D) (ci := 4) (v := .ref q7) (ty := .array .int) (C := RX4) (T := TX4) (N := 10) hx hb hts hn_X4 tyX4 tyX4_ok nmX4 hown hK hP hD hS 0 rfl rfl 1 (by decide) hf_15 (fun _ h9 => h9) rfl hin rfl (by decide +kernel) rfl rfl (Nat.le_of_ble_eq_true rfl) dX4_init_14 (fun H locs hP hD hS => ?_)
  have hP : va_P D vwCl ([(h0, .inr (4, [.int (0 : Int32), .ref q7, .null, .int 0, .null, .null, .null, .null, .null, .null])), (q7, .inl (cI, 12, .inl (fun _ => 0)))]) H := hP
  have hD : va_D A ([(h0, .inr (4, [.int (0 : Int32), .ref q7, .null, .int 0, .null, .null, .null, .null, .null, .null])), (q7, .inl (cI, 12, .inl (fun _ => 0)))]) := hD
  refine lv_aload_n hx hb dX4_init_17 rfl (lv_at hl 0 rfl) ?_
  refine lv_bipush (v := 12) hx hb dX4_init_18 (by decide +kernel) ?_
  refine tf_newa (atype := .int) (a0 := (12, .inl (fun _ => 0))) (N' := 12) hx hb (hts (.arrayClass .int) (by decide +kernel)) rfl hK hP hD hS hA 0 rfl tf_uI (fun _ => rfl) (by decide +kernel) (by decide +kernel) (by decide) (Nat.le_of_ble_eq_true rfl) (Nat.le_of_ble_eq_true rfl) dX4_init_20 (fun q8 H hP hD hS => ?_)
  have hP : va_P D vwCl ([(h0, .inr (4, [.int (0 : Int32), .ref q7, .null, .int 0, .null, .null, .null, .null, .null, .null])), (q7, .inl (cI, 12, .inl (fun _ => 0))), (q8, .inl (cI, 12, .inl (fun _ => 0)))]) H := hP
  have hD : va_D A ([(h0, .inr (4, [.int (0 : Int32), .ref q7, .null, .int 0, .null, .null, .null, .null, .null, .null])), (q7, .inl (cI, 12, .inl (fun _ => 0))), (q8, .inl (cI, 12, .inl (fun _ => 0)))]) := hD
  refine va_putF (D := D) (ci := 4) (v := .ref q8) (ty := .array .int) (C := RX4) (T := TX4) (N := 10) hx hb hts hn_X4 tyX4 tyX4_ok nmX4 hown hK hP hD hS 0 rfl rfl 2 (by decide) hf_19 (fun _ h9 => h9) rfl hin rfl (by decide +kernel) rfl rfl (Nat.le_of_ble_eq_true rfl) dX4_init_22 (fun H locs hP hD hS => ?_)
  have hP : va_P D vwCl ([(h0, .inr (4, [.int (0 : Int32), .ref q7, .ref q8, .int 0, .null, .null, .null, .null, .null, .null])), (q7, .inl (cI, 12, .inl (fun _ => 0))), (q8, .inl (cI, 12, .inl (fun _ => 0)))]) H := hP
  have hD : va_D A ([(h0, .inr (4, [.int (0 : Int32), .ref q7, .ref q8, .int 0, .null, .null, .null, .null, .null, .null])), (q7, .inl (cI, 12, .inl (fun _ => 0))), (q8, .inl (cI, 12, .inl (fun _ => 0)))]) := hD
  refine lv_aload_n hx hb dX4_init_25 rfl (lv_at hl 0 rfl) ?_
  refine lv_iconst (v := 0) hx hb dX4_init_26 (by decide +kernel) ?_
  refine va_put (D := D) (ci := 4) (v := .int (0 : Int32)) (ty := .int) (C := RX4) (T := TX4) (N := 10) hx hb hts hn_X4 tyX4 tyX4_ok nmX4 hown hK hP hD hS 0 rfl rfl 3 (by decide) hf_22 (fun _ h9 => h9) rfl (by decide +kernel) rfl rfl (Nat.le_of_ble_eq_true rfl) dX4_init_27 (fun H locs hP hD hS => ?_)
  have hP : va_P D vwCl ([(h0, .inr (4, [.int (0 : Int32), .ref q7, .ref q8, .int (0 : Int32), .null, .null, .null, .null, .null, .null])), (q7, .inl (cI, 12, .inl (fun _ => 0))), (q8, .inl (cI, 12, .inl (fun _ => 0)))]) H := hP
  have hD : va_D A ([(h0, .inr (4, [.int (0 : Int32), .ref q7, .ref q8, .int (0 : Int32), .null, .null, .null, .null, .null, .null])), (q7, .inl (cI, 12, .inl (fun _ => 0))), (q8, .inl (cI, 12, .inl (fun _ => 0)))]) := hD
  refine lv_aload_n hx hb dX4_init_30 rfl (lv_at hl 0 rfl) ?_
  refine lv_bipush (v := 80) hx hb dX4_init_31 (by decide +kernel) ?_
  refine tf_newa (atype := .int) (a0 := (80, .inl (fun _ => 0))) (N' := 80) hx hb (hts (.arrayClass .int) (by decide +kernel)) rfl hK hP hD hS hA 0 rfl tf_uI (fun _ => rfl) (by decide +kernel) (by decide +kernel) (by decide) (Nat.le_of_ble_eq_true rfl) (Nat.le_of_ble_eq_true rfl) dX4_init_33 (fun q9 H hP hD hS => ?_)
  have hP : va_P D vwCl ([(h0, .inr (4, [.int (0 : Int32), .ref q7, .ref q8, .int (0 : Int32), .null, .null, .null, .null, .null, .null])), (q7, .inl (cI, 12, .inl (fun _ => 0))), (q8, .inl (cI, 12, .inl (fun _ => 0))), (q9, .inl (cI, 80, .inl (fun _ => 0)))]) H := hP
  have hD : va_D A ([(h0, .inr (4, [.int (0 : Int32), .ref q7, .ref q8, .int (0 : Int32), .null, .null, .null, .null, .null, .null])), (q7, .inl (cI, 12, .inl (fun _ => 0))), (q8, .inl (cI, 12, .inl (fun _ => 0))), (q9, .inl (cI, 80, .inl (fun _ => 0)))]) := hD
  refine va_putF (D := D) (ci := 4) (v := .ref q9) (ty := .array .int) (C := RX4) (T := TX4) (N := 10) hx hb hts hn_X4 tyX4 tyX4_ok nmX4 hown hK hP hD hS 0 rfl rfl 4 (by decide) hf_25 (fun _ h9 => h9) rfl hin rfl (by decide +kernel) rfl rfl (Nat.le_of_ble_eq_true rfl) dX4_init_35 (fun H locs hP hD hS => ?_)
  have hP : va_P D vwCl ([(h0, .inr (4, [.int (0 : Int32), .ref q7, .ref q8, .int (0 : Int32), .ref q9, .null, .null, .null, .null, .null])), (q7, .inl (cI, 12, .inl (fun _ => 0))), (q8, .inl (cI, 12, .inl (fun _ => 0))), (q9, .inl (cI, 80, .inl (fun _ => 0)))]) H := hP
  have hD : va_D A ([(h0, .inr (4, [.int (0 : Int32), .ref q7, .ref q8, .int (0 : Int32), .ref q9, .null, .null, .null, .null, .null])), (q7, .inl (cI, 12, .inl (fun _ => 0))), (q8, .inl (cI, 12, .inl (fun _ => 0))), (q9, .inl (cI, 80, .inl (fun _ => 0)))]) := hD
  refine lv_aload_n hx hb dX4_init_38 rfl (lv_at hl 0 rfl) ?_
  refine lv_bipush (v := 80) hx hb dX4_init_39 (by decide +kernel) ?_
  refine tf_newa (atype := .int) (a0 := (80, .inl (fun _ => 0))) (N' := 80) hx hb (hts (.arrayClass .int) (by decide +kernel)) rfl hK hP hD hS hA 0 rfl tf_uI (fun _ => rfl) (by decide +kernel) (by decide +kernel) (by decide) (Nat.le_of_ble_eq_true rfl) (Nat.le_of_ble_eq_true rfl) dX4_init_41 (fun q10 H hP hD hS => ?_)
  have hP : va_P D vwCl ([(h0, .inr (4, [.int (0 : Int32), .ref q7, .ref q8, .int (0 : Int32), .ref q9, .null, .null, .null, .null, .null])), (q7, .inl (cI, 12, .inl (fun _ => 0))), (q8, .inl (cI, 12, .inl (fun _ => 0))), (q9, .inl (cI, 80, .inl (fun _ => 0))), (q10, .inl (cI, 80, .inl (fun _ => 0)))]) H := hP
  have hD : va_D A ([(h0, .inr (4, [.int (0 : Int32), .ref q7, .ref q8, .int (0 : Int32), .ref q9, .null, .null, .null, .null, .null])), (q7, .inl (cI, 12, .inl (fun _ => 0))), (q8, .inl (cI, 12, .inl (fun _ => 0))), (q9, .inl (cI, 80, .inl (fun _ => 0))), (q10, .inl (cI, 80, .inl (fun _ => 0)))]) := hD
  refine va_putF (D := D) (ci := 4) (v := .ref q10) (ty := .array .int) (C := RX4) (T := TX4) (N := 10) hx hb hts hn_X4 tyX4 tyX4_ok nmX4 hown hK hP hD hS 0 rfl rfl 5 (by decide) hf_28 (fun _ h9 => h9) rfl hin rfl (by decide +kernel) rfl rfl (Nat.le_of_ble_eq_true rfl) dX4_init_43 (fun H locs hP hD hS => ?_)
  have hP : va_P D vwCl ([(h0, .inr (4, [.int (0 : Int32), .ref q7, .ref q8, .int (0 : Int32), .ref q9, .ref q10, .null, .null, .null, .null])), (q7, .inl (cI, 12, .inl (fun _ => 0))), (q8, .inl (cI, 12, .inl (fun _ => 0))), (q9, .inl (cI, 80, .inl (fun _ => 0))), (q10, .inl (cI, 80, .inl (fun _ => 0)))]) H := hP
  have hD : va_D A ([(h0, .inr (4, [.int (0 : Int32), .ref q7, .ref q8, .int (0 : Int32), .ref q9, .ref q10, .null, .null, .null, .null])), (q7, .inl (cI, 12, .inl (fun _ => 0))), (q8, .inl (cI, 12, .inl (fun _ => 0))), (q9, .inl (cI, 80, .inl (fun _ => 0))), (q10, .inl (cI, 80, .inl (fun _ => 0)))]) := hD
  refine lv_aload_n hx hb dX4_init_46 rfl (lv_at hl 0 rfl) ?_
  refine lv_bipush (v := 80) hx hb dX4_init_47 (by decide +kernel) ?_
  refine tf_newa (atype := .int) (a0 := (80, .inl (fun _ => 0))) (N' := 80) hx hb (hts (.arrayClass .int) (by decide +kernel)) rfl hK hP hD hS hA 0 rfl tf_uI (fun _ => rfl) (by decide +kernel) (by decide +kernel) (by decide) (Nat.le_of_ble_eq_true rfl) (Nat.le_of_ble_eq_true rfl) dX4_init_49 (fun q11 H hP hD hS => ?_)
  have hP : va_P D vwCl ([(h0, .inr (4, [.int (0 : Int32), .ref q7, .ref q8, .int (0 : Int32), .ref q9, .ref q10, .null, .null, .null, .null])), (q7, .inl (cI, 12, .inl (fun _ => 0))), (q8, .inl (cI, 12, .inl (fun _ => 0))), (q9, .inl (cI, 80, .inl (fun _ => 0))), (q10, .inl (cI, 80, .inl (fun _ => 0))), (q11, .inl (cI, 80, .inl (fun _ => 0)))]) H := hP
  have hD : va_D A ([(h0, .inr (4, [.int (0 : Int32), .ref q7, .ref q8, .int (0 : Int32), .ref q9, .ref q10, .null, .null, .null, .null])), (q7, .inl (cI, 12, .inl (fun _ => 0))), (q8, .inl (cI, 12, .inl (fun _ => 0))), (q9, .inl (cI, 80, .inl (fun _ => 0))), (q10, .inl (cI, 80, .inl (fun _ => 0))), (q11, .inl (cI, 80, .inl (fun _ => 0)))]) := hD
  refine va_putF (D := D) (ci := 4) (v := .ref q11) (ty := .array .int) (C := RX4) (T := TX4) (N := 10) hx hb hts hn_X4 tyX4 tyX4_ok nmX4 hown hK hP hD hS 0 rfl rfl 6 (by decide) hf_31 (fun _ h9 => h9) rfl hin rfl (by decide +kernel) rfl rfl (Nat.le_of_ble_eq_true rfl) dX4_init_51 (fun H locs hP hD hS => ?_)
  have hP : va_P D vwCl ([(h0, .inr (4, [.int (0 : Int32), .ref q7, .ref q8, .int (0 : Int32), .ref q9, .ref q10, .ref q11, .null, .null, .null])), (q7, .inl (cI, 12, .inl (fun _ => 0))), (q8, .inl (cI, 12, .inl (fun _ => 0))), (q9, .inl (cI, 80, .inl (fun _ => 0))), (q10, .inl (cI, 80, .inl (fun _ => 0))), (q11, .inl (cI, 80, .inl (fun _ => 0)))]) H := hP
  have hD : va_D A ([(h0, .inr (4, [.int (0 : Int32), .ref q7, .ref q8, .int (0 : Int32), .ref q9, .ref q10, .ref q11, .null, .null, .null])), (q7, .inl (cI, 12, .inl (fun _ => 0))), (q8, .inl (cI, 12, .inl (fun _ => 0))), (q9, .inl (cI, 80, .inl (fun _ => 0))), (q10, .inl (cI, 80, .inl (fun _ => 0))), (q11, .inl (cI, 80, .inl (fun _ => 0)))]) := hD
  refine lv_aload_n hx hb dX4_init_54 rfl (lv_at hl 0 rfl) ?_
  refine lv_bipush (v := 80) hx hb dX4_init_55 (by decide +kernel) ?_
  refine tf_newa (atype := .int) (a0 := (80, .inl (fun _ => 0))) (N' := 80) hx hb (hts (.arrayClass .int) (by decide +kernel)) rfl hK hP hD hS hA 0 rfl tf_uI (fun _ => rfl) (by decide +kernel) (by decide +kernel) (by decide) (Nat.le_of_ble_eq_true rfl) (Nat.le_of_ble_eq_true rfl) dX4_init_57 (fun q12 H hP hD hS => ?_)
  have hP : va_P D vwCl ([(h0, .inr (4, [.int (0 : Int32), .ref q7, .ref q8, .int (0 : Int32), .ref q9, .ref q10, .ref q11, .null, .null, .null])), (q7, .inl (cI, 12, .inl (fun _ => 0))), (q8, .inl (cI, 12, .inl (fun _ => 0))), (q9, .inl (cI, 80, .inl (fun _ => 0))), (q10, .inl (cI, 80, .inl (fun _ => 0))), (q11, .inl (cI, 80, .inl (fun _ => 0))), (q12, .inl (cI, 80, .inl (fun _ => 0)))]) H := hP
  have hD : va_D A ([(h0, .inr (4, [.int (0 : Int32), .ref q7, .ref q8, .int (0 : Int32), .ref q9, .ref q10, .ref q11, .null, .null, .null])), (q7, .inl (cI, 12, .inl (fun _ => 0))), (q8, .inl (cI, 12, .inl (fun _ => 0))), (q9, .inl (cI, 80, .inl (fun _ => 0))), (q10, .inl (cI, 80, .inl (fun _ => 0))), (q11, .inl (cI, 80, .inl (fun _ => 0))), (q12, .inl (cI, 80, .inl (fun _ => 0)))]) := hD
  refine va_putF (D := D) (ci := 4) (v := .ref q12) (ty := .array .int) (C := RX4) (T := TX4) (N := 10) hx hb hts hn_X4 tyX4 tyX4_ok nmX4 hown hK hP hD hS 0 rfl rfl 7 (by decide) hf_34 (fun _ h9 => h9) rfl hin rfl (by decide +kernel) rfl rfl (Nat.le_of_ble_eq_true rfl) dX4_init_59 (fun H locs hP hD hS => ?_)
  have hP : va_P D vwCl ([(h0, .inr (4, [.int (0 : Int32), .ref q7, .ref q8, .int (0 : Int32), .ref q9, .ref q10, .ref q11, .ref q12, .null, .null])), (q7, .inl (cI, 12, .inl (fun _ => 0))), (q8, .inl (cI, 12, .inl (fun _ => 0))), (q9, .inl (cI, 80, .inl (fun _ => 0))), (q10, .inl (cI, 80, .inl (fun _ => 0))), (q11, .inl (cI, 80, .inl (fun _ => 0))), (q12, .inl (cI, 80, .inl (fun _ => 0)))]) H := hP
  have hD : va_D A ([(h0, .inr (4, [.int (0 : Int32), .ref q7, .ref q8, .int (0 : Int32), .ref q9, .ref q10, .ref q11, .ref q12, .null, .null])), (q7, .inl (cI, 12, .inl (fun _ => 0))), (q8, .inl (cI, 12, .inl (fun _ => 0))), (q9, .inl (cI, 80, .inl (fun _ => 0))), (q10, .inl (cI, 80, .inl (fun _ => 0))), (q11, .inl (cI, 80, .inl (fun _ => 0))), (q12, .inl (cI, 80, .inl (fun _ => 0)))]) := hD
  refine lv_aload_n hx hb dX4_init_62 rfl (lv_at hl 0 rfl) ?_
  refine lv_bipush (v := 80) hx hb dX4_init_63 (by decide +kernel) ?_
  refine tf_newa (atype := .int) (a0 := (80, .inl (fun _ => 0))) (N' := 80) hx hb (hts (.arrayClass .int) (by decide +kernel)) rfl hK hP hD hS hA 0 rfl tf_uI (fun _ => rfl) (by decide +kernel) (by decide +kernel) (by decide) (Nat.le_of_ble_eq_true rfl) (Nat.le_of_ble_eq_true rfl) dX4_init_65 (fun q13 H hP hD hS => ?_)
  have hP : va_P D vwCl ([(h0, .inr (4, [.int (0 : Int32), .ref q7, .ref q8, .int (0 : Int32), .ref q9, .ref q10, .ref q11, .ref q12, .null, .null])), (q7, .inl (cI, 12, .inl (fun _ => 0))), (q8, .inl (cI, 12, .inl (fun _ => 0))), (q9, .inl (cI, 80, .inl (fun _ => 0))), (q10, .inl (cI, 80, .inl (fun _ => 0))), (q11, .inl (cI, 80, .inl (fun _ => 0))), (q12, .inl (cI, 80, .inl (fun _ => 0))), (q13, .inl (cI, 80, .inl (fun _ => 0)))]) H := hP
  have hD : va_D A ([(h0, .inr (4, [.int (0 : Int32), .ref q7, .ref q8, .int (0 : Int32), .ref q9, .ref q10, .ref q11, .ref q12, .null, .null])), (q7, .inl (cI, 12, .inl (fun _ => 0))), (q8, .inl (cI, 12, .inl (fun _ => 0))), (q9, .inl (cI, 80, .inl (fun _ => 0))), (q10, .inl (cI, 80, .inl (fun _ => 0))), (q11, .inl (cI, 80, .inl (fun _ => 0))), (q12, .inl (cI, 80, .inl (fun _ => 0))), (q13, .inl (cI, 80, .inl (fun _ => 0)))]) := hD
  refine va_putF (D := D) (ci := 4) (v := .ref q13) (ty := .array .int) (C := RX4) (T := TX4) (N := 10) hx hb hts hn_X4 tyX4 tyX4_ok nmX4 hown hK hP hD hS 0 rfl rfl 8 (by decide) hf_37 (fun _ h9 => h9) rfl hin rfl (by decide +kernel) rfl rfl (Nat.le_of_ble_eq_true rfl) dX4_init_67 (fun H locs hP hD hS => ?_)
  have hP : va_P D vwCl ([(h0, .inr (4, [.int (0 : Int32), .ref q7, .ref q8, .int (0 : Int32), .ref q9, .ref q10, .ref q11, .ref q12, .ref q13, .null])), (q7, .inl (cI, 12, .inl (fun _ => 0))), (q8, .inl (cI, 12, .inl (fun _ => 0))), (q9, .inl (cI, 80, .inl (fun _ => 0))), (q10, .inl (cI, 80, .inl (fun _ => 0))), (q11, .inl (cI, 80, .inl (fun _ => 0))), (q12, .inl (cI, 80, .inl (fun _ => 0))), (q13, .inl (cI, 80, .inl (fun _ => 0)))]) H := hP
  have hD : va_D A ([(h0, .inr (4, [.int (0 : Int32), .ref q7, .ref q8, .int (0 : Int32), .ref q9, .ref q10, .ref q11, .ref q12, .ref q13, .null])), (q7, .inl (cI, 12, .inl (fun _ => 0))), (q8, .inl (cI, 12, .inl (fun _ => 0))), (q9, .inl (cI, 80, .inl (fun _ => 0))), (q10, .inl (cI, 80, .inl (fun _ => 0))), (q11, .inl (cI, 80, .inl (fun _ => 0))), (q12, .inl (cI, 80, .inl (fun _ => 0))), (q13, .inl (cI, 80, .inl (fun _ => 0)))]) := hD
  refine lv_aload_n hx hb dX4_init_70 rfl (lv_at hl 0 rfl) ?_
  refine lv_bipush (v := 80) hx hb dX4_init_71 (by decide +kernel) ?_
  refine tf_newa (atype := .int) (a0 := (80, .inl (fun _ => 0))) (N' := 80) hx hb (hts (.arrayClass .int) (by decide +kernel)) rfl hK hP hD hS hA 0 rfl tf_uI (fun _ => rfl) (by decide +kernel) (by decide +kernel) (by decide) (Nat.le_of_ble_eq_true rfl) (Nat.le_of_ble_eq_true rfl) dX4_init_73 (fun q14 H hP hD hS => ?_)
  have hP : va_P D vwCl ([(h0, .inr (4, [.int (0 : Int32), .ref q7, .ref q8, .int (0 : Int32), .ref q9, .ref q10, .ref q11, .ref q12, .ref q13, .null])), (q7, .inl (cI, 12, .inl (fun _ => 0))), (q8, .inl (cI, 12, .inl (fun _ => 0))), (q9, .inl (cI, 80, .inl (fun _ => 0))), (q10, .inl (cI, 80, .inl (fun _ => 0))), (q11, .inl (cI, 80, .inl (fun _ => 0))), (q12, .inl (cI, 80, .inl (fun _ => 0))), (q13, .inl (cI, 80, .inl (fun _ => 0))), (q14, .inl (cI, 80, .inl (fun _ => 0)))]) H := hP
  have hD : va_D A ([(h0, .inr (4, [.int (0 : Int32), .ref q7, .ref q8, .int (0 : Int32), .ref q9, .ref q10, .ref q11, .ref q12, .ref q13, .null])), (q7, .inl (cI, 12, .inl (fun _ => 0))), (q8, .inl (cI, 12, .inl (fun _ => 0))), (q9, .inl (cI, 80, .inl (fun _ => 0))), (q10, .inl (cI, 80, .inl (fun _ => 0))), (q11, .inl (cI, 80, .inl (fun _ => 0))), (q12, .inl (cI, 80, .inl (fun _ => 0))), (q13, .inl (cI, 80, .inl (fun _ => 0))), (q14, .inl (cI, 80, .inl (fun _ => 0)))]) := hD
  refine va_putF (D := D) (ci := 4) (v := .ref q14) (ty := .array .int) (C := RX4) (T := TX4) (N := 10) hx hb hts hn_X4 tyX4 tyX4_ok nmX4 hown hK hP hD hS 0 rfl rfl 9 (by decide) hf_40 (fun _ h9 => h9) rfl hin rfl (by decide +kernel) rfl rfl (Nat.le_of_ble_eq_true rfl) dX4_init_75 (fun H locs hP hD hS => ?_)
  have hP : va_P D vwCl ([(h0, .inr (4, [.int (0 : Int32), .ref q7, .ref q8, .int (0 : Int32), .ref q9, .ref q10, .ref q11, .ref q12, .ref q13, .ref q14])), (q7, .inl (cI, 12, .inl (fun _ => 0))), (q8, .inl (cI, 12, .inl (fun _ => 0))), (q9, .inl (cI, 80, .inl (fun _ => 0))), (q10, .inl (cI, 80, .inl (fun _ => 0))), (q11, .inl (cI, 80, .inl (fun _ => 0))), (q12, .inl (cI, 80, .inl (fun _ => 0))), (q13, .inl (cI, 80, .inl (fun _ => 0))), (q14, .inl (cI, 80, .inl (fun _ => 0)))]) H := hP
  have hD : va_D A ([(h0, .inr (4, [.int (0 : Int32), .ref q7, .ref q8, .int (0 : Int32), .ref q9, .ref q10, .ref q11, .ref q12, .ref q13, .ref q14])), (q7, .inl (cI, 12, .inl (fun _ => 0))), (q8, .inl (cI, 12, .inl (fun _ => 0))), (q9, .inl (cI, 80, .inl (fun _ => 0))), (q10, .inl (cI, 80, .inl (fun _ => 0))), (q11, .inl (cI, 80, .inl (fun _ => 0))), (q12, .inl (cI, 80, .inl (fun _ => 0))), (q13, .inl (cI, 80, .inl (fun _ => 0))), (q14, .inl (cI, 80, .inl (fun _ => 0)))]) := hD
  obtain ⟨ad, rfl, rfl, rfl, rfl, rfl, rfl, rfl, rfl, rfl⟩ : ∃ ad : Nat → Nat, ad 1 = h0 ∧ ad 7 = q7 ∧ ad 8 = q8 ∧ ad 9 = q9 ∧ ad 10 = q10 ∧ ad 11 = q11 ∧ ad 12 = q12 ∧ ad 13 = q13 ∧ ad 14 = q14 := ⟨fun i => match i with | 1 => h0 | 7 => q7 | 8 => q8 | 9 => q9 | 10 => q10 | 11 => q11 | 12 => q12 | 13 => q13 | 14 => q14 | _ => 0, rfl, rfl, rfl, rfl, rfl, rfl, rfl, rfl, rfl⟩
  have hP9 : va_P D vwCl (tf_wt ad cI cZ tf_0) H := hP.sub [0, 1, 2, 3, 4, 5, 6, 7, 8] rfl
  have hD9 : va_D A (tf_wt ad cI cZ tf_0) := hD.sub [0, 1, 2, 3, 4, 5, 6, 7, 8] (by decide) rfl
  have hA2 : ∀ q, va_A (tf_wt ad cI cZ tf_0) s.heap.size q → A q := tf_A2 (tf_t_ad ad cI cZ) hD9 hA
  have hA1 : ∀ q, A q → va_A (tf_wt ad cI cZ tf_0) s.heap.size q := fun q h => tf_A1 (w := tf_wt ad cI cZ) (k := 0) rfl q (by rw [hAe]; exact h)
  have hI : tf_I D (tf_wt ad cI cZ) s.heap tf_0 H locs := ⟨hP9, tf_D (tf_t_ad ad cI cZ) hD9 _, tf_Smono hA1 hS⟩
  have tf_D9 : ∀ {σ : tf_S} {H : Heap} {locs : List Loc}, tf_I D (tf_wt ad cI cZ) s.heap σ H locs → va_D A (tf_wt ad cI cZ σ) := fun hI => hI.2.1.weaken (fun _ _ _ h => hA2 _ h)
  have hN : tf_N [] s := fun _ h => absurd h List.not_mem_nil
  clear hP9 hP
  generalize hσ0 : tf_0 = σ at h hI
  unfold fX4_init at h
  refine lv_aload_n hx hb dX4_init_78 rfl (lv_at hl 0 rfl) ?_
  refine lv_iconst (v := 0) hx hb dX4_init_79 (by decide +kernel) ?_
  refine lv_iconst (v := -1) hx hb dX4_init_80 (by decide +kernel) ?_
  obtain ⟨u1, q2, h⟩ := tf_gbind h
  refine tf_callVg ⟨Nat.le_of_ble_eq_true rfl, Nat.le_of_ble_eq_true rfl⟩ (rest := []) ⟨hx, hb, hml, hown, hts⟩ hK hN hI (kT_X4_addClass l D ad cI cZ _ _ _ _ q2) (cwV 2 hts gX4_init_X4_addClass rfl rfl rfl (by decide +kernel) ⟨Nat.le_of_ble_eq_true rfl, Nat.le_of_ble_eq_true rfl⟩) 0 4 (tf_tat_1 ad cI cZ _) rfl rfl hl.1 rfl (Nat.le_of_ble_eq_true rfl) dX4_init_81 (fun H locs hI => ?_)
  refine lv_pop hx hb dX4_init_84 rfl ?_
  refine lv_aload_n hx hb dX4_init_85 rfl (lv_at hl 0 rfl) ?_
  refine tf_get (C := RX4) (T := TX4) (N := 10) hx hb hts hn_X4 hown hK hI 0 (tf_tat_1 ad cI cZ _) rfl 4 (by decide) hf_25 rfl rfl dX4_init_86 ?_
  refine lv_iconst (v := -1) hx hb dX4_init_89 (by decide +kernel) ?_
  obtain ⟨s3, es3, h⟩ := tf_glet h
  refine tf_fillg ⟨Nat.le_of_ble_eq_true rfl, Nat.le_of_ble_eq_true rfl⟩ (rest := []) ⟨hx, hb, hml, hown, hts⟩ hK hI 3 0 (tf_tat_9 ad cI cZ _) (tf_tset_9 ad cI cZ _) rfl (va_cwS 2 hts gX4_init_J7_fill_53178 rfl rfl rfl (by decide +kernel) ⟨Nat.le_of_ble_eq_true rfl, Nat.le_of_ble_eq_true rfl⟩) hl.1 (by decide) (Nat.le_of_ble_eq_true rfl) es3 dX4_init_90 (fun H locs hI => ?_)
  refine lv_aload_n hx hb dX4_init_93 rfl (lv_at hl 0 rfl) ?_
  refine tf_get (C := RX4) (T := TX4) (N := 10) hx hb hts hn_X4 hown hK hI 0 (tf_tat_1 ad cI cZ _) rfl 5 (by decide) hf_28 rfl rfl dX4_init_94 ?_
  refine lv_iconst (v := -1) hx hb dX4_init_97 (by decide +kernel) ?_
  obtain ⟨s4, es4, h⟩ := tf_glet h
  refine tf_fillg ⟨Nat.le_of_ble_eq_true rfl, Nat.le_of_ble_eq_true rfl⟩ (rest := []) ⟨hx, hb, hml, hown, hts⟩ hK hI 4 0 (tf_tat_10 ad cI cZ _) (tf_tset_10 ad cI cZ _) rfl (va_cwS 2 hts gX4_init_J7_fill_53178 rfl rfl rfl (by decide +kernel) ⟨Nat.le_of_ble_eq_true rfl, Nat.le_of_ble_eq_true rfl⟩) hl.1 (by decide) (Nat.le_of_ble_eq_true rfl) es4 dX4_init_98 (fun H locs hI => ?_)
  refine lv_aload_n hx hb dX4_init_101 rfl (lv_at hl 0 rfl) ?_
  refine tf_get (C := RX4) (T := TX4) (N := 10) hx hb hts hn_X4 hown hK hI 0 (tf_tat_1 ad cI cZ _) rfl 6 (by decide) hf_31 rfl rfl dX4_init_102 ?_
  refine lv_iconst (v := -1) hx hb dX4_init_105 (by decide +kernel) ?_
  obtain ⟨s5, es5, h⟩ := tf_glet h
  refine tf_fillg ⟨Nat.le_of_ble_eq_true rfl, Nat.le_of_ble_eq_true rfl⟩ (rest := []) ⟨hx, hb, hml, hown, hts⟩ hK hI 5 0 (tf_tat_11 ad cI cZ _) (tf_tset_11 ad cI cZ _) rfl (va_cwS 2 hts gX4_init_J7_fill_53178 rfl rfl rfl (by decide +kernel) ⟨Nat.le_of_ble_eq_true rfl, Nat.le_of_ble_eq_true rfl⟩) hl.1 (by decide) (Nat.le_of_ble_eq_true rfl) es5 dX4_init_106 (fun H locs hI => ?_)
  refine lv_aload_n hx hb dX4_init_109 rfl (lv_at hl 0 rfl) ?_
  refine tf_get (C := RX4) (T := TX4) (N := 10) hx hb hts hn_X4 hown hK hI 0 (tf_tat_1 ad cI cZ _) rfl 7 (by decide) hf_34 rfl rfl dX4_init_110 ?_
  refine lv_iconst (v := 4) hx hb dX4_init_113 (by decide +kernel) ?_
  refine lv_iconst (v := 1) hx hb dX4_init_114 (by decide +kernel) ?_
  obtain ⟨b6, h⟩ := tf_gin h
  obtain ⟨s7, es7, h⟩ := tf_glet h
  refine tf_iast hx hb hK hI 6 0 (tf_tat_12 ad cI cZ _) (tf_tset_12 ad cI cZ _) rfl b6 es7 dX4_init_115 (fun H locs hI => ?_)
  refine lv_aload_n hx hb dX4_init_116 rfl (lv_at hl 0 rfl) ?_
  refine tf_get (C := RX4) (T := TX4) (N := 10) hx hb hts hn_X4 hown hK hI 0 (tf_tat_1 ad cI cZ _) rfl 7 (by decide) hf_34 rfl rfl dX4_init_117 ?_
  refine lv_iconst (v := 5) hx hb dX4_init_120 (by decide +kernel) ?_
  refine lv_iconst (v := 2) hx hb dX4_init_121 (by decide +kernel) ?_
  obtain ⟨b8, h⟩ := tf_gin h
  obtain ⟨s9, es9, h⟩ := tf_glet h
  refine tf_iast hx hb hK hI 6 0 (tf_tat_12 ad cI cZ _) (tf_tset_12 ad cI cZ _) rfl b8 es9 dX4_init_122 (fun H locs hI => ?_)
  refine lv_aload_n hx hb dX4_init_123 rfl (lv_at hl 0 rfl) ?_
  refine lv_bipush (v := 6) hx hb dX4_init_124 (by decide +kernel) ?_
  obtain ⟨s10, es10, h⟩ := tf_glet h
  refine tf_put (C := RX4) (T := TX4) (N := 10) (ty := .int) hx hb hts hn_X4 tyX4 tyX4_ok nmX4 hown hK hI 0 (tf_tat_1 ad cI cZ _) rfl 3 (by decide) hf_22 rfl rfl (by decide +kernel) rfl rfl (Nat.le_of_ble_eq_true rfl) (tf_tput_1_3 ad cI cZ _ _) es10 dX4_init_126 (fun H locs hI => ?_)
  refine lv_aload_n hx hb dX4_init_129 rfl (lv_at hl 0 rfl) ?_
  refine lv_iconst (v := 0) hx hb dX4_init_130 (by decide +kernel) ?_
  refine lv_iconst (v := -1) hx hb dX4_init_131 (by decide +kernel) ?_
  refine lv_iconst (v := -1) hx hb dX4_init_132 (by decide +kernel) ?_
  obtain ⟨u11, q12, h⟩ := tf_gbind h
  refine tf_callVg ⟨Nat.le_of_ble_eq_true rfl, Nat.le_of_ble_eq_true rfl⟩ (rest := []) ⟨hx, hb, hml, hown, hts⟩ hK hN hI (kT_X4_make l D ad cI cZ _ _ _ _ _ q12) (cwV 3 hts gX4_init_X4_make rfl rfl rfl (by decide +kernel) ⟨Nat.le_of_ble_eq_true rfl, Nat.le_of_ble_eq_true rfl⟩) 0 4 (tf_tat_1 ad cI cZ _) rfl rfl hl.1 rfl (Nat.le_of_ble_eq_true rfl) dX4_init_133 (fun H locs hI => ?_)
  refine lv_pop hx hb dX4_init_136 rfl ?_
  cases h
  refine W.widen (k := 8) (n := 504) (by decide) (by decide) ?_
  exact W.vret hx hb hr (fun t ht hW => ⟨⟨ad, rfl, rfl, by rw [ht]; exact hI.1, tf_D9 hI⟩, (tf_Smono hA2 hI.2.2).F ht⟩) (tf_Smono hA2 hI.2.2).2.2 dX4_init_137 hlocks

set_option maxHeartbeats 4000000 in
set_option maxRecDepth 100000 in
theorem kc_X5_init (l : Launch) (D : va_G) (cI cZ : ClassId) (h0 p1 p2 p3 p4 sz : Nat) : Met l yX5_init wsX5_init ({ frames := 2, cells := 5, slots := 253, locals := 42 }) (va_Pc [.ref h0, .ref p1, .ref p2, .ref p3, .ref p4] (fun U => U.heap.size = sz ∧ va_P D vwCl [(h0, .inr (5, [.null, .null, .null, .null, .int 0, .int 0]))] U.heap ∧ va_K D vwCl [(cI, .int), (cZ, .boolean)] U ∧ tf_N tf_nest U ∧ va_D (fun _ => True) [(h0, .inr (5, [.null, .null, .null, .null, .int 0, .int 0]))])) (va_Qv (fun (ad : Nat → Nat) => ad 5 = h0 ∧ ad 1 = p1 ∧ ad 2 = p2 ∧ ad 3 = p3 ∧ ad 4 = p4) (fun ad t => va_P D vwCl (tf_w5 ad cI cZ tf_0) t.heap ∧ va_D (va_A [(h0, .inr (5, [.null, .null, .null, .null, .int 0, .int 0]))] sz) (tf_w5 ad cI cZ tf_0)) (va_A [(h0, .inr (5, [.null, .null, .null, .null, .int 0, .int 0]))] sz)) 5 253 (va_A [(h0, .inr (5, [.null, .null, .null, .null, .int 0, .int 0]))] sz) := by
  refine Met.ofW (cc := cX5_init) (maxL := 5) (ret := none) (by decide) rfl ?_
  intro p e s m args below meth c s₁ B hml hv
  obtain ⟨rfl, hsz, hP, hK, hN, hD0⟩ := hv
  have hx := B.exec
  have hb := B.bytes
  have hr := B.returns
  have hts := atoms_spec (ws := wsX5_init) B.pre
  have hown : s.vm.findClass RX5 = some m.cls := findClass_of_methodNamed B.named
  have hlocks := B.notSynchronized
  have hin : meth.name = "<init>" := (name_of_methodNamed B.named B.method).1
  subst hsz
  have hD := hD0.self (sz := s.heap.size)
  generalize hAe : va_A [(h0, .inr (5, [.null, .null, .null, .null, .int 0, .int 0]))] s.heap.size = A at hD ⊢
  have hA : ∀ q : Nat, s.heap.size ≤ q → A q := fun q h => by rw [← hAe]; exact Or.inr h
  have hS : va_S A s.heap s.heap [] := va_S.rf
  have hl := lv_entry ([.ref h0, .ref p1, .ref p2, .ref p3, .ref p4]) (n := 5) (Nat.le_of_ble_eq_true rfl)
  rw [lg_entry_eq]
  generalize (lg_sl ([.ref h0, .ref p1, .ref p2, .ref p3, .ref p4]) ++ List.replicate (5 - (lg_sl ([.ref h0, .ref p1, .ref p2, .ref p3, .ref p4])).length) Slot.unset).toArray = ls at hl ⊢
  have hl : lv_has ls 5 [(0, .ref h0), (1, .ref p1), (2, .ref p2), (3, .ref p3), (4, .ref p4)] := hl
  have hn_X3 : ∀ w ∈ u_ws RX3 TX3 7, w ∈ wsX5_init := by decide +kernel
  have hn_X5 : ∀ w ∈ u_ws RX5 TX5 6, w ∈ wsX5_init := by decide +kernel
  have hf_9 := hts (.fieldLink RX5 9 "TypeFlow$Worker" "fault" "I") (by decide +kernel)
  have hf_15 := hts (.fieldLink RX5 15 "TypeFlow$Worker" "risky" "Z") (by decide +kernel)
  have hf_19 := hts (.fieldLink RX5 19 "TypeFlow$Worker" "types" "LTypeFlow$Types;") (by decide +kernel)
  have hf_23 := hts (.fieldLink RX5 23 "TypeFlow$Worker" "members" "LTypeFlow$Members;") (by decide +kernel)
  have hf_27 := hts (.fieldLink RX5 27 "TypeFlow$Worker" "operators" "LTypeFlow$Operators;") (by decide +kernel)
  have hf_36 := hts (.fieldLink RX5 36 "TypeFlow$Worker" "putting" "LTypeFlow$Putting;") (by decide +kernel)
  refine lv_aload_n hx hb dX5_init_0 rfl (lv_at hl 0 rfl) ?_
  refine W.objInit hx hb hown (hts (.methodLink RX5 3 objectInit) (by decide +kernel)) (hts (.instanceMethod objectInit) (by decide +kernel)) (hts (.code objectInit ⟨#[0xb1]⟩ 1 none) (List.mem_of_getElem? (i := 3) rfl)) rfl (by rw [hml]; exact hl.1) rfl dX5_init_1 (Nat.le_of_ble_eq_true rfl) (Nat.le_of_ble_eq_true rfl) ?_
  refine W.eq (g2 := F0 m 4 ls []) rfl ?_
  refine lv_aload_n hx hb dX5_init_4 rfl (lv_at hl 0 rfl) ?_
  refine lv_iconst (v := 0) hx hb dX5_init_5 (by decide +kernel) ?_
  refine va_put (D := D) (ci := 5) (v := .int (0 : Int32)) (ty := .int) (C := RX5) (T := TX5) (N := 6) hx hb hts hn_X5 tyX5 tyX5_ok nmX5 hown hK hP hD hS 0 rfl rfl 4 (by decide) hf_9 (fun _ h9 => h9) rfl (by decide +kernel) rfl rfl (Nat.le_of_ble_eq_true rfl) dX5_init_6 (fun H locs hP hD hS => ?_)
  have hP : va_P D vwCl ([(h0, .inr (5, [.null, .null, .null, .null, .int (0 : Int32), .int 0]))]) H := hP
  have hD : va_D A ([(h0, .inr (5, [.null, .null, .null, .null, .int (0 : Int32), .int 0]))]) := hD
  refine lv_aload_n hx hb dX5_init_9 rfl (lv_at hl 0 rfl) ?_
  refine lv_iconst (v := 0) hx hb dX5_init_10 (by decide +kernel) ?_
  refine va_put (D := D) (ci := 5) (v := .int (0 : Int32)) (ty := .boolean) (C := RX5) (T := TX5) (N := 6) hx hb hts hn_X5 tyX5 tyX5_ok nmX5 hown hK hP hD hS 0 rfl rfl 5 (by decide) hf_15 (fun _ h9 => h9) rfl (by decide +kernel) rfl rfl (Nat.le_of_ble_eq_true rfl) dX5_init_11 (fun H locs hP hD hS => ?_)
  have hP : va_P D vwCl ([(h0, .inr (5, [.null, .null, .null, .null, .int (0 : Int32), .int (0 : Int32)]))]) H := hP
  have hD : va_D A ([(h0, .inr (5, [.null, .null, .null, .null, .int (0 : Int32), .int (0 : Int32)]))]) := hD
  refine lv_aload_n hx hb dX5_init_14 rfl (lv_at hl 0 rfl) ?_
  refine lv_aload_n hx hb dX5_init_15 rfl (lv_at hl 1 rfl) ?_
  refine va_putF (D := D) (ci := 5) (v := .ref p1) (ty := .object "TypeFlow$Types") (C := RX5) (T := TX5) (N := 6) hx hb hts hn_X5 tyX5 tyX5_ok nmX5 hown hK hP hD hS 0 rfl rfl 0 (by decide) hf_19 (fun _ h9 => h9) rfl hin rfl (by decide +kernel) rfl rfl (Nat.le_of_ble_eq_true rfl) dX5_init_16 (fun H locs hP hD hS => ?_)
  have hP : va_P D vwCl ([(h0, .inr (5, [.ref p1, .null, .null, .null, .int (0 : Int32), .int (0 : Int32)]))]) H := hP
  have hD : va_D A ([(h0, .inr (5, [.ref p1, .null, .null, .null, .int (0 : Int32), .int (0 : Int32)]))]) := hD
  refine lv_aload_n hx hb dX5_init_19 rfl (lv_at hl 0 rfl) ?_
  refine lv_aload_n hx hb dX5_init_20 rfl (lv_at hl 2 rfl) ?_
  refine va_putF (D := D) (ci := 5) (v := .ref p2) (ty := .object "TypeFlow$Members") (C := RX5) (T := TX5) (N := 6) hx hb hts hn_X5 tyX5 tyX5_ok nmX5 hown hK hP hD hS 0 rfl rfl 1 (by decide) hf_23 (fun _ h9 => h9) rfl hin rfl (by decide +kernel) rfl rfl (Nat.le_of_ble_eq_true rfl) dX5_init_21 (fun H locs hP hD hS => ?_)
  have hP : va_P D vwCl ([(h0, .inr (5, [.ref p1, .ref p2, .null, .null, .int (0 : Int32), .int (0 : Int32)]))]) H := hP
  have hD : va_D A ([(h0, .inr (5, [.ref p1, .ref p2, .null, .null, .int (0 : Int32), .int (0 : Int32)]))]) := hD
  refine lv_aload_n hx hb dX5_init_24 rfl (lv_at hl 0 rfl) ?_
  refine lv_aload hx hb dX5_init_25 (lv_at hl 4 rfl) ?_
  refine va_putF (D := D) (ci := 5) (v := .ref p4) (ty := .object "TypeFlow$Operators") (C := RX5) (T := TX5) (N := 6) hx hb hts hn_X5 tyX5 tyX5_ok nmX5 hown hK hP hD hS 0 rfl rfl 2 (by decide) hf_27 (fun _ h9 => h9) rfl hin rfl (by decide +kernel) rfl rfl (Nat.le_of_ble_eq_true rfl) dX5_init_27 (fun H locs hP hD hS => ?_)
  have hP : va_P D vwCl ([(h0, .inr (5, [.ref p1, .ref p2, .ref p4, .null, .int (0 : Int32), .int (0 : Int32)]))]) H := hP
  have hD : va_D A ([(h0, .inr (5, [.ref p1, .ref p2, .ref p4, .null, .int (0 : Int32), .int (0 : Int32)]))]) := hD
  refine lv_aload_n hx hb dX5_init_30 rfl (lv_at hl 0 rfl) ?_
  refine va_new (ci := 3) (fs := [.null, .null, .null, .int 0, .null, .null, .null]) (C := RX3) (T := TX3) (N := 7) hx hb hts hn_X3 tyX3 tyX3_ok hown (hts (.classLink RX5 31 RX3) (by decide +kernel)) (hts (.instantiable RX3 7) (by decide +kernel)) (hts (.initialized RX3) (by decide +kernel)) hK hP hD hS hA rfl (fun j hj => by rcases (show j = 0 ∨ j = 1 ∨ j = 2 ∨ j = 3 ∨ j = 4 ∨ j = 5 ∨ j = 6 by omega) with rfl | rfl | rfl | rfl | rfl | rfl | rfl <;> rfl) (Nat.le_of_ble_eq_true rfl) (Nat.le_of_ble_eq_true rfl) dX5_init_31 (fun q6 H hP hD hS => ?_)
  have hP : va_P D vwCl ([(h0, .inr (5, [.ref p1, .ref p2, .ref p4, .null, .int (0 : Int32), .int (0 : Int32)])), (q6, .inr (3, [.null, .null, .null, .int 0, .null, .null, .null]))]) H := hP
  have hD : va_D A ([(h0, .inr (5, [.ref p1, .ref p2, .ref p4, .null, .int (0 : Int32), .int (0 : Int32)])), (q6, .inr (3, [.null, .null, .null, .int 0, .null, .null, .null]))]) := hD
  refine lv_dup hx hb dX5_init_34 rfl ?_
  refine lv_aload_n hx hb dX5_init_35 rfl (lv_at hl 1 rfl) ?_
  refine lv_aload_n hx hb dX5_init_36 rfl (lv_at hl 3 rfl) ?_
  have hPc := hP.sub (ws' := [(q6, .inr (3, [.null, .null, .null, .int 0, .null, .null, .null]))]) [1] rfl
  have hDc := hD.sub (ws' := [(q6, .inr (3, [.null, .null, .null, .int 0, .null, .null, .null]))]) [1] (by decide) rfl
  have hFc := va_free (wc := [(q6, .inr (3, [.null, .null, .null, .int 0, .null, .null, .null]))]) hD hS hA [1] rfl
  refine va_callv (va_runI (As := [.ref p1, .ref p3]) (rest := [.ref q6, .ref h0]) ⟨hx, hb, hml, hown, hts⟩ (kc_X3_init l D cI cZ q6 p1 p3 H.size) (cwI 2 hts gX5_init_X3_init rfl rfl rfl (hts (.initialized RX3) (by decide +kernel)) (hts (.methodLink RX5 33 yX3_init) (by decide +kernel)) (hts (.instanceMethod yX3_init) (by decide +kernel)) rfl (by decide +kernel) ⟨Nat.le_of_ble_eq_true rfl, Nat.le_of_ble_eq_true rfl⟩) ⟨fun a U g mk q => by obtain ⟨q0, q1, qP, qK, qN, qD⟩ := q; exact ⟨q0, q1, qP, va_K.moved (u := U) (U := U.calling g mk a) (Vm.Alike.refl U.vm) qK, tf_N.same (U := U.calling g mk a) rfl qN, qD⟩, fun U hU hW => ⟨rfl, by rw [hU], by rw [hU]; exact hPc, va_K.moved hW.alike hK, tf_N.warm hW hN, hDc.weaken (fun _ _ _ _ => trivial)⟩⟩ rfl rfl hl.1 rfl (lv_room (Nat.le_of_ble_eq_true rfl)) dX5_init_37 ⟨Nat.le_of_ble_eq_true rfl, Nat.le_of_ble_eq_true rfl⟩) hS (fun q _ h => hFc q h) hFc (fun ad6 t H1 locs ht hvm hw hB hz1 hk1 hS => ?_)
  obtain ⟨hP1, hD1⟩ := hB
  rw [ht] at hP1
  obtain ⟨hPn, hDn⟩ := va_join (wr := [(h0, .inr (5, [.ref p1, .ref p2, .ref p4, .null, .int (0 : Int32), .int (0 : Int32)]))]) (w1 := tf_w3 ad6 cI cZ tf_0) hP hD [1] [0] rfl rfl (by decide) (by decide) hk1 hFc hP1 hD1
  generalize H1 = H at hPn hS ⊢
  obtain ⟨rfl, hw1, hw3⟩ := hw
  have hP : va_P D vwCl ([(h0, .inr (5, [.ref p1, .ref p2, .ref p4, .null, .int (0 : Int32), .int (0 : Int32)]))] ++ tf_w3 ad6 cI cZ tf_0) H := hPn
  have hD : va_D A ([(h0, .inr (5, [.ref p1, .ref p2, .ref p4, .null, .int (0 : Int32), .int (0 : Int32)]))] ++ tf_w3 ad6 cI cZ tf_0) := hDn
  refine va_putF (D := D) (ci := 5) (v := .ref (ad6 6)) (ty := .object "TypeFlow$Putting") (C := RX5) (T := TX5) (N := 6) hx hb hts hn_X5 tyX5 tyX5_ok nmX5 hown hK hP hD hS 0 rfl rfl 3 (by decide) hf_36 (fun _ h9 => h9) rfl hin rfl (by decide +kernel) rfl rfl (Nat.le_of_ble_eq_true rfl) dX5_init_40 (fun H locs hP hD hS => ?_)
  have hP : va_P D vwCl ([(h0, .inr (5, [.ref p1, .ref p2, .ref p4, .ref (ad6 6), .int (0 : Int32), .int (0 : Int32)]))] ++ tf_w3 ad6 cI cZ tf_0) H := hP
  have hD : va_D A ([(h0, .inr (5, [.ref p1, .ref p2, .ref p4, .ref (ad6 6), .int (0 : Int32), .int (0 : Int32)]))] ++ tf_w3 ad6 cI cZ tf_0) := hD
  obtain ⟨ad, a5, a2, a4, a6⟩ : ∃ ad : Nat → Nat, ad 5 = h0 ∧ ad 2 = p2 ∧ ad 4 = p4 ∧ ∀ i, i ≠ 5 → i ≠ 2 → i ≠ 4 → ad i = ad6 i := ⟨fun i => if i = 5 then h0 else if i = 2 then p2 else if i = 4 then p4 else ad6 i, rfl, rfl, rfl, fun i h1 h2 h3 => by simp [h1, h2, h3]⟩
  subst a5 a2 a4 hw1 hw3
  have e1 := a6 1 (by decide) (by decide) (by decide)
  have e3 := a6 3 (by decide) (by decide) (by decide)
  have e6 := a6 6 (by decide) (by decide) (by decide)
  have e31 := a6 31 (by decide) (by decide) (by decide)
  have e32 := a6 32 (by decide) (by decide) (by decide)
  have e33 := a6 33 (by decide) (by decide) (by decide)
  have e34 := a6 34 (by decide) (by decide) (by decide)
  have ew : tf_w5 ad cI cZ tf_0 = [(ad 5, .inr (5, [.ref (ad6 1), .ref (ad 2), .ref (ad 4), .ref (ad6 6), .int 0, .int 0]))] ++ tf_w3 ad6 cI cZ tf_0 := by unfold tf_w5 tf_w3; rw [e1, e3, e6, e31, e32, e33, e34]; rfl
  rw [← ew] at hP hD
  have hP9 : va_P D vwCl (tf_w5 ad cI cZ tf_0) H := hP.sub [0, 1, 2, 3, 4, 5] rfl
  have hD9 : va_D A (tf_w5 ad cI cZ tf_0) := hD.sub [0, 1, 2, 3, 4, 5] (by decide) rfl
  refine W.widen (k := 5) (n := 253) (by decide) (by decide) ?_
  exact W.vret hx hb hr (fun t ht hW => ⟨⟨ad, rfl, ⟨rfl, e1, rfl, e3, rfl⟩, by rw [ht]; exact hP9, hD9⟩, hS.F ht⟩) hS.2.2 dX5_init_43 hlocks
