set_option maxHeartbeats 4000000 in
set_option maxRecDepth 100000 in
theorem kM_X7_memberOf (l : Launch) (D : va_G) (ad : Nat → Nat) (cI cZ : ClassId) (σ : tf_S) (x1 x2 : Int32) (z : Int32 × tf_S) (h : fX7_memberOf σ x1 x2 = some z) : tf_C l D (tf_wm ad cI cZ) [(cI, .int), (cZ, .boolean)] [] yX7_memberOf wsX7_memberOf ({ frames := 3, cells := 0, slots := 0, locals := 72 }) [.ref (ad 0), .int x1, .int x2] σ z := by
  intro sz
  refine Met.ofW (cc := cX7_memberOf) (maxL := 4) (ret := (some .int)) (by decide) rfl ?_
  intro p e s m args below meth c s₁ B hml hv
  obtain ⟨rfl, hsz, hP, hK, hN, hD0⟩ := hv
  have hx := B.exec
  have hb := B.bytes
  have hr := B.returns
  have hts := atoms_spec (ws := wsX7_memberOf) B.pre
  have hown : s.vm.findClass RX7 = some m.cls := findClass_of_methodNamed B.named
  have hlocks := B.notSynchronized
  subst hsz
  have hI := tf_start (D := D) (tf_m_ad ad cI cZ) hP hD0
  have hl := lv_entry ([.ref (ad 0), .int x1, .int x2]) (n := 4) (Nat.le_of_ble_eq_true rfl)
  rw [lg_entry_eq]
  generalize (lg_sl ([.ref (ad 0), .int x1, .int x2]) ++ List.replicate (4 - (lg_sl ([.ref (ad 0), .int x1, .int x2])).length) Slot.unset).toArray = ls at hl ⊢
  have hl : lv_has ls 4 [(0, .ref (ad 0)), (1, .int x1), (2, .int x2)] := hl
  have hn_X7 : ∀ w ∈ u_ws RX7 TX7 35, w ∈ wsX7_memberOf := by decide +kernel
  have hf_26 := hts (.fieldLink RX7 26 "TypeFlowModel" "first" "[I") (by decide +kernel)
  have hf_29 := hts (.fieldLink RX7 29 "TypeFlowModel" "second" "[I") (by decide +kernel)
  have hf_41 := hts (.fieldLink RX7 41 "TypeFlowModel" "memberClass" "[I") (by decide +kernel)
  have hf_44 := hts (.fieldLink RX7 44 "TypeFlowModel" "memberType" "[I") (by decide +kernel)
  have hf_159 := hts (.fieldLink RX7 159 "TypeFlowModel" "reason" "I") (by decide +kernel)
  have j22 : ∀ (σ : tf_S) (t0 : Int32) (H : Heap) (locs : List Loc) (ls : Array Slot), fX7_memberOf_22 x1 x2 σ t0 = some z → tf_I D (tf_wm ad cI cZ) s.heap σ H locs → lv_has ls 4 [(0, .ref (ad 0)), (1, .int x1)] → W p l e (headSpec wsX7_memberOf ({ frames := 3, cells := 0, slots := 0, locals := 72 })).room s m ([.ref (ad 0), .int x1, .int x2] : List Value).toArray below meth c H locs 0 0 (tf_Q below D (tf_wm ad cI cZ) z ([.ref (ad 0), .int x1, .int x2] : List Value).toArray s) (F0 m 22 ls [.int t0]) := by
    intro σ t0 H locs ls h hI hl
    unfold fX7_memberOf_22 at h
    refine lv_istore_n (lv' := [(3, .int t0), (0, .ref (ad 0)), (1, .int x1)]) hx hb dX7_memberOf_22 rfl hl (by decide) rfl (fun ls hl => ?_)
    refine lv_iload_n hx hb dX7_memberOf_23 rfl (lv_at hl 0 rfl) ?_
    refine lv_if_ge (tgt := 45) hx hb dX7_memberOf_24 (by decide) (fun c7 => ?_) (fun c7 => ?_)
    · replace h := tf_pos c7 h
      refine lv_aload_n hx hb dX7_memberOf_45 rfl (lv_at hl 1 rfl) ?_
      refine lv_aload_n hx hb dX7_memberOf_46 rfl (lv_at hl 1 rfl) ?_
      refine lv_aload_n hx hb dX7_memberOf_47 rfl (lv_at hl 1 rfl) ?_
      refine tf_get (C := RX7) (T := TX7) (N := 35) hx hb hts hn_X7 hown hK hI 0 (tf_mat_0 ad cI cZ _) rfl 13 (by decide) hf_44 rfl rfl dX7_memberOf_48 ?_
      refine lv_iload_n hx hb dX7_memberOf_51 rfl (lv_at hl 2 rfl) ?_
      obtain ⟨b8, h⟩ := tf_gin h
      refine va_iald hx hb hK hI.1 10 0 (tf_mat_10 ad cI cZ _) rfl b8 dX7_memberOf_52 ?_
      refine lv_aload_n hx hb dX7_memberOf_53 rfl (lv_at hl 1 rfl) ?_
      refine tf_get (C := RX7) (T := TX7) (N := 35) hx hb hts hn_X7 hown hK hI 0 (tf_mat_0 ad cI cZ _) rfl 5 (by decide) hf_26 rfl rfl dX7_memberOf_54 ?_
      refine lv_iload_n hx hb dX7_memberOf_57 rfl (lv_at hl 0 rfl) ?_
      obtain ⟨b9, h⟩ := tf_gin h
      refine va_iald hx hb hK hI.1 4 0 (tf_mat_4 ad cI cZ _) rfl b9 dX7_memberOf_58 ?_
      refine lv_aload_n hx hb dX7_memberOf_59 rfl (lv_at hl 1 rfl) ?_
      refine tf_get (C := RX7) (T := TX7) (N := 35) hx hb hts hn_X7 hown hK hI 0 (tf_mat_0 ad cI cZ _) rfl 6 (by decide) hf_29 rfl rfl dX7_memberOf_60 ?_
      refine lv_iload_n hx hb dX7_memberOf_63 rfl (lv_at hl 0 rfl) ?_
      obtain ⟨b10, h⟩ := tf_gin h
      refine va_iald hx hb hK hI.1 5 0 (tf_mat_5 ad cI cZ _) rfl b10 dX7_memberOf_64 ?_
      obtain ⟨u11, q12, h⟩ := tf_gbind h
      refine tf_callV (rest := [.ref (ad 0)]) ⟨hx, hb, hml, hown, hts⟩ hK hN hI (kM_X7_put l D ad cI cZ _ _ _ _ _ q12) (cwV 3 hts gX7_memberOf_X7_put rfl rfl rfl (by decide +kernel) ⟨Nat.le_of_ble_eq_true rfl, Nat.le_of_ble_eq_true rfl⟩) 0 7 (tf_mat_0 ad cI cZ _) rfl rfl hl.1 rfl (Nat.le_of_ble_eq_true rfl) dX7_memberOf_65 (fun H locs hI => ?_)
      obtain ⟨u13, q14, h⟩ := tf_gbind h
      refine tf_callV (rest := []) ⟨hx, hb, hml, hown, hts⟩ hK hN hI (kM_X7_orRoom l D ad cI cZ _ _ _ q14) (cwV 1 hts gX7_memberOf_X7_orRoom rfl rfl rfl (by decide +kernel) ⟨Nat.le_of_ble_eq_true rfl, Nat.le_of_ble_eq_true rfl⟩) 0 7 (tf_mat_0 ad cI cZ _) rfl rfl hl.1 rfl (Nat.le_of_ble_eq_true rfl) dX7_memberOf_68 (fun H locs hI => ?_)
      exact tf_iret hx hb hr hI h dX7_memberOf_71 hlocks
    replace h := tf_neg c7 h
    refine lv_aload_n hx hb dX7_memberOf_27 rfl (lv_at hl 1 rfl) ?_
    refine lv_iload_n hx hb dX7_memberOf_28 rfl (lv_at hl 0 rfl) ?_
    refine lv_bipush (v := -3) hx hb dX7_memberOf_29 (by decide +kernel) ?_
    refine lv_icmp_ne (tgt := 39) hx hb dX7_memberOf_31 (by decide) (fun c15 => ?_) (fun c15 => ?_)
    · replace h := tf_neg c15 h
      refine lv_iconst (v := 5) hx hb dX7_memberOf_39 (by decide +kernel) ?_
      obtain ⟨s16, es16, h⟩ := tf_glet h
      refine tf_put (C := RX7) (T := TX7) (N := 35) (ty := .int) hx hb hts hn_X7 tyX7 tyX7_ok nmX7 hown hK hI 0 (tf_mat_0 ad cI cZ _) rfl 20 (by decide) hf_159 rfl rfl (by decide +kernel) rfl rfl (Nat.le_of_ble_eq_true rfl) (tf_mput_0_20 ad cI cZ _ _) es16 dX7_memberOf_40 (fun H locs hI => ?_)
      refine lv_iconst (v := -1) hx hb dX7_memberOf_43 (by decide +kernel) ?_
      exact tf_iret hx hb hr hI h dX7_memberOf_44 hlocks
    replace h := tf_pos c15 h
    refine lv_bipush (v := 8) hx hb dX7_memberOf_34 (by decide +kernel) ?_
    refine lv_goto (tgt := 40) hx hb dX7_memberOf_36 (by decide) ?_
    obtain ⟨s17, es17, h⟩ := tf_glet h
    refine tf_put (C := RX7) (T := TX7) (N := 35) (ty := .int) hx hb hts hn_X7 tyX7 tyX7_ok nmX7 hown hK hI 0 (tf_mat_0 ad cI cZ _) rfl 20 (by decide) hf_159 rfl rfl (by decide +kernel) rfl rfl (Nat.le_of_ble_eq_true rfl) (tf_mput_0_20 ad cI cZ _ _) es17 dX7_memberOf_40 (fun H locs hI => ?_)
    refine lv_iconst (v := -1) hx hb dX7_memberOf_43 (by decide +kernel) ?_
    exact tf_iret hx hb hr hI h dX7_memberOf_44 hlocks
  unfold fX7_memberOf at h
  refine lv_iload_n hx hb dX7_memberOf_0 rfl (lv_at hl 2 rfl) ?_
  obtain ⟨u1, q2, h⟩ := tf_gbind h
  refine tf_callS (rest := []) ⟨hx, hb, hml, hown, hts⟩ hK hN hI (kM_X7_isPrimitive l D ad cI cZ _ _ _ q2) (va_cwS 1 hts gX7_memberOf_X7_isPrimitive rfl rfl rfl (by decide +kernel) ⟨Nat.le_of_ble_eq_true rfl, Nat.le_of_ble_eq_true rfl⟩) rfl hl.1 rfl (Nat.le_of_ble_eq_true rfl) dX7_memberOf_1 (fun H locs hI => ?_)
  refine lv_if_eq (tgt := 11) hx hb dX7_memberOf_4 (by decide) (fun c3 => ?_) (fun c3 => ?_)
  · replace h := tf_pos c3 h
    refine lv_aload_n hx hb dX7_memberOf_11 rfl (lv_at hl 0 rfl) ?_
    refine lv_iload_n hx hb dX7_memberOf_12 rfl (lv_at hl 2 rfl) ?_
    refine lv_aload_n hx hb dX7_memberOf_13 rfl (lv_at hl 0 rfl) ?_
    refine tf_get (C := RX7) (T := TX7) (N := 35) hx hb hts hn_X7 hown hK hI 0 (tf_mat_0 ad cI cZ _) rfl 12 (by decide) hf_41 rfl rfl dX7_memberOf_14 ?_
    refine lv_iload_n hx hb dX7_memberOf_17 rfl (lv_at hl 1 rfl) ?_
    obtain ⟨b4, h⟩ := tf_gin h
    refine va_iald hx hb hK hI.1 9 0 (tf_mat_9 ad cI cZ _) rfl b4 dX7_memberOf_18 ?_
    obtain ⟨u5, q6, h⟩ := tf_gbind h
    refine tf_callV (rest := []) ⟨hx, hb, hml, hown, hts⟩ hK hN hI (kM_X7_seenAs l D ad cI cZ _ _ _ _ q6) (cwV 2 hts gX7_memberOf_X7_seenAs rfl rfl rfl (by decide +kernel) ⟨Nat.le_of_ble_eq_true rfl, Nat.le_of_ble_eq_true rfl⟩) 0 7 (tf_mat_0 ad cI cZ _) rfl rfl hl.1 rfl (Nat.le_of_ble_eq_true rfl) dX7_memberOf_19 (fun H locs hI => ?_)
    exact j22  _ _ _ _ _ h hI (lv_sub hl [0, 1] rfl)
  replace h := tf_neg c3 h
  refine lv_iconst (v := -1) hx hb dX7_memberOf_7 (by decide +kernel) ?_
  refine lv_goto (tgt := 22) hx hb dX7_memberOf_8 (by decide) ?_
  exact j22  _ _ _ _ _ h hI (lv_sub hl [0, 1] rfl)

set_option maxHeartbeats 4000000 in
set_option maxRecDepth 100000 in
theorem kM_X7_isFunction (l : Launch) (D : va_G) (ad : Nat → Nat) (cI cZ : ClassId) (σ : tf_S) (x1 x2 : Int32) (z : Int32 × tf_S) (h : fX7_isFunction σ x1 x2 = some z) : tf_C l D (tf_wm ad cI cZ) [(cI, .int), (cZ, .boolean)] [] yX7_isFunction wsX7_isFunction ({ frames := 1, cells := 0, slots := 0, locals := 22 }) [.ref (ad 0), .int x1, .int x2] σ z := by
  intro sz
  refine Met.ofW (cc := cX7_isFunction) (maxL := 3) (ret := (some .boolean)) (by decide) rfl ?_
  intro p e s m args below meth c s₁ B hml hv
  obtain ⟨rfl, hsz, hP, hK, hN, hD0⟩ := hv
  have hx := B.exec
  have hb := B.bytes
  have hr := B.returns
  have hts := atoms_spec (ws := wsX7_isFunction) B.pre
  have hown : s.vm.findClass RX7 = some m.cls := findClass_of_methodNamed B.named
  have hlocks := B.notSynchronized
  subst hsz
  have hI := tf_start (D := D) (tf_m_ad ad cI cZ) hP hD0
  have hl := lv_entry ([.ref (ad 0), .int x1, .int x2]) (n := 3) (Nat.le_of_ble_eq_true rfl)
  rw [lg_entry_eq]
  generalize (lg_sl ([.ref (ad 0), .int x1, .int x2]) ++ List.replicate (3 - (lg_sl ([.ref (ad 0), .int x1, .int x2])).length) Slot.unset).toArray = ls at hl ⊢
  have hl : lv_has ls 3 [(0, .ref (ad 0)), (1, .int x1), (2, .int x2)] := hl
  have hn_X7 : ∀ w ∈ u_ws RX7 TX7 35, w ∈ wsX7_isFunction := by decide +kernel
  have hf_50 := hts (.fieldLink RX7 50 "TypeFlowModel" "two" "[I") (by decide +kernel)
  have hf_156 := hts (.fieldLink RX7 156 "TypeFlowModel" "functions" "I") (by decide +kernel)
  unfold fX7_isFunction at h
  refine lv_iload_n hx hb dX7_isFunction_0 rfl (lv_at hl 1 rfl) ?_
  refine lv_iconst (v := 0) hx hb dX7_isFunction_1 (by decide +kernel) ?_
  refine lv_aload_n hx hb dX7_isFunction_2 rfl (lv_at hl 0 rfl) ?_
  refine tf_get (C := RX7) (T := TX7) (N := 35) hx hb hts hn_X7 hown hK hI 0 (tf_mat_0 ad cI cZ _) rfl 14 (by decide) hf_156 rfl rfl dX7_isFunction_3 ?_
  refine lv_iconst (v := 1) hx hb dX7_isFunction_6 (by decide +kernel) ?_
  refine lv_isub hx hb dX7_isFunction_7 ?_
  obtain ⟨u1, q2, h⟩ := tf_gbind h
  refine tf_callS (rest := []) ⟨hx, hb, hml, hown, hts⟩ hK hN hI (kM_X7_isIn l D ad cI cZ _ _ _ _ _ q2) (va_cwS 3 hts gX7_isFunction_X7_isIn rfl rfl rfl (by decide +kernel) ⟨Nat.le_of_ble_eq_true rfl, Nat.le_of_ble_eq_true rfl⟩) rfl hl.1 rfl (Nat.le_of_ble_eq_true rfl) dX7_isFunction_8 (fun H locs hI => ?_)
  refine lv_if_eq (tgt := 37) hx hb dX7_isFunction_11 (by decide) (fun c3 => ?_) (fun c3 => ?_)
  · replace h := tf_pos c3 h
    refine lv_iconst (v := 0) hx hb dX7_isFunction_37 (by decide +kernel) ?_
    exact tf_zret hx hb hr (Or.inl rfl) hI h dX7_isFunction_38 hlocks
  replace h := tf_neg c3 h
  refine lv_aload_n hx hb dX7_isFunction_14 rfl (lv_at hl 0 rfl) ?_
  refine tf_get (C := RX7) (T := TX7) (N := 35) hx hb hts hn_X7 hown hK hI 0 (tf_mat_0 ad cI cZ _) rfl 16 (by decide) hf_50 rfl rfl dX7_isFunction_15 ?_
  refine lv_iload_n hx hb dX7_isFunction_18 rfl (lv_at hl 1 rfl) ?_
  obtain ⟨b4, h⟩ := tf_gin h
  refine va_iald hx hb hK hI.1 12 0 (tf_mat_12 ad cI cZ _) rfl b4 dX7_isFunction_19 ?_
  refine lv_iconst (v := -1) hx hb dX7_isFunction_20 (by decide +kernel) ?_
  refine lv_icmp_eq (tgt := 28) hx hb dX7_isFunction_21 (by decide) (fun c5 => ?_) (fun c5 => ?_)
  · replace h := tf_pos c5 h
    refine lv_iconst (v := 0) hx hb dX7_isFunction_28 (by decide +kernel) ?_
    refine lv_iload_n hx hb dX7_isFunction_29 rfl (lv_at hl 2 rfl) ?_
    refine lv_icmp_ne (tgt := 37) hx hb dX7_isFunction_30 (by decide) (fun c6 => ?_) (fun c6 => ?_)
    · replace h := tf_neg c6 h
      refine lv_iconst (v := 0) hx hb dX7_isFunction_37 (by decide +kernel) ?_
      exact tf_zret hx hb hr (Or.inl rfl) hI h dX7_isFunction_38 hlocks
    replace h := tf_pos c6 h
    refine lv_iconst (v := 1) hx hb dX7_isFunction_33 (by decide +kernel) ?_
    refine lv_goto (tgt := 38) hx hb dX7_isFunction_34 (by decide) ?_
    exact tf_zret hx hb hr (Or.inr rfl) hI h dX7_isFunction_38 hlocks
  replace h := tf_neg c5 h
  refine lv_iconst (v := 1) hx hb dX7_isFunction_24 (by decide +kernel) ?_
  refine lv_goto (tgt := 29) hx hb dX7_isFunction_25 (by decide) ?_
  refine lv_iload_n hx hb dX7_isFunction_29 rfl (lv_at hl 2 rfl) ?_
  refine lv_icmp_ne (tgt := 37) hx hb dX7_isFunction_30 (by decide) (fun c7 => ?_) (fun c7 => ?_)
  · replace h := tf_neg c7 h
    refine lv_iconst (v := 0) hx hb dX7_isFunction_37 (by decide +kernel) ?_
    exact tf_zret hx hb hr (Or.inl rfl) hI h dX7_isFunction_38 hlocks
  replace h := tf_pos c7 h
  refine lv_iconst (v := 1) hx hb dX7_isFunction_33 (by decide +kernel) ?_
  refine lv_goto (tgt := 38) hx hb dX7_isFunction_34 (by decide) ?_
  exact tf_zret hx hb hr (Or.inr rfl) hI h dX7_isFunction_38 hlocks

set_option maxHeartbeats 4000000 in
set_option maxRecDepth 100000 in
theorem kM_X7_isRight (l : Launch) (D : va_G) (ad : Nat → Nat) (cI cZ : ClassId) (σ : tf_S) (x1 x2 x3 x4 : Int32) (z : Int32 × tf_S) (h : fX7_isRight σ x1 x2 x3 x4 = some z) : tf_C l D (tf_wm ad cI cZ) [(cI, .int), (cZ, .boolean)] [] yX7_isRight wsX7_isRight ({ frames := 3, cells := 0, slots := 0, locals := 64 }) [.ref (ad 0), .int x1, .int x2, .int x3, .int x4] σ z := by
  intro sz
  refine Met.ofW (cc := cX7_isRight) (maxL := 5) (ret := (some .boolean)) (by decide) rfl ?_
  intro p e s m args below meth c s₁ B hml hv
  obtain ⟨rfl, hsz, hP, hK, hN, hD0⟩ := hv
  have hx := B.exec
  have hb := B.bytes
  have hr := B.returns
  have hts := atoms_spec (ws := wsX7_isRight) B.pre
  have hown : s.vm.findClass RX7 = some m.cls := findClass_of_methodNamed B.named
  have hlocks := B.notSynchronized
  subst hsz
  have hI := tf_start (D := D) (tf_m_ad ad cI cZ) hP hD0
  have hl := lv_entry ([.ref (ad 0), .int x1, .int x2, .int x3, .int x4]) (n := 5) (Nat.le_of_ble_eq_true rfl)
  rw [lg_entry_eq]
  generalize (lg_sl ([.ref (ad 0), .int x1, .int x2, .int x3, .int x4]) ++ List.replicate (5 - (lg_sl ([.ref (ad 0), .int x1, .int x2, .int x3, .int x4])).length) Slot.unset).toArray = ls at hl ⊢
  have hl : lv_has ls 5 [(0, .ref (ad 0)), (1, .int x1), (2, .int x2), (3, .int x3), (4, .int x4)] := hl
  have hn_X7 : ∀ w ∈ u_ws RX7 TX7 35, w ∈ wsX7_isRight := by decide +kernel
  have hf_13 := hts (.fieldLink RX7 13 "TypeFlowModel" "variables" "[I") (by decide +kernel)
  have hf_153 := hts (.fieldLink RX7 153 "TypeFlowModel" "members" "I") (by decide +kernel)
  unfold fX7_isRight at h
  refine lv_iload_n hx hb dX7_isRight_0 rfl (lv_at hl 1 rfl) ?_
  by_cases c1 : x1 = (0 : Int32)
  · replace h := tf_pos c1 h
    refine lv_tableIn (tgt := 48) (off := 47) hx hb dX7_isRight_1 (by rw [c1]; decide +kernel) (by rw [c1]; decide +kernel) (by rw [c1]; decide +kernel) (by decide) ?_
    refine lv_aload_n hx hb dX7_isRight_48 rfl (lv_at hl 0 rfl) ?_
    refine lv_iload_n hx hb dX7_isRight_49 rfl (lv_at hl 2 rfl) ?_
    obtain ⟨u2, q3, h⟩ := tf_gbind h
    refine tf_callV (rest := []) ⟨hx, hb, hml, hown, hts⟩ hK hN hI (kM_X7_isClosed l D ad cI cZ _ _ _ q3) (cwV 1 hts gX7_isRight_X7_isClosed rfl rfl rfl (by decide +kernel) ⟨Nat.le_of_ble_eq_true rfl, Nat.le_of_ble_eq_true rfl⟩) 0 7 (tf_mat_0 ad cI cZ _) rfl rfl hl.1 rfl (Nat.le_of_ble_eq_true rfl) dX7_isRight_50 (fun H locs hI => ?_)
    obtain ⟨b4, h⟩ := tf_gbz h
    exact tf_zret hx hb hr b4 hI h dX7_isRight_53 hlocks
  replace h := tf_neg c1 h
  by_cases c5 : x1 = (1 : Int32)
  · replace h := tf_pos c5 h
    refine lv_tableIn (tgt := 54) (off := 53) hx hb dX7_isRight_1 (by rw [c5]; decide +kernel) (by rw [c5]; decide +kernel) (by rw [c5]; decide +kernel) (by decide) ?_
    refine lv_aload_n hx hb dX7_isRight_54 rfl (lv_at hl 0 rfl) ?_
    refine lv_iload_n hx hb dX7_isRight_55 rfl (lv_at hl 2 rfl) ?_
    refine lv_iconst (v := 0) hx hb dX7_isRight_56 (by decide +kernel) ?_
    obtain ⟨u6, q7, h⟩ := tf_gbind h
    refine tf_callV (rest := []) ⟨hx, hb, hml, hown, hts⟩ hK hN hI (kM_X7_isFunction l D ad cI cZ _ _ _ _ q7) (cwV 2 hts gX7_isRight_X7_isFunction rfl rfl rfl (by decide +kernel) ⟨Nat.le_of_ble_eq_true rfl, Nat.le_of_ble_eq_true rfl⟩) 0 7 (tf_mat_0 ad cI cZ _) rfl rfl hl.1 rfl (Nat.le_of_ble_eq_true rfl) dX7_isRight_57 (fun H locs hI => ?_)
    obtain ⟨b8, h⟩ := tf_gbz h
    exact tf_zret hx hb hr b8 hI h dX7_isRight_60 hlocks
  replace h := tf_neg c5 h
  by_cases c9 : x1 = (2 : Int32)
  · replace h := tf_pos c9 h
    refine lv_tableIn (tgt := 54) (off := 53) hx hb dX7_isRight_1 (by rw [c9]; decide +kernel) (by rw [c9]; decide +kernel) (by rw [c9]; decide +kernel) (by decide) ?_
    refine lv_aload_n hx hb dX7_isRight_54 rfl (lv_at hl 0 rfl) ?_
    refine lv_iload_n hx hb dX7_isRight_55 rfl (lv_at hl 2 rfl) ?_
    refine lv_iconst (v := 0) hx hb dX7_isRight_56 (by decide +kernel) ?_
    obtain ⟨u10, q11, h⟩ := tf_gbind h
    refine tf_callV (rest := []) ⟨hx, hb, hml, hown, hts⟩ hK hN hI (kM_X7_isFunction l D ad cI cZ _ _ _ _ q11) (cwV 2 hts gX7_isRight_X7_isFunction rfl rfl rfl (by decide +kernel) ⟨Nat.le_of_ble_eq_true rfl, Nat.le_of_ble_eq_true rfl⟩) 0 7 (tf_mat_0 ad cI cZ _) rfl rfl hl.1 rfl (Nat.le_of_ble_eq_true rfl) dX7_isRight_57 (fun H locs hI => ?_)
    obtain ⟨b12, h⟩ := tf_gbz h
    exact tf_zret hx hb hr b12 hI h dX7_isRight_60 hlocks
  replace h := tf_neg c9 h
  by_cases c13 : x1 = (3 : Int32)
  · replace h := tf_pos c13 h
    refine lv_tableIn (tgt := 61) (off := 60) hx hb dX7_isRight_1 (by rw [c13]; decide +kernel) (by rw [c13]; decide +kernel) (by rw [c13]; decide +kernel) (by decide) ?_
    refine lv_iload_n hx hb dX7_isRight_61 rfl (lv_at hl 2 rfl) ?_
    refine lv_iconst (v := 0) hx hb dX7_isRight_62 (by decide +kernel) ?_
    refine lv_aload_n hx hb dX7_isRight_63 rfl (lv_at hl 0 rfl) ?_
    refine tf_get (C := RX7) (T := TX7) (N := 35) hx hb hts hn_X7 hown hK hI 0 (tf_mat_0 ad cI cZ _) rfl 11 (by decide) hf_153 rfl rfl dX7_isRight_64 ?_
    refine lv_iconst (v := 1) hx hb dX7_isRight_67 (by decide +kernel) ?_
    refine lv_isub hx hb dX7_isRight_68 ?_
    obtain ⟨u14, q15, h⟩ := tf_gbind h
    refine tf_callS (rest := []) ⟨hx, hb, hml, hown, hts⟩ hK hN hI (kM_X7_isIn l D ad cI cZ _ _ _ _ _ q15) (va_cwS 3 hts gX7_isRight_X7_isIn rfl rfl rfl (by decide +kernel) ⟨Nat.le_of_ble_eq_true rfl, Nat.le_of_ble_eq_true rfl⟩) rfl hl.1 rfl (Nat.le_of_ble_eq_true rfl) dX7_isRight_69 (fun H locs hI => ?_)
    obtain ⟨b16, h⟩ := tf_gbz h
    exact tf_zret hx hb hr b16 hI h dX7_isRight_72 hlocks
  replace h := tf_neg c13 h
  by_cases c17 : x1 = (4 : Int32)
  · replace h := tf_pos c17 h
    refine lv_tableIn (tgt := 134) (off := 133) hx hb dX7_isRight_1 (by rw [c17]; decide +kernel) (by rw [c17]; decide +kernel) (by rw [c17]; decide +kernel) (by decide) ?_
    refine lv_iconst (v := 1) hx hb dX7_isRight_134 (by decide +kernel) ?_
    exact tf_zret hx hb hr (Or.inr rfl) hI h dX7_isRight_135 hlocks
  replace h := tf_neg c17 h
  by_cases c18 : x1 = (5 : Int32)
  · replace h := tf_pos c18 h
    refine lv_tableIn (tgt := 73) (off := 72) hx hb dX7_isRight_1 (by rw [c18]; decide +kernel) (by rw [c18]; decide +kernel) (by rw [c18]; decide +kernel) (by decide) ?_
    refine lv_aload_n hx hb dX7_isRight_73 rfl (lv_at hl 0 rfl) ?_
    refine lv_iload_n hx hb dX7_isRight_74 rfl (lv_at hl 2 rfl) ?_
    refine lv_iconst (v := 1) hx hb dX7_isRight_75 (by decide +kernel) ?_
    obtain ⟨u19, q20, h⟩ := tf_gbind h
    refine tf_callV (rest := []) ⟨hx, hb, hml, hown, hts⟩ hK hN hI (kM_X7_isFunction l D ad cI cZ _ _ _ _ q20) (cwV 2 hts gX7_isRight_X7_isFunction rfl rfl rfl (by decide +kernel) ⟨Nat.le_of_ble_eq_true rfl, Nat.le_of_ble_eq_true rfl⟩) 0 7 (tf_mat_0 ad cI cZ _) rfl rfl hl.1 rfl (Nat.le_of_ble_eq_true rfl) dX7_isRight_76 (fun H locs hI => ?_)
    obtain ⟨b21, h⟩ := tf_gbz h
    exact tf_zret hx hb hr b21 hI h dX7_isRight_79 hlocks
  replace h := tf_neg c18 h
  by_cases c22 : x1 = (6 : Int32)
  · replace h := tf_pos c22 h
    refine lv_tableIn (tgt := 80) (off := 79) hx hb dX7_isRight_1 (by rw [c22]; decide +kernel) (by rw [c22]; decide +kernel) (by rw [c22]; decide +kernel) (by decide) ?_
    refine lv_iload_n hx hb dX7_isRight_80 rfl (lv_at hl 2 rfl) ?_
    refine lv_iconst (v := 0) hx hb dX7_isRight_81 (by decide +kernel) ?_
    refine lv_aload_n hx hb dX7_isRight_82 rfl (lv_at hl 0 rfl) ?_
    refine tf_get (C := RX7) (T := TX7) (N := 35) hx hb hts hn_X7 hown hK hI 0 (tf_mat_0 ad cI cZ _) rfl 11 (by decide) hf_153 rfl rfl dX7_isRight_83 ?_
    refine lv_iconst (v := 1) hx hb dX7_isRight_86 (by decide +kernel) ?_
    refine lv_isub hx hb dX7_isRight_87 ?_
    obtain ⟨u23, q24, h⟩ := tf_gbind h
    refine tf_callS (rest := []) ⟨hx, hb, hml, hown, hts⟩ hK hN hI (kM_X7_isIn l D ad cI cZ _ _ _ _ _ q24) (va_cwS 3 hts gX7_isRight_X7_isIn rfl rfl rfl (by decide +kernel) ⟨Nat.le_of_ble_eq_true rfl, Nat.le_of_ble_eq_true rfl⟩) rfl hl.1 rfl (Nat.le_of_ble_eq_true rfl) dX7_isRight_88 (fun H locs hI => ?_)
    refine lv_if_eq (tgt := 132) hx hb dX7_isRight_91 (by decide) (fun c25 => ?_) (fun c25 => ?_)
    · replace h := tf_pos c25 h
      refine lv_iconst (v := 0) hx hb dX7_isRight_132 (by decide +kernel) ?_
      exact tf_zret hx hb hr (Or.inl rfl) hI h dX7_isRight_133 hlocks
    replace h := tf_neg c25 h
    refine lv_iload_n hx hb dX7_isRight_94 rfl (lv_at hl 3 rfl) ?_
    refine lv_iconst (v := 0) hx hb dX7_isRight_95 (by decide +kernel) ?_
    refine lv_aload_n hx hb dX7_isRight_96 rfl (lv_at hl 0 rfl) ?_
    refine tf_get (C := RX7) (T := TX7) (N := 35) hx hb hts hn_X7 hown hK hI 0 (tf_mat_0 ad cI cZ _) rfl 11 (by decide) hf_153 rfl rfl dX7_isRight_97 ?_
    refine lv_iconst (v := 1) hx hb dX7_isRight_100 (by decide +kernel) ?_
    refine lv_isub hx hb dX7_isRight_101 ?_
    obtain ⟨u26, q27, h⟩ := tf_gbind h
    refine tf_callS (rest := []) ⟨hx, hb, hml, hown, hts⟩ hK hN hI (kM_X7_isIn l D ad cI cZ _ _ _ _ _ q27) (va_cwS 3 hts gX7_isRight_X7_isIn rfl rfl rfl (by decide +kernel) ⟨Nat.le_of_ble_eq_true rfl, Nat.le_of_ble_eq_true rfl⟩) rfl hl.1 rfl (Nat.le_of_ble_eq_true rfl) dX7_isRight_102 (fun H locs hI => ?_)
    refine lv_if_eq (tgt := 132) hx hb dX7_isRight_105 (by decide) (fun c28 => ?_) (fun c28 => ?_)
    · replace h := tf_pos c28 h
      refine lv_iconst (v := 0) hx hb dX7_isRight_132 (by decide +kernel) ?_
      exact tf_zret hx hb hr (Or.inl rfl) hI h dX7_isRight_133 hlocks
    replace h := tf_neg c28 h
    refine lv_aload_n hx hb dX7_isRight_108 rfl (lv_at hl 0 rfl) ?_
    refine lv_iload hx hb dX7_isRight_109 (lv_at hl 4 rfl) ?_
    obtain ⟨u29, q30, h⟩ := tf_gbind h
    refine tf_callV (rest := []) ⟨hx, hb, hml, hown, hts⟩ hK hN hI (kM_X7_isClass l D ad cI cZ _ _ _ q30) (cwV 1 hts gX7_isRight_X7_isClass rfl rfl rfl (by decide +kernel) ⟨Nat.le_of_ble_eq_true rfl, Nat.le_of_ble_eq_true rfl⟩) 0 7 (tf_mat_0 ad cI cZ _) rfl rfl hl.1 rfl (Nat.le_of_ble_eq_true rfl) dX7_isRight_111 (fun H locs hI => ?_)
    refine lv_if_eq (tgt := 132) hx hb dX7_isRight_114 (by decide) (fun c31 => ?_) (fun c31 => ?_)
    · replace h := tf_pos c31 h
      refine lv_iconst (v := 0) hx hb dX7_isRight_132 (by decide +kernel) ?_
      exact tf_zret hx hb hr (Or.inl rfl) hI h dX7_isRight_133 hlocks
    replace h := tf_neg c31 h
    refine lv_aload_n hx hb dX7_isRight_117 rfl (lv_at hl 0 rfl) ?_
    refine tf_get (C := RX7) (T := TX7) (N := 35) hx hb hts hn_X7 hown hK hI 0 (tf_mat_0 ad cI cZ _) rfl 1 (by decide) hf_13 rfl rfl dX7_isRight_118 ?_
    refine lv_iload hx hb dX7_isRight_121 (lv_at hl 4 rfl) ?_
    obtain ⟨b32, h⟩ := tf_gin h
    refine va_iald hx hb hK hI.1 1 0 (tf_mat_1 ad cI cZ _) rfl b32 dX7_isRight_123 ?_
    refine lv_iconst (v := 2) hx hb dX7_isRight_124 (by decide +kernel) ?_
    refine lv_icmp_ne (tgt := 132) hx hb dX7_isRight_125 (by decide) (fun c33 => ?_) (fun c33 => ?_)
    · replace h := tf_neg c33 h
      refine lv_iconst (v := 0) hx hb dX7_isRight_132 (by decide +kernel) ?_
      exact tf_zret hx hb hr (Or.inl rfl) hI h dX7_isRight_133 hlocks
    replace h := tf_pos c33 h
    refine lv_iconst (v := 1) hx hb dX7_isRight_128 (by decide +kernel) ?_
    refine lv_goto (tgt := 133) hx hb dX7_isRight_129 (by decide) ?_
    exact tf_zret hx hb hr (Or.inr rfl) hI h dX7_isRight_133 hlocks
  replace h := tf_neg c22 h
  by_cases c34 : x1 = (7 : Int32)
  · replace h := tf_pos c34 h
    refine lv_tableIn (tgt := 48) (off := 47) hx hb dX7_isRight_1 (by rw [c34]; decide +kernel) (by rw [c34]; decide +kernel) (by rw [c34]; decide +kernel) (by decide) ?_
    refine lv_aload_n hx hb dX7_isRight_48 rfl (lv_at hl 0 rfl) ?_
    refine lv_iload_n hx hb dX7_isRight_49 rfl (lv_at hl 2 rfl) ?_
    obtain ⟨u35, q36, h⟩ := tf_gbind h
    refine tf_callV (rest := []) ⟨hx, hb, hml, hown, hts⟩ hK hN hI (kM_X7_isClosed l D ad cI cZ _ _ _ q36) (cwV 1 hts gX7_isRight_X7_isClosed rfl rfl rfl (by decide +kernel) ⟨Nat.le_of_ble_eq_true rfl, Nat.le_of_ble_eq_true rfl⟩) 0 7 (tf_mat_0 ad cI cZ _) rfl rfl hl.1 rfl (Nat.le_of_ble_eq_true rfl) dX7_isRight_50 (fun H locs hI => ?_)
    obtain ⟨b37, h⟩ := tf_gbz h
    exact tf_zret hx hb hr b37 hI h dX7_isRight_53 hlocks
  replace h := tf_neg c34 h
  refine lv_tableOut (tgt := 134) hx hb dX7_isRight_1 (by have ac1 := lv_neT c1 (a := 0) (by decide +kernel); have ac5 := lv_neT c5 (a := 1) (by decide +kernel); have ac9 := lv_neT c9 (a := 2) (by decide +kernel); have ac13 := lv_neT c13 (a := 3) (by decide +kernel); have ac17 := lv_neT c17 (a := 4) (by decide +kernel); have ac18 := lv_neT c18 (a := 5) (by decide +kernel); have ac22 := lv_neT c22 (a := 6) (by decide +kernel); have ac34 := lv_neT c34 (a := 7) (by decide +kernel); omega) (by decide) ?_
  refine lv_iconst (v := 1) hx hb dX7_isRight_134 (by decide +kernel) ?_
  exact tf_zret hx hb hr (Or.inr rfl) hI h dX7_isRight_135 hlocks

set_option maxHeartbeats 4000000 in
set_option maxRecDepth 100000 in
theorem kM_X7_operator (l : Launch) (D : va_G) (ad : Nat → Nat) (cI cZ : ClassId) (σ : tf_S) (x1 x2 x3 x4 x5 x6 : Int32) (z : Int32 × tf_S) (h : fX7_operator σ x1 x2 x3 x4 x5 x6 = some z) : tf_C l D (tf_wm ad cI cZ) [(cI, .int), (cZ, .boolean)] [] yX7_operator wsX7_operator ({ frames := 4, cells := 0, slots := 0, locals := 88 }) [.ref (ad 0), .int x1, .int x2, .int x3, .int x4, .int x5, .int x6] σ z := by
  intro sz
  refine Met.ofW (cc := cX7_operator) (maxL := 9) (ret := (some .int)) (by decide) rfl ?_
  intro p e s m args below meth c s₁ B hml hv
  obtain ⟨rfl, hsz, hP, hK, hN, hD0⟩ := hv
  have hx := B.exec
  have hb := B.bytes
  have hr := B.returns
  have hts := atoms_spec (ws := wsX7_operator) B.pre
  have hown : s.vm.findClass RX7 = some m.cls := findClass_of_methodNamed B.named
  have hlocks := B.notSynchronized
  subst hsz
  have hI := tf_start (D := D) (tf_m_ad ad cI cZ) hP hD0
  have hl := lv_entry ([.ref (ad 0), .int x1, .int x2, .int x3, .int x4, .int x5, .int x6]) (n := 9) (Nat.le_of_ble_eq_true rfl)
  rw [lg_entry_eq]
  generalize (lg_sl ([.ref (ad 0), .int x1, .int x2, .int x3, .int x4, .int x5, .int x6]) ++ List.replicate (9 - (lg_sl ([.ref (ad 0), .int x1, .int x2, .int x3, .int x4, .int x5, .int x6])).length) Slot.unset).toArray = ls at hl ⊢
  have hl : lv_has ls 9 [(0, .ref (ad 0)), (1, .int x1), (2, .int x2), (3, .int x3), (4, .int x4), (5, .int x5), (6, .int x6)] := hl
  have hn_X7 : ∀ w ∈ u_ws RX7 TX7 35, w ∈ wsX7_operator := by decide +kernel
  have hf_69 := hts (.fieldLink RX7 69 "TypeFlowModel" "kind" "[I") (by decide +kernel)
  have hf_72 := hts (.fieldLink RX7 72 "TypeFlowModel" "in" "[I") (by decide +kernel)
  have hf_75 := hts (.fieldLink RX7 75 "TypeFlowModel" "other" "[I") (by decide +kernel)
  have hf_78 := hts (.fieldLink RX7 78 "TypeFlowModel" "by" "[I") (by decide +kernel)
  have hf_81 := hts (.fieldLink RX7 81 "TypeFlowModel" "byToo" "[I") (by decide +kernel)
  have hf_84 := hts (.fieldLink RX7 84 "TypeFlowModel" "of" "[I") (by decide +kernel)
  have hf_87 := hts (.fieldLink RX7 87 "TypeFlowModel" "comes" "[I") (by decide +kernel)
  have hf_90 := hts (.fieldLink RX7 90 "TypeFlowModel" "reasons" "[I") (by decide +kernel)
  have hf_93 := hts (.fieldLink RX7 93 "TypeFlowModel" "mayFail" "[Z") (by decide +kernel)
  have hf_96 := hts (.fieldLink RX7 96 "TypeFlowModel" "bound" "[I") (by decide +kernel)
  have hf_189 := hts (.fieldLink RX7 189 "TypeFlowModel" "operators" "I") (by decide +kernel)
  have j55 : ∀ (σ : tf_S) (y7 t0 : Int32) (H : Heap) (locs : List Loc) (ls : Array Slot), fX7_operator_55 x1 x2 x3 x4 x5 x6 σ y7 t0 = some z → tf_I D (tf_wm ad cI cZ) s.heap σ H locs → lv_has ls 9 [(0, .ref (ad 0)), (1, .int x1), (2, .int x2), (3, .int x3), (4, .int x4), (5, .int x5), (6, .int x6), (7, .int y7)] → W p l e (headSpec wsX7_operator ({ frames := 4, cells := 0, slots := 0, locals := 88 })).room s m ([.ref (ad 0), .int x1, .int x2, .int x3, .int x4, .int x5, .int x6] : List Value).toArray below meth c H locs 0 0 (tf_Q below D (tf_wm ad cI cZ) z ([.ref (ad 0), .int x1, .int x2, .int x3, .int x4, .int x5, .int x6] : List Value).toArray s) (F0 m 55 ls [.int t0]) := by
    intro σ y7 t0 H locs ls h hI hl
    unfold fX7_operator_55 at h
    refine lv_istore (lv' := [(8, .int t0), (0, .ref (ad 0)), (1, .int x1), (2, .int x2), (3, .int x3), (4, .int x4), (5, .int x5), (6, .int x6), (7, .int y7)]) hx hb dX7_operator_55 hl (by decide) rfl (fun ls hl => ?_)
    refine lv_iload_n hx hb dX7_operator_57 rfl (lv_at hl 2 rfl) ?_
    refine lv_iconst (v := 0) hx hb dX7_operator_58 (by decide +kernel) ?_
    refine lv_bipush (v := 7) hx hb dX7_operator_59 (by decide +kernel) ?_
    obtain ⟨u3, q4, h⟩ := tf_gbind h
    refine tf_callS (rest := []) ⟨hx, hb, hml, hown, hts⟩ hK hN hI (kM_X7_isIn l D ad cI cZ _ _ _ _ _ q4) (va_cwS 3 hts gX7_operator_X7_isIn rfl rfl rfl (by decide +kernel) ⟨Nat.le_of_ble_eq_true rfl, Nat.le_of_ble_eq_true rfl⟩) rfl hl.1 rfl (Nat.le_of_ble_eq_true rfl) dX7_operator_61 (fun H locs hI => ?_)
    refine lv_if_eq (tgt := 91) hx hb dX7_operator_64 (by decide) (fun c5 => ?_) (fun c5 => ?_)
    · replace h := tf_pos c5 h
      refine lv_bipush (v := -2) hx hb dX7_operator_91 (by decide +kernel) ?_
      exact tf_iret hx hb hr hI h dX7_operator_93 hlocks
    replace h := tf_neg c5 h
    refine lv_iload hx hb dX7_operator_67 (lv_at hl 8 rfl) ?_
    refine lv_if_eq (tgt := 91) hx hb dX7_operator_69 (by decide) (fun c6 => ?_) (fun c6 => ?_)
    · replace h := tf_pos c6 h
      refine lv_bipush (v := -2) hx hb dX7_operator_91 (by decide +kernel) ?_
      exact tf_iret hx hb hr hI h dX7_operator_93 hlocks
    replace h := tf_neg c6 h
    refine lv_iload hx hb dX7_operator_72 (lv_at hl 0 rfl) ?_
    refine lv_if_eq (tgt := 91) hx hb dX7_operator_74 (by decide) (fun c7 => ?_) (fun c7 => ?_)
    · replace h := tf_pos c7 h
      refine lv_bipush (v := -2) hx hb dX7_operator_91 (by decide +kernel) ?_
      exact tf_iret hx hb hr hI h dX7_operator_93 hlocks
    replace h := tf_neg c7 h
    refine lv_aload_n hx hb dX7_operator_77 rfl (lv_at hl 1 rfl) ?_
    refine lv_iload_n hx hb dX7_operator_78 rfl (lv_at hl 2 rfl) ?_
    refine lv_iload hx hb dX7_operator_79 (lv_at hl 5 rfl) ?_
    refine lv_iload hx hb dX7_operator_81 (lv_at hl 6 rfl) ?_
    refine lv_iload hx hb dX7_operator_83 (lv_at hl 7 rfl) ?_
    obtain ⟨u8, q9, h⟩ := tf_gbind h
    refine tf_callV (rest := []) ⟨hx, hb, hml, hown, hts⟩ hK hN hI (kM_X7_isRight l D ad cI cZ _ _ _ _ _ _ q9) (cwV 4 hts gX7_operator_X7_isRight rfl rfl rfl (by decide +kernel) ⟨Nat.le_of_ble_eq_true rfl, Nat.le_of_ble_eq_true rfl⟩) 0 7 (tf_mat_0 ad cI cZ _) rfl rfl hl.1 rfl (Nat.le_of_ble_eq_true rfl) dX7_operator_85 (fun H locs hI => ?_)
    refine lv_if_ne (tgt := 94) hx hb dX7_operator_88 (by decide) (fun c10 => ?_) (fun c10 => ?_)
    · replace h := tf_neg c10 h
      refine lv_aload_n hx hb dX7_operator_94 rfl (lv_at hl 1 rfl) ?_
      refine tf_get (C := RX7) (T := TX7) (N := 35) hx hb hts hn_X7 hown hK hI 0 (tf_mat_0 ad cI cZ _) rfl 24 (by decide) hf_189 rfl rfl dX7_operator_95 ?_
      refine lv_bipush (v := 24) hx hb dX7_operator_98 (by decide +kernel) ?_
      refine lv_icmp_ne (tgt := 106) hx hb dX7_operator_100 (by decide) (fun c11 => ?_) (fun c11 => ?_)
      · replace h := tf_neg c11 h
        refine lv_aload_n hx hb dX7_operator_106 rfl (lv_at hl 1 rfl) ?_
        refine tf_get (C := RX7) (T := TX7) (N := 35) hx hb hts hn_X7 hown hK hI 0 (tf_mat_0 ad cI cZ _) rfl 25 (by decide) hf_69 rfl rfl dX7_operator_107 ?_
        refine lv_aload_n hx hb dX7_operator_110 rfl (lv_at hl 1 rfl) ?_
        refine tf_get (C := RX7) (T := TX7) (N := 35) hx hb hts hn_X7 hown hK hI 0 (tf_mat_0 ad cI cZ _) rfl 24 (by decide) hf_189 rfl rfl dX7_operator_111 ?_
        refine lv_iload_n hx hb dX7_operator_114 rfl (lv_at hl 2 rfl) ?_
        obtain ⟨b12, h⟩ := tf_gin h
        obtain ⟨s13, es13, h⟩ := tf_glet h
        refine tf_iast hx hb hK hI 18 0 (tf_mat_18 ad cI cZ _) (tf_mset_18 ad cI cZ _) rfl b12 es13 dX7_operator_115 (fun H locs hI => ?_)
        refine lv_aload_n hx hb dX7_operator_116 rfl (lv_at hl 1 rfl) ?_
        refine tf_get (C := RX7) (T := TX7) (N := 35) hx hb hts hn_X7 hown hK hI 0 (tf_mat_0 ad cI cZ _) rfl 26 (by decide) hf_72 rfl rfl dX7_operator_117 ?_
        refine lv_aload_n hx hb dX7_operator_120 rfl (lv_at hl 1 rfl) ?_
        refine tf_get (C := RX7) (T := TX7) (N := 35) hx hb hts hn_X7 hown hK hI 0 (tf_mat_0 ad cI cZ _) rfl 24 (by decide) hf_189 rfl rfl dX7_operator_121 ?_
        refine lv_iload_n hx hb dX7_operator_124 rfl (lv_at hl 3 rfl) ?_
        obtain ⟨b14, h⟩ := tf_gin h
        obtain ⟨s15, es15, h⟩ := tf_glet h
        refine tf_iast hx hb hK hI 19 0 (tf_mat_19 ad cI cZ _) (tf_mset_19 ad cI cZ _) rfl b14 es15 dX7_operator_125 (fun H locs hI => ?_)
        refine lv_aload_n hx hb dX7_operator_126 rfl (lv_at hl 1 rfl) ?_
        refine tf_get (C := RX7) (T := TX7) (N := 35) hx hb hts hn_X7 hown hK hI 0 (tf_mat_0 ad cI cZ _) rfl 27 (by decide) hf_75 rfl rfl dX7_operator_127 ?_
        refine lv_aload_n hx hb dX7_operator_130 rfl (lv_at hl 1 rfl) ?_
        refine tf_get (C := RX7) (T := TX7) (N := 35) hx hb hts hn_X7 hown hK hI 0 (tf_mat_0 ad cI cZ _) rfl 24 (by decide) hf_189 rfl rfl dX7_operator_131 ?_
        refine lv_iload_n hx hb dX7_operator_134 rfl (lv_at hl 4 rfl) ?_
        obtain ⟨b16, h⟩ := tf_gin h
        obtain ⟨s17, es17, h⟩ := tf_glet h
        refine tf_iast hx hb hK hI 20 0 (tf_mat_20 ad cI cZ _) (tf_mset_20 ad cI cZ _) rfl b16 es17 dX7_operator_135 (fun H locs hI => ?_)
        refine lv_aload_n hx hb dX7_operator_136 rfl (lv_at hl 1 rfl) ?_
        refine tf_get (C := RX7) (T := TX7) (N := 35) hx hb hts hn_X7 hown hK hI 0 (tf_mat_0 ad cI cZ _) rfl 28 (by decide) hf_78 rfl rfl dX7_operator_137 ?_
        refine lv_aload_n hx hb dX7_operator_140 rfl (lv_at hl 1 rfl) ?_
        refine tf_get (C := RX7) (T := TX7) (N := 35) hx hb hts hn_X7 hown hK hI 0 (tf_mat_0 ad cI cZ _) rfl 24 (by decide) hf_189 rfl rfl dX7_operator_141 ?_
        refine lv_iload hx hb dX7_operator_144 (lv_at hl 5 rfl) ?_
        obtain ⟨b18, h⟩ := tf_gin h
        obtain ⟨s19, es19, h⟩ := tf_glet h
        refine tf_iast hx hb hK hI 21 0 (tf_mat_21 ad cI cZ _) (tf_mset_21 ad cI cZ _) rfl b18 es19 dX7_operator_146 (fun H locs hI => ?_)
        refine lv_aload_n hx hb dX7_operator_147 rfl (lv_at hl 1 rfl) ?_
        refine tf_get (C := RX7) (T := TX7) (N := 35) hx hb hts hn_X7 hown hK hI 0 (tf_mat_0 ad cI cZ _) rfl 29 (by decide) hf_81 rfl rfl dX7_operator_148 ?_
        refine lv_aload_n hx hb dX7_operator_151 rfl (lv_at hl 1 rfl) ?_
        refine tf_get (C := RX7) (T := TX7) (N := 35) hx hb hts hn_X7 hown hK hI 0 (tf_mat_0 ad cI cZ _) rfl 24 (by decide) hf_189 rfl rfl dX7_operator_152 ?_
        refine lv_iload hx hb dX7_operator_155 (lv_at hl 6 rfl) ?_
        obtain ⟨b20, h⟩ := tf_gin h
        obtain ⟨s21, es21, h⟩ := tf_glet h
        refine tf_iast hx hb hK hI 22 0 (tf_mat_22 ad cI cZ _) (tf_mset_22 ad cI cZ _) rfl b20 es21 dX7_operator_157 (fun H locs hI => ?_)
        refine lv_aload_n hx hb dX7_operator_158 rfl (lv_at hl 1 rfl) ?_
        refine tf_get (C := RX7) (T := TX7) (N := 35) hx hb hts hn_X7 hown hK hI 0 (tf_mat_0 ad cI cZ _) rfl 30 (by decide) hf_84 rfl rfl dX7_operator_159 ?_
        refine lv_aload_n hx hb dX7_operator_162 rfl (lv_at hl 1 rfl) ?_
        refine tf_get (C := RX7) (T := TX7) (N := 35) hx hb hts hn_X7 hown hK hI 0 (tf_mat_0 ad cI cZ _) rfl 24 (by decide) hf_189 rfl rfl dX7_operator_163 ?_
        refine lv_iload hx hb dX7_operator_166 (lv_at hl 7 rfl) ?_
        obtain ⟨b22, h⟩ := tf_gin h
        obtain ⟨s23, es23, h⟩ := tf_glet h
        refine tf_iast hx hb hK hI 23 0 (tf_mat_23 ad cI cZ _) (tf_mset_23 ad cI cZ _) rfl b22 es23 dX7_operator_168 (fun H locs hI => ?_)
        refine lv_aload_n hx hb dX7_operator_169 rfl (lv_at hl 1 rfl) ?_
        refine tf_get (C := RX7) (T := TX7) (N := 35) hx hb hts hn_X7 hown hK hI 0 (tf_mat_0 ad cI cZ _) rfl 31 (by decide) hf_87 rfl rfl dX7_operator_170 ?_
        refine lv_aload_n hx hb dX7_operator_173 rfl (lv_at hl 1 rfl) ?_
        refine tf_get (C := RX7) (T := TX7) (N := 35) hx hb hts hn_X7 hown hK hI 0 (tf_mat_0 ad cI cZ _) rfl 24 (by decide) hf_189 rfl rfl dX7_operator_174 ?_
        refine lv_iconst (v := -1) hx hb dX7_operator_177 (by decide +kernel) ?_
        obtain ⟨b24, h⟩ := tf_gin h
        obtain ⟨s25, es25, h⟩ := tf_glet h
        refine tf_iast hx hb hK hI 24 0 (tf_mat_24 ad cI cZ _) (tf_mset_24 ad cI cZ _) rfl b24 es25 dX7_operator_178 (fun H locs hI => ?_)
        refine lv_aload_n hx hb dX7_operator_179 rfl (lv_at hl 1 rfl) ?_
        refine tf_get (C := RX7) (T := TX7) (N := 35) hx hb hts hn_X7 hown hK hI 0 (tf_mat_0 ad cI cZ _) rfl 32 (by decide) hf_90 rfl rfl dX7_operator_180 ?_
        refine lv_aload_n hx hb dX7_operator_183 rfl (lv_at hl 1 rfl) ?_
        refine tf_get (C := RX7) (T := TX7) (N := 35) hx hb hts hn_X7 hown hK hI 0 (tf_mat_0 ad cI cZ _) rfl 24 (by decide) hf_189 rfl rfl dX7_operator_184 ?_
        refine lv_iconst (v := 0) hx hb dX7_operator_187 (by decide +kernel) ?_
        obtain ⟨b26, h⟩ := tf_gin h
        obtain ⟨s27, es27, h⟩ := tf_glet h
        refine tf_iast hx hb hK hI 25 0 (tf_mat_25 ad cI cZ _) (tf_mset_25 ad cI cZ _) rfl b26 es27 dX7_operator_188 (fun H locs hI => ?_)
        refine lv_aload_n hx hb dX7_operator_189 rfl (lv_at hl 1 rfl) ?_
        refine tf_get (C := RX7) (T := TX7) (N := 35) hx hb hts hn_X7 hown hK hI 0 (tf_mat_0 ad cI cZ _) rfl 33 (by decide) hf_93 rfl rfl dX7_operator_190 ?_
        refine lv_aload_n hx hb dX7_operator_193 rfl (lv_at hl 1 rfl) ?_
        refine tf_get (C := RX7) (T := TX7) (N := 35) hx hb hts hn_X7 hown hK hI 0 (tf_mat_0 ad cI cZ _) rfl 24 (by decide) hf_189 rfl rfl dX7_operator_194 ?_
        refine lv_iconst (v := 0) hx hb dX7_operator_197 (by decide +kernel) ?_
        obtain ⟨b28, h⟩ := tf_gin h
        obtain ⟨s29, es29, h⟩ := tf_glet h
        refine tf_zast hx hb hK hI 26 1 (tf_mat_26 ad cI cZ _) (tf_mset_26 ad cI cZ _) rfl b28 (Or.inl rfl) es29 dX7_operator_198 (fun H locs hI => ?_)
        refine lv_aload_n hx hb dX7_operator_199 rfl (lv_at hl 1 rfl) ?_
        refine tf_get (C := RX7) (T := TX7) (N := 35) hx hb hts hn_X7 hown hK hI 0 (tf_mat_0 ad cI cZ _) rfl 34 (by decide) hf_96 rfl rfl dX7_operator_200 ?_
        refine lv_iconst (v := 2) hx hb dX7_operator_203 (by decide +kernel) ?_
        refine lv_aload_n hx hb dX7_operator_204 rfl (lv_at hl 1 rfl) ?_
        refine tf_get (C := RX7) (T := TX7) (N := 35) hx hb hts hn_X7 hown hK hI 0 (tf_mat_0 ad cI cZ _) rfl 24 (by decide) hf_189 rfl rfl dX7_operator_205 ?_
        refine lv_imul hx hb dX7_operator_208 ?_
        refine lv_iconst (v := -1) hx hb dX7_operator_209 (by decide +kernel) ?_
        obtain ⟨b30, h⟩ := tf_gin h
        obtain ⟨s31, es31, h⟩ := tf_glet h
        refine tf_iast hx hb hK hI 27 0 (tf_mat_27 ad cI cZ _) (tf_mset_27 ad cI cZ _) rfl b30 es31 dX7_operator_210 (fun H locs hI => ?_)
        refine lv_aload_n hx hb dX7_operator_211 rfl (lv_at hl 1 rfl) ?_
        refine tf_get (C := RX7) (T := TX7) (N := 35) hx hb hts hn_X7 hown hK hI 0 (tf_mat_0 ad cI cZ _) rfl 34 (by decide) hf_96 rfl rfl dX7_operator_212 ?_
        refine lv_iconst (v := 2) hx hb dX7_operator_215 (by decide +kernel) ?_
        refine lv_aload_n hx hb dX7_operator_216 rfl (lv_at hl 1 rfl) ?_
        refine tf_get (C := RX7) (T := TX7) (N := 35) hx hb hts hn_X7 hown hK hI 0 (tf_mat_0 ad cI cZ _) rfl 24 (by decide) hf_189 rfl rfl dX7_operator_217 ?_
        refine lv_imul hx hb dX7_operator_220 ?_
        refine lv_iconst (v := 1) hx hb dX7_operator_221 (by decide +kernel) ?_
        refine lv_iadd hx hb dX7_operator_222 ?_
        refine lv_iconst (v := -1) hx hb dX7_operator_223 (by decide +kernel) ?_
        obtain ⟨b32, h⟩ := tf_gin h
        obtain ⟨s33, es33, h⟩ := tf_glet h
        refine tf_iast hx hb hK hI 27 0 (tf_mat_27 ad cI cZ _) (tf_mset_27 ad cI cZ _) rfl b32 es33 dX7_operator_224 (fun H locs hI => ?_)
        refine lv_aload_n hx hb dX7_operator_225 rfl (lv_at hl 1 rfl) ?_
        refine lv_dup hx hb dX7_operator_226 rfl ?_
        refine tf_get (C := RX7) (T := TX7) (N := 35) hx hb hts hn_X7 hown hK hI 0 (tf_mat_0 ad cI cZ _) rfl 24 (by decide) hf_189 rfl rfl dX7_operator_227 ?_
        refine lv_iconst (v := 1) hx hb dX7_operator_230 (by decide +kernel) ?_
        refine lv_iadd hx hb dX7_operator_231 ?_
        obtain ⟨s34, es34, h⟩ := tf_glet h
        refine tf_put (C := RX7) (T := TX7) (N := 35) (ty := .int) hx hb hts hn_X7 tyX7 tyX7_ok nmX7 hown hK hI 0 (tf_mat_0 ad cI cZ _) rfl 24 (by decide) hf_189 rfl rfl (by decide +kernel) rfl rfl (Nat.le_of_ble_eq_true rfl) (tf_mput_0_24 ad cI cZ _ _) es34 dX7_operator_232 (fun H locs hI => ?_)
        refine lv_aload_n hx hb dX7_operator_235 rfl (lv_at hl 1 rfl) ?_
        refine tf_get (C := RX7) (T := TX7) (N := 35) hx hb hts hn_X7 hown hK hI 0 (tf_mat_0 ad cI cZ _) rfl 24 (by decide) hf_189 rfl rfl dX7_operator_236 ?_
        refine lv_iconst (v := 1) hx hb dX7_operator_239 (by decide +kernel) ?_
        refine lv_isub hx hb dX7_operator_240 ?_
        exact tf_iret hx hb hr hI h dX7_operator_241 hlocks
      replace h := tf_pos c11 h
      refine lv_bipush (v := -3) hx hb dX7_operator_103 (by decide +kernel) ?_
      exact tf_iret hx hb hr hI h dX7_operator_105 hlocks
    replace h := tf_pos c10 h
    refine lv_bipush (v := -2) hx hb dX7_operator_91 (by decide +kernel) ?_
    exact tf_iret hx hb hr hI h dX7_operator_93 hlocks
  have j23 : ∀ (σ : tf_S) (t0 : Int32) (H : Heap) (locs : List Loc) (ls : Array Slot), fX7_operator_23 x1 x2 x3 x4 x5 x6 σ t0 = some z → tf_I D (tf_wm ad cI cZ) s.heap σ H locs → lv_has ls 9 [(0, .ref (ad 0)), (1, .int x1), (2, .int x2), (3, .int x3), (4, .int x4), (5, .int x5), (6, .int x6)] → W p l e (headSpec wsX7_operator ({ frames := 4, cells := 0, slots := 0, locals := 88 })).room s m ([.ref (ad 0), .int x1, .int x2, .int x3, .int x4, .int x5, .int x6] : List Value).toArray below meth c H locs 0 0 (tf_Q below D (tf_wm ad cI cZ) z ([.ref (ad 0), .int x1, .int x2, .int x3, .int x4, .int x5, .int x6] : List Value).toArray s) (F0 m 23 ls [.int t0]) := by
    intro σ t0 H locs ls h hI hl
    unfold fX7_operator_23 at h
    refine lv_istore (lv' := [(7, .int t0), (0, .ref (ad 0)), (1, .int x1), (2, .int x2), (3, .int x3), (4, .int x4), (5, .int x5), (6, .int x6)]) hx hb dX7_operator_23 hl (by decide) rfl (fun ls hl => ?_)
    refine lv_iload_n hx hb dX7_operator_25 rfl (lv_at hl 2 rfl) ?_
    refine lv_iconst (v := 4) hx hb dX7_operator_26 (by decide +kernel) ?_
    refine lv_icmp_lt (tgt := 50) hx hb dX7_operator_27 (by decide) (fun c2 => ?_) (fun c2 => ?_)
    · replace h := tf_pos c2 h
      refine lv_iconst (v := 1) hx hb dX7_operator_50 (by decide +kernel) ?_
      refine lv_goto (tgt := 55) hx hb dX7_operator_51 (by decide) ?_
      exact j55  _ _ _ _ _ _ h hI (lv_sub hl [1, 2, 3, 4, 5, 6, 7, 0] rfl)
    replace h := tf_neg c2 h
    refine lv_iload_n hx hb dX7_operator_30 rfl (lv_at hl 2 rfl) ?_
    refine lv_bipush (v := 7) hx hb dX7_operator_31 (by decide +kernel) ?_
    refine lv_icmp_eq (tgt := 50) hx hb dX7_operator_33 (by decide) (fun c35 => ?_) (fun c35 => ?_)
    · replace h := tf_pos c35 h
      refine lv_iconst (v := 1) hx hb dX7_operator_50 (by decide +kernel) ?_
      refine lv_goto (tgt := 55) hx hb dX7_operator_51 (by decide) ?_
      exact j55  _ _ _ _ _ _ h hI (lv_sub hl [1, 2, 3, 4, 5, 6, 7, 0] rfl)
    replace h := tf_neg c35 h
    refine lv_iload_n hx hb dX7_operator_36 rfl (lv_at hl 4 rfl) ?_
    refine lv_iconst (v := 0) hx hb dX7_operator_37 (by decide +kernel) ?_
    refine lv_aload_n hx hb dX7_operator_38 rfl (lv_at hl 1 rfl) ?_
    refine tf_get (C := RX7) (T := TX7) (N := 35) hx hb hts hn_X7 hown hK hI 0 (tf_mat_0 ad cI cZ _) rfl 24 (by decide) hf_189 rfl rfl dX7_operator_39 ?_
    refine lv_iconst (v := 1) hx hb dX7_operator_42 (by decide +kernel) ?_
    refine lv_isub hx hb dX7_operator_43 ?_
    obtain ⟨u36, q37, h⟩ := tf_gbind h
    refine tf_callS (rest := []) ⟨hx, hb, hml, hown, hts⟩ hK hN hI (kM_X7_isIn l D ad cI cZ _ _ _ _ _ q37) (va_cwS 3 hts gX7_operator_X7_isIn rfl rfl rfl (by decide +kernel) ⟨Nat.le_of_ble_eq_true rfl, Nat.le_of_ble_eq_true rfl⟩) rfl hl.1 rfl (Nat.le_of_ble_eq_true rfl) dX7_operator_44 (fun H locs hI => ?_)
    refine lv_if_eq (tgt := 54) hx hb dX7_operator_47 (by decide) (fun c38 => ?_) (fun c38 => ?_)
    · replace h := tf_pos c38 h
      refine lv_iconst (v := 0) hx hb dX7_operator_54 (by decide +kernel) ?_
      exact j55  _ _ _ _ _ _ h hI (lv_sub hl [1, 2, 3, 4, 5, 6, 7, 0] rfl)
    replace h := tf_neg c38 h
    refine lv_iconst (v := 1) hx hb dX7_operator_50 (by decide +kernel) ?_
    refine lv_goto (tgt := 55) hx hb dX7_operator_51 (by decide) ?_
    exact j55  _ _ _ _ _ _ h hI (lv_sub hl [1, 2, 3, 4, 5, 6, 7, 0] rfl)
  unfold fX7_operator at h
  refine lv_iload_n hx hb dX7_operator_0 rfl (lv_at hl 1 rfl) ?_
  refine lv_if_eq (tgt := 18) hx hb dX7_operator_1 (by decide) (fun c1 => ?_) (fun c1 => ?_)
  · replace h := tf_pos c1 h
    refine lv_iconst (v := 1) hx hb dX7_operator_18 (by decide +kernel) ?_
    refine lv_goto (tgt := 23) hx hb dX7_operator_19 (by decide) ?_
    exact j23  _ _ _ _ _ h hI (lv_sub hl [0, 1, 2, 3, 4, 5, 6] rfl)
  replace h := tf_neg c1 h
  refine lv_iload_n hx hb dX7_operator_4 rfl (lv_at hl 2 rfl) ?_
  refine lv_iconst (v := 0) hx hb dX7_operator_5 (by decide +kernel) ?_
  refine lv_aload_n hx hb dX7_operator_6 rfl (lv_at hl 0 rfl) ?_
  refine tf_get (C := RX7) (T := TX7) (N := 35) hx hb hts hn_X7 hown hK hI 0 (tf_mat_0 ad cI cZ _) rfl 24 (by decide) hf_189 rfl rfl dX7_operator_7 ?_
  refine lv_iconst (v := 1) hx hb dX7_operator_10 (by decide +kernel) ?_
  refine lv_isub hx hb dX7_operator_11 ?_
  obtain ⟨u39, q40, h⟩ := tf_gbind h
  refine tf_callS (rest := []) ⟨hx, hb, hml, hown, hts⟩ hK hN hI (kM_X7_isIn l D ad cI cZ _ _ _ _ _ q40) (va_cwS 3 hts gX7_operator_X7_isIn rfl rfl rfl (by decide +kernel) ⟨Nat.le_of_ble_eq_true rfl, Nat.le_of_ble_eq_true rfl⟩) rfl hl.1 rfl (Nat.le_of_ble_eq_true rfl) dX7_operator_12 (fun H locs hI => ?_)
  refine lv_if_eq (tgt := 22) hx hb dX7_operator_15 (by decide) (fun c41 => ?_) (fun c41 => ?_)
  · replace h := tf_pos c41 h
    refine lv_iconst (v := 0) hx hb dX7_operator_22 (by decide +kernel) ?_
    exact j23  _ _ _ _ _ h hI (lv_sub hl [0, 1, 2, 3, 4, 5, 6] rfl)
  replace h := tf_neg c41 h
  refine lv_iconst (v := 1) hx hb dX7_operator_18 (by decide +kernel) ?_
  refine lv_goto (tgt := 23) hx hb dX7_operator_19 (by decide) ?_
  exact j23  _ _ _ _ _ h hI (lv_sub hl [0, 1, 2, 3, 4, 5, 6] rfl)

set_option maxHeartbeats 4000000 in
set_option maxRecDepth 100000 in
theorem kM_X7_clear (l : Launch) (D : va_G) (ad : Nat → Nat) (cI cZ : ClassId) (σ : tf_S) (z : Int32 × tf_S) (h : fX7_clear σ = some z) : tf_C l D (tf_wm ad cI cZ) [(cI, .int), (cZ, .boolean)] [] yX7_clear wsX7_clear ({ frames := 0, cells := 0, slots := 0, locals := 0 }) [.ref (ad 0)] σ z := by
  intro sz
  refine Met.ofW (cc := cX7_clear) (maxL := 2) (ret := (some .int)) (by decide) rfl ?_
  intro p e s m args below meth c s₁ B hml hv
  obtain ⟨rfl, hsz, hP, hK, hN, hD0⟩ := hv
  have hx := B.exec
  have hb := B.bytes
  have hr := B.returns
  have hts := atoms_spec (ws := wsX7_clear) B.pre
  have hown : s.vm.findClass RX7 = some m.cls := findClass_of_methodNamed B.named
  have hlocks := B.notSynchronized
  subst hsz
  have hI := tf_start (D := D) (tf_m_ad ad cI cZ) hP hD0
  have hl := lv_entry ([.ref (ad 0)]) (n := 2) (Nat.le_of_ble_eq_true rfl)
  rw [lg_entry_eq]
  generalize (lg_sl ([.ref (ad 0)]) ++ List.replicate (2 - (lg_sl ([.ref (ad 0)])).length) Slot.unset).toArray = ls at hl ⊢
  have hl : lv_has ls 2 [(0, .ref (ad 0))] := hl
  have hn_X7 : ∀ w ∈ u_ws RX7 TX7 35, w ∈ wsX7_clear := by decide +kernel
  have hf_189 := hts (.fieldLink RX7 189 "TypeFlowModel" "operators" "I") (by decide +kernel)
  unfold fX7_clear at h
  refine lv_aload_n hx hb dX7_clear_0 rfl (lv_at hl 0 rfl) ?_
  refine tf_get (C := RX7) (T := TX7) (N := 35) hx hb hts hn_X7 hown hK hI 0 (tf_mat_0 ad cI cZ _) rfl 24 (by decide) hf_189 rfl rfl dX7_clear_1 ?_
  obtain ⟨v1, ev1, h⟩ := tf_glet h
  refine tf_top ev1 ?_
  refine lv_istore_n (lv' := [(1, .int v1), (0, .ref (ad 0))]) hx hb dX7_clear_4 rfl hl (by decide) rfl (fun ls hl => ?_)
  refine lv_aload_n hx hb dX7_clear_5 rfl (lv_at hl 1 rfl) ?_
  refine lv_iconst (v := 0) hx hb dX7_clear_6 (by decide +kernel) ?_
  obtain ⟨s2, es2, h⟩ := tf_glet h
  refine tf_put (C := RX7) (T := TX7) (N := 35) (ty := .int) hx hb hts hn_X7 tyX7 tyX7_ok nmX7 hown hK hI 0 (tf_mat_0 ad cI cZ _) rfl 24 (by decide) hf_189 rfl rfl (by decide +kernel) rfl rfl (Nat.le_of_ble_eq_true rfl) (tf_mput_0_24 ad cI cZ _ _) es2 dX7_clear_7 (fun H locs hI => ?_)
  refine lv_iload_n hx hb dX7_clear_10 rfl (lv_at hl 0 rfl) ?_
  exact tf_iret hx hb hr hI h dX7_clear_11 hlocks

set_option maxHeartbeats 4000000 in
set_option maxRecDepth 100000 in
theorem kM_X7_areKeys (l : Launch) (D : va_G) (ad : Nat → Nat) (cI cZ : ClassId) (σ : tf_S) (x1 x2 : Int32) (z : Int32 × tf_S) (h : fX7_areKeys σ x1 x2 = some z) : tf_C l D (tf_wm ad cI cZ) [(cI, .int), (cZ, .boolean)] [] yX7_areKeys wsX7_areKeys ({ frames := 4, cells := 0, slots := 0, locals := 95 }) [.ref (ad 0), .int x1, .int x2] σ z := by
  intro sz
  refine Met.ofW (cc := cX7_areKeys) (maxL := 4) (ret := (some .boolean)) (by decide) rfl ?_
  intro p e s m args below meth c s₁ B hml hv
  obtain ⟨rfl, hsz, hP, hK, hN, hD0⟩ := hv
  have hx := B.exec
  have hb := B.bytes
  have hr := B.returns
  have hts := atoms_spec (ws := wsX7_areKeys) B.pre
  have hown : s.vm.findClass RX7 = some m.cls := findClass_of_methodNamed B.named
  have hlocks := B.notSynchronized
  subst hsz
  have hI := tf_start (D := D) (tf_m_ad ad cI cZ) hP hD0
  have hl := lv_entry ([.ref (ad 0), .int x1, .int x2]) (n := 4) (Nat.le_of_ble_eq_true rfl)
  rw [lg_entry_eq]
  generalize (lg_sl ([.ref (ad 0), .int x1, .int x2]) ++ List.replicate (4 - (lg_sl ([.ref (ad 0), .int x1, .int x2])).length) Slot.unset).toArray = ls at hl ⊢
  have hl : lv_has ls 4 [(0, .ref (ad 0)), (1, .int x1), (2, .int x2)] := hl
  have j21 : ∀ (σ : tf_S) (t0 : Int32) (H : Heap) (locs : List Loc) (ls : Array Slot), fX7_areKeys_21 x1 x2 σ t0 = some z → tf_I D (tf_wm ad cI cZ) s.heap σ H locs → lv_has ls 4 [(0, .ref (ad 0))] → W p l e (headSpec wsX7_areKeys ({ frames := 4, cells := 0, slots := 0, locals := 95 })).room s m ([.ref (ad 0), .int x1, .int x2] : List Value).toArray below meth c H locs 0 0 (tf_Q below D (tf_wm ad cI cZ) z ([.ref (ad 0), .int x1, .int x2] : List Value).toArray s) (F0 m 21 ls [.int t0]) := by
    intro σ t0 H locs ls h hI hl
    unfold fX7_areKeys_21 at h
    refine lv_istore_n (lv' := [(3, .int t0), (0, .ref (ad 0))]) hx hb dX7_areKeys_21 rfl hl (by decide) rfl (fun ls hl => ?_)
    refine lv_iload_n hx hb dX7_areKeys_22 rfl (lv_at hl 0 rfl) ?_
    refine lv_iconst (v := 1) hx hb dX7_areKeys_23 (by decide +kernel) ?_
    refine lv_icmp_eq (tgt := 47) hx hb dX7_areKeys_24 (by decide) (fun c5 => ?_) (fun c5 => ?_)
    · replace h := tf_pos c5 h
      refine lv_iconst (v := 1) hx hb dX7_areKeys_47 (by decide +kernel) ?_
      refine lv_goto (tgt := 52) hx hb dX7_areKeys_48 (by decide) ?_
      exact tf_zret hx hb hr (Or.inr rfl) hI h dX7_areKeys_52 hlocks
    replace h := tf_neg c5 h
    refine lv_aload_n hx hb dX7_areKeys_27 rfl (lv_at hl 1 rfl) ?_
    refine lv_iload_n hx hb dX7_areKeys_28 rfl (lv_at hl 0 rfl) ?_
    refine lv_bipush (v := -3) hx hb dX7_areKeys_29 (by decide +kernel) ?_
    refine lv_icmp_ne (tgt := 39) hx hb dX7_areKeys_31 (by decide) (fun c6 => ?_) (fun c6 => ?_)
    · replace h := tf_neg c6 h
      refine lv_bipush (v := 6) hx hb dX7_areKeys_39 (by decide +kernel) ?_
      obtain ⟨u7, q8, h⟩ := tf_gbind h
      refine tf_callV (rest := []) ⟨hx, hb, hml, hown, hts⟩ hK hN hI (kM_X7_fails l D ad cI cZ _ _ _ q8) (cwV 1 hts gX7_areKeys_X7_fails rfl rfl rfl (by decide +kernel) ⟨Nat.le_of_ble_eq_true rfl, Nat.le_of_ble_eq_true rfl⟩) 0 7 (tf_mat_0 ad cI cZ _) rfl rfl hl.1 rfl (Nat.le_of_ble_eq_true rfl) dX7_areKeys_41 (fun H locs hI => ?_)
      refine lv_if_eq (tgt := 51) hx hb dX7_areKeys_44 (by decide) (fun c9 => ?_) (fun c9 => ?_)
      · replace h := tf_pos c9 h
        refine lv_iconst (v := 0) hx hb dX7_areKeys_51 (by decide +kernel) ?_
        exact tf_zret hx hb hr (Or.inl rfl) hI h dX7_areKeys_52 hlocks
      replace h := tf_neg c9 h
      refine lv_iconst (v := 1) hx hb dX7_areKeys_47 (by decide +kernel) ?_
      refine lv_goto (tgt := 52) hx hb dX7_areKeys_48 (by decide) ?_
      exact tf_zret hx hb hr (Or.inr rfl) hI h dX7_areKeys_52 hlocks
    replace h := tf_pos c6 h
    refine lv_bipush (v := 8) hx hb dX7_areKeys_34 (by decide +kernel) ?_
    refine lv_goto (tgt := 41) hx hb dX7_areKeys_36 (by decide) ?_
    obtain ⟨u10, q11, h⟩ := tf_gbind h
    refine tf_callV (rest := []) ⟨hx, hb, hml, hown, hts⟩ hK hN hI (kM_X7_fails l D ad cI cZ _ _ _ q11) (cwV 1 hts gX7_areKeys_X7_fails rfl rfl rfl (by decide +kernel) ⟨Nat.le_of_ble_eq_true rfl, Nat.le_of_ble_eq_true rfl⟩) 0 7 (tf_mat_0 ad cI cZ _) rfl rfl hl.1 rfl (Nat.le_of_ble_eq_true rfl) dX7_areKeys_41 (fun H locs hI => ?_)
    refine lv_if_eq (tgt := 51) hx hb dX7_areKeys_44 (by decide) (fun c12 => ?_) (fun c12 => ?_)
    · replace h := tf_pos c12 h
      refine lv_iconst (v := 0) hx hb dX7_areKeys_51 (by decide +kernel) ?_
      exact tf_zret hx hb hr (Or.inl rfl) hI h dX7_areKeys_52 hlocks
    replace h := tf_neg c12 h
    refine lv_iconst (v := 1) hx hb dX7_areKeys_47 (by decide +kernel) ?_
    refine lv_goto (tgt := 52) hx hb dX7_areKeys_48 (by decide) ?_
    exact tf_zret hx hb hr (Or.inr rfl) hI h dX7_areKeys_52 hlocks
  unfold fX7_areKeys at h
  refine lv_aload_n hx hb dX7_areKeys_0 rfl (lv_at hl 0 rfl) ?_
  refine lv_iload_n hx hb dX7_areKeys_1 rfl (lv_at hl 1 rfl) ?_
  refine lv_iload_n hx hb dX7_areKeys_2 rfl (lv_at hl 2 rfl) ?_
  obtain ⟨u1, q2, h⟩ := tf_gbind h
  refine tf_callV (rest := []) ⟨hx, hb, hml, hown, hts⟩ hK hN hI (kM_X7_goesFor l D ad cI cZ _ _ _ _ q2) (cwV 2 hts gX7_areKeys_X7_goesFor rfl rfl rfl (by decide +kernel) ⟨Nat.le_of_ble_eq_true rfl, Nat.le_of_ble_eq_true rfl⟩) 0 7 (tf_mat_0 ad cI cZ _) rfl rfl hl.1 rfl (Nat.le_of_ble_eq_true rfl) dX7_areKeys_3 (fun H locs hI => ?_)
  obtain ⟨v3, ev3, h⟩ := tf_glet h
  refine tf_top ev3 ?_
  refine lv_istore_n (lv' := [(3, .int v3), (0, .ref (ad 0)), (1, .int x1), (2, .int x2)]) hx hb dX7_areKeys_6 rfl hl (by decide) rfl (fun ls hl => ?_)
  refine lv_iload_n hx hb dX7_areKeys_7 rfl (lv_at hl 0 rfl) ?_
  refine lv_if_ne (tgt := 20) hx hb dX7_areKeys_8 (by decide) (fun c4 => ?_) (fun c4 => ?_)
  · replace h := tf_neg c4 h
    refine lv_iload_n hx hb dX7_areKeys_20 rfl (lv_at hl 0 rfl) ?_
    exact j21  _ _ _ _ _ h hI (lv_sub hl [1] rfl)
  replace h := tf_pos c4 h
  refine lv_aload_n hx hb dX7_areKeys_11 rfl (lv_at hl 1 rfl) ?_
  refine lv_iload_n hx hb dX7_areKeys_12 rfl (lv_at hl 3 rfl) ?_
  refine lv_iload_n hx hb dX7_areKeys_13 rfl (lv_at hl 2 rfl) ?_
  obtain ⟨u13, q14, h⟩ := tf_gbind h
  refine tf_callV (rest := []) ⟨hx, hb, hml, hown, hts⟩ hK hN hI (kM_X7_goesFor l D ad cI cZ _ _ _ _ q14) (cwV 2 hts gX7_areKeys_X7_goesFor rfl rfl rfl (by decide +kernel) ⟨Nat.le_of_ble_eq_true rfl, Nat.le_of_ble_eq_true rfl⟩) 0 7 (tf_mat_0 ad cI cZ _) rfl rfl hl.1 rfl (Nat.le_of_ble_eq_true rfl) dX7_areKeys_14 (fun H locs hI => ?_)
  refine lv_goto (tgt := 21) hx hb dX7_areKeys_17 (by decide) ?_
  exact j21  _ _ _ _ _ h hI (lv_sub hl [1] rfl)

set_option maxHeartbeats 4000000 in
set_option maxRecDepth 100000 in
theorem kM_X7_joined (l : Launch) (D : va_G) (ad : Nat → Nat) (cI cZ : ClassId) (σ : tf_S) (x1 x2 x3 : Int32) (z : Int32 × tf_S) (h : fX7_joined σ x1 x2 x3 = some z) : tf_C l D (tf_wm ad cI cZ) [(cI, .int), (cZ, .boolean)] [] yX7_joined wsX7_joined ({ frames := 5, cells := 0, slots := 0, locals := 118 }) [.ref (ad 0), .int x1, .int x2, .int x3] σ z := by
  intro sz
  refine Met.ofW (cc := cX7_joined) (maxL := 6) (ret := (some .int)) (by decide) rfl ?_
  intro p e s m args below meth c s₁ B hml hv
  obtain ⟨rfl, hsz, hP, hK, hN, hD0⟩ := hv
  have hx := B.exec
  have hb := B.bytes
  have hr := B.returns
  have hts := atoms_spec (ws := wsX7_joined) B.pre
  have hown : s.vm.findClass RX7 = some m.cls := findClass_of_methodNamed B.named
  have hlocks := B.notSynchronized
  subst hsz
  have hI := tf_start (D := D) (tf_m_ad ad cI cZ) hP hD0
  have hl := lv_entry ([.ref (ad 0), .int x1, .int x2, .int x3]) (n := 6) (Nat.le_of_ble_eq_true rfl)
  rw [lg_entry_eq]
  generalize (lg_sl ([.ref (ad 0), .int x1, .int x2, .int x3]) ++ List.replicate (6 - (lg_sl ([.ref (ad 0), .int x1, .int x2, .int x3])).length) Slot.unset).toArray = ls at hl ⊢
  have hl : lv_has ls 6 [(0, .ref (ad 0)), (1, .int x1), (2, .int x2), (3, .int x3)] := hl
  have hn_X7 : ∀ w ∈ u_ws RX7 TX7 35, w ∈ wsX7_joined := by decide +kernel
  have hf_78 := hts (.fieldLink RX7 78 "TypeFlowModel" "by" "[I") (by decide +kernel)
  have hf_81 := hts (.fieldLink RX7 81 "TypeFlowModel" "byToo" "[I") (by decide +kernel)
  have hf_84 := hts (.fieldLink RX7 84 "TypeFlowModel" "of" "[I") (by decide +kernel)
  unfold fX7_joined at h
  refine lv_aload_n hx hb dX7_joined_0 rfl (lv_at hl 0 rfl) ?_
  refine lv_aload_n hx hb dX7_joined_1 rfl (lv_at hl 0 rfl) ?_
  refine tf_get (C := RX7) (T := TX7) (N := 35) hx hb hts hn_X7 hown hK hI 0 (tf_mat_0 ad cI cZ _) rfl 28 (by decide) hf_78 rfl rfl dX7_joined_2 ?_
  refine lv_iload_n hx hb dX7_joined_5 rfl (lv_at hl 1 rfl) ?_
  obtain ⟨b1, h⟩ := tf_gin h
  refine va_iald hx hb hK hI.1 21 0 (tf_mat_21 ad cI cZ _) rfl b1 dX7_joined_6 ?_
  refine lv_iload_n hx hb dX7_joined_7 rfl (lv_at hl 2 rfl) ?_
  obtain ⟨u2, q3, h⟩ := tf_gbind h
  refine tf_callV (rest := []) ⟨hx, hb, hml, hown, hts⟩ hK hN hI (kM_X7_memberOf l D ad cI cZ _ _ _ _ q3) (cwV 2 hts gX7_joined_X7_memberOf rfl rfl rfl (by decide +kernel) ⟨Nat.le_of_ble_eq_true rfl, Nat.le_of_ble_eq_true rfl⟩) 0 7 (tf_mat_0 ad cI cZ _) rfl rfl hl.1 rfl (Nat.le_of_ble_eq_true rfl) dX7_joined_8 (fun H locs hI => ?_)
  obtain ⟨v4, ev4, h⟩ := tf_glet h
  refine tf_top ev4 ?_
  refine lv_istore (lv' := [(4, .int v4), (0, .ref (ad 0)), (1, .int x1), (2, .int x2), (3, .int x3)]) hx hb dX7_joined_11 hl (by decide) rfl (fun ls hl => ?_)
  refine lv_iload hx hb dX7_joined_13 (lv_at hl 0 rfl) ?_
  refine lv_iconst (v := -1) hx hb dX7_joined_15 (by decide +kernel) ?_
  refine lv_icmp_ne (tgt := 21) hx hb dX7_joined_16 (by decide) (fun c5 => ?_) (fun c5 => ?_)
  · replace h := tf_neg c5 h
    refine lv_aload_n hx hb dX7_joined_21 rfl (lv_at hl 1 rfl) ?_
    refine lv_aload_n hx hb dX7_joined_22 rfl (lv_at hl 1 rfl) ?_
    refine tf_get (C := RX7) (T := TX7) (N := 35) hx hb hts hn_X7 hown hK hI 0 (tf_mat_0 ad cI cZ _) rfl 29 (by decide) hf_81 rfl rfl dX7_joined_23 ?_
    refine lv_iload_n hx hb dX7_joined_26 rfl (lv_at hl 2 rfl) ?_
    obtain ⟨b6, h⟩ := tf_gin h
    refine va_iald hx hb hK hI.1 22 0 (tf_mat_22 ad cI cZ _) rfl b6 dX7_joined_27 ?_
    refine lv_iload_n hx hb dX7_joined_28 rfl (lv_at hl 4 rfl) ?_
    obtain ⟨u7, q8, h⟩ := tf_gbind h
    refine tf_callV (rest := []) ⟨hx, hb, hml, hown, hts⟩ hK hN hI (kM_X7_memberOf l D ad cI cZ _ _ _ _ q8) (cwV 2 hts gX7_joined_X7_memberOf rfl rfl rfl (by decide +kernel) ⟨Nat.le_of_ble_eq_true rfl, Nat.le_of_ble_eq_true rfl⟩) 0 7 (tf_mat_0 ad cI cZ _) rfl rfl hl.1 rfl (Nat.le_of_ble_eq_true rfl) dX7_joined_29 (fun H locs hI => ?_)
    obtain ⟨v9, ev9, h⟩ := tf_glet h
    refine tf_top ev9 ?_
    refine lv_istore (lv' := [(5, .int v9), (4, .int v4), (0, .ref (ad 0)), (1, .int x1), (2, .int x2), (3, .int x3)]) hx hb dX7_joined_32 hl (by decide) rfl (fun ls hl => ?_)
    refine lv_iload hx hb dX7_joined_34 (lv_at hl 0 rfl) ?_
    refine lv_iconst (v := -1) hx hb dX7_joined_36 (by decide +kernel) ?_
    refine lv_icmp_eq (tgt := 51) hx hb dX7_joined_37 (by decide) (fun c10 => ?_) (fun c10 => ?_)
    · replace h := tf_pos c10 h
      refine lv_iconst (v := -1) hx hb dX7_joined_51 (by decide +kernel) ?_
      exact tf_iret hx hb hr hI h dX7_joined_52 hlocks
    replace h := tf_neg c10 h
    refine lv_aload_n hx hb dX7_joined_40 rfl (lv_at hl 2 rfl) ?_
    refine lv_iload hx hb dX7_joined_41 (lv_at hl 1 rfl) ?_
    refine lv_iload hx hb dX7_joined_43 (lv_at hl 0 rfl) ?_
    obtain ⟨u11, q12, h⟩ := tf_gbind h
    refine tf_callV (rest := []) ⟨hx, hb, hml, hown, hts⟩ hK hN hI (kM_X7_areKeys l D ad cI cZ _ _ _ _ q12) (cwV 2 hts gX7_joined_X7_areKeys rfl rfl rfl (by decide +kernel) ⟨Nat.le_of_ble_eq_true rfl, Nat.le_of_ble_eq_true rfl⟩) 0 7 (tf_mat_0 ad cI cZ _) rfl rfl hl.1 rfl (Nat.le_of_ble_eq_true rfl) dX7_joined_45 (fun H locs hI => ?_)
    refine lv_if_ne (tgt := 53) hx hb dX7_joined_48 (by decide) (fun c13 => ?_) (fun c13 => ?_)
    · replace h := tf_neg c13 h
      refine lv_aload_n hx hb dX7_joined_53 rfl (lv_at hl 2 rfl) ?_
      refine lv_aload_n hx hb dX7_joined_54 rfl (lv_at hl 2 rfl) ?_
      refine lv_aload_n hx hb dX7_joined_55 rfl (lv_at hl 2 rfl) ?_
      refine tf_get (C := RX7) (T := TX7) (N := 35) hx hb hts hn_X7 hown hK hI 0 (tf_mat_0 ad cI cZ _) rfl 30 (by decide) hf_84 rfl rfl dX7_joined_56 ?_
      refine lv_iload_n hx hb dX7_joined_59 rfl (lv_at hl 3 rfl) ?_
      obtain ⟨b14, h⟩ := tf_gin h
      refine va_iald hx hb hK hI.1 23 0 (tf_mat_23 ad cI cZ _) rfl b14 dX7_joined_60 ?_
      refine lv_iload_n hx hb dX7_joined_61 rfl (lv_at hl 4 rfl) ?_
      refine lv_iload_n hx hb dX7_joined_62 rfl (lv_at hl 5 rfl) ?_
      obtain ⟨u15, q16, h⟩ := tf_gbind h
      refine tf_callV (rest := [.ref (ad 0)]) ⟨hx, hb, hml, hown, hts⟩ hK hN hI (kM_X7_made l D ad cI cZ _ _ _ _ _ q16) (cwV 3 hts gX7_joined_X7_made rfl rfl rfl (by decide +kernel) ⟨Nat.le_of_ble_eq_true rfl, Nat.le_of_ble_eq_true rfl⟩) 0 7 (tf_mat_0 ad cI cZ _) rfl rfl hl.1 rfl (Nat.le_of_ble_eq_true rfl) dX7_joined_63 (fun H locs hI => ?_)
      obtain ⟨u17, q18, h⟩ := tf_gbind h
      refine tf_callV (rest := []) ⟨hx, hb, hml, hown, hts⟩ hK hN hI (kM_X7_orRoom l D ad cI cZ _ _ _ q18) (cwV 1 hts gX7_joined_X7_orRoom rfl rfl rfl (by decide +kernel) ⟨Nat.le_of_ble_eq_true rfl, Nat.le_of_ble_eq_true rfl⟩) 0 7 (tf_mat_0 ad cI cZ _) rfl rfl hl.1 rfl (Nat.le_of_ble_eq_true rfl) dX7_joined_66 (fun H locs hI => ?_)
      exact tf_iret hx hb hr hI h dX7_joined_69 hlocks
    replace h := tf_pos c13 h
    refine lv_iconst (v := -1) hx hb dX7_joined_51 (by decide +kernel) ?_
    exact tf_iret hx hb hr hI h dX7_joined_52 hlocks
  replace h := tf_pos c5 h
  refine lv_iconst (v := -1) hx hb dX7_joined_19 (by decide +kernel) ?_
  exact tf_iret hx hb hr hI h dX7_joined_20 hlocks

set_option maxHeartbeats 4000000 in
set_option maxRecDepth 100000 in
theorem kM_X7_castOf (l : Launch) (D : va_G) (ad : Nat → Nat) (cI cZ : ClassId) (σ : tf_S) (x1 x2 : Int32) (z : Int32 × tf_S) (h : fX7_castOf σ x1 x2 = some z) : tf_C l D (tf_wm ad cI cZ) [(cI, .int), (cZ, .boolean)] [] yX7_castOf wsX7_castOf ({ frames := 4, cells := 0, slots := 0, locals := 95 }) [.ref (ad 0), .int x1, .int x2] σ z := by
  intro sz
  refine Met.ofW (cc := cX7_castOf) (maxL := 5) (ret := (some .int)) (by decide) rfl ?_
  intro p e s m args below meth c s₁ B hml hv
  obtain ⟨rfl, hsz, hP, hK, hN, hD0⟩ := hv
  have hx := B.exec
  have hb := B.bytes
  have hr := B.returns
  have hts := atoms_spec (ws := wsX7_castOf) B.pre
  have hown : s.vm.findClass RX7 = some m.cls := findClass_of_methodNamed B.named
  have hlocks := B.notSynchronized
  subst hsz
  have hI := tf_start (D := D) (tf_m_ad ad cI cZ) hP hD0
  have hl := lv_entry ([.ref (ad 0), .int x1, .int x2]) (n := 5) (Nat.le_of_ble_eq_true rfl)
  rw [lg_entry_eq]
  generalize (lg_sl ([.ref (ad 0), .int x1, .int x2]) ++ List.replicate (5 - (lg_sl ([.ref (ad 0), .int x1, .int x2])).length) Slot.unset).toArray = ls at hl ⊢
  have hl : lv_has ls 5 [(0, .ref (ad 0)), (1, .int x1), (2, .int x2)] := hl
  have hn_X7 : ∀ w ∈ u_ws RX7 TX7 35, w ∈ wsX7_castOf := by decide +kernel
  have hf_78 := hts (.fieldLink RX7 78 "TypeFlowModel" "by" "[I") (by decide +kernel)
  have hf_93 := hts (.fieldLink RX7 93 "TypeFlowModel" "mayFail" "[Z") (by decide +kernel)
  have hf_159 := hts (.fieldLink RX7 159 "TypeFlowModel" "reason" "I") (by decide +kernel)
  have j76 : ∀ (σ : tf_S) (y3 y4 : Int32) (H : Heap) (locs : List Loc) (ls : Array Slot), fX7_castOf_76 x1 x2 σ y3 y4 = some z → tf_I D (tf_wm ad cI cZ) s.heap σ H locs → lv_has ls 5 [(0, .ref (ad 0)), (3, .int y3), (4, .int y4)] → W p l e (headSpec wsX7_castOf ({ frames := 4, cells := 0, slots := 0, locals := 95 })).room s m ([.ref (ad 0), .int x1, .int x2] : List Value).toArray below meth c H locs 0 0 (tf_Q below D (tf_wm ad cI cZ) z ([.ref (ad 0), .int x1, .int x2] : List Value).toArray s) (F0 m 76 ls []) := by
    intro σ y3 y4 H locs ls h hI hl
    unfold fX7_castOf_76 at h
    refine lv_iload hx hb dX7_castOf_76 (lv_at hl 2 rfl) ?_
    refine lv_iconst (v := 1) hx hb dX7_castOf_78 (by decide +kernel) ?_
    refine lv_icmp_ne (tgt := 84) hx hb dX7_castOf_79 (by decide) (fun c7 => ?_) (fun c7 => ?_)
    · replace h := tf_neg c7 h
      refine lv_aload_n hx hb dX7_castOf_84 rfl (lv_at hl 0 rfl) ?_
      refine lv_iload hx hb dX7_castOf_85 (lv_at hl 2 rfl) ?_
      refine lv_bipush (v := -3) hx hb dX7_castOf_87 (by decide +kernel) ?_
      refine lv_icmp_ne (tgt := 97) hx hb dX7_castOf_89 (by decide) (fun c8 => ?_) (fun c8 => ?_)
      · replace h := tf_neg c8 h
        refine lv_bipush (v := 6) hx hb dX7_castOf_97 (by decide +kernel) ?_
        obtain ⟨s9, es9, h⟩ := tf_glet h
        refine tf_put (C := RX7) (T := TX7) (N := 35) (ty := .int) hx hb hts hn_X7 tyX7 tyX7_ok nmX7 hown hK hI 0 (tf_mat_0 ad cI cZ _) rfl 20 (by decide) hf_159 rfl rfl (by decide +kernel) rfl rfl (Nat.le_of_ble_eq_true rfl) (tf_mput_0_20 ad cI cZ _ _) es9 dX7_castOf_99 (fun H locs hI => ?_)
        refine lv_iconst (v := -1) hx hb dX7_castOf_102 (by decide +kernel) ?_
        exact tf_iret hx hb hr hI h dX7_castOf_103 hlocks
      replace h := tf_pos c8 h
      refine lv_bipush (v := 8) hx hb dX7_castOf_92 (by decide +kernel) ?_
      refine lv_goto (tgt := 99) hx hb dX7_castOf_94 (by decide) ?_
      obtain ⟨s10, es10, h⟩ := tf_glet h
      refine tf_put (C := RX7) (T := TX7) (N := 35) (ty := .int) hx hb hts hn_X7 tyX7 tyX7_ok nmX7 hown hK hI 0 (tf_mat_0 ad cI cZ _) rfl 20 (by decide) hf_159 rfl rfl (by decide +kernel) rfl rfl (Nat.le_of_ble_eq_true rfl) (tf_mput_0_20 ad cI cZ _ _) es10 dX7_castOf_99 (fun H locs hI => ?_)
      refine lv_iconst (v := -1) hx hb dX7_castOf_102 (by decide +kernel) ?_
      exact tf_iret hx hb hr hI h dX7_castOf_103 hlocks
    replace h := tf_pos c7 h
    refine lv_iload_n hx hb dX7_castOf_82 rfl (lv_at hl 1 rfl) ?_
    exact tf_iret hx hb hr hI h dX7_castOf_83 hlocks
  unfold fX7_castOf at h
  refine lv_aload_n hx hb dX7_castOf_0 rfl (lv_at hl 0 rfl) ?_
  refine tf_get (C := RX7) (T := TX7) (N := 35) hx hb hts hn_X7 hown hK hI 0 (tf_mat_0 ad cI cZ _) rfl 28 (by decide) hf_78 rfl rfl dX7_castOf_1 ?_
  refine lv_iload_n hx hb dX7_castOf_4 rfl (lv_at hl 1 rfl) ?_
  obtain ⟨b1, h⟩ := tf_gin h
  refine va_iald hx hb hK hI.1 21 0 (tf_mat_21 ad cI cZ _) rfl b1 dX7_castOf_5 ?_
  obtain ⟨v2, ev2, h⟩ := tf_glet h
  refine tf_top ev2 ?_
  refine lv_istore_n (lv' := [(3, .int v2), (0, .ref (ad 0)), (1, .int x1), (2, .int x2)]) hx hb dX7_castOf_6 rfl hl (by decide) rfl (fun ls hl => ?_)
  refine lv_aload_n hx hb dX7_castOf_7 rfl (lv_at hl 1 rfl) ?_
  refine lv_iload_n hx hb dX7_castOf_8 rfl (lv_at hl 3 rfl) ?_
  refine lv_iload_n hx hb dX7_castOf_9 rfl (lv_at hl 0 rfl) ?_
  obtain ⟨u3, q4, h⟩ := tf_gbind h
  refine tf_callV (rest := []) ⟨hx, hb, hml, hown, hts⟩ hK hN hI (kM_X7_goesFor l D ad cI cZ _ _ _ _ q4) (cwV 2 hts gX7_castOf_X7_goesFor rfl rfl rfl (by decide +kernel) ⟨Nat.le_of_ble_eq_true rfl, Nat.le_of_ble_eq_true rfl⟩) 0 7 (tf_mat_0 ad cI cZ _) rfl rfl hl.1 rfl (Nat.le_of_ble_eq_true rfl) dX7_castOf_10 (fun H locs hI => ?_)
  obtain ⟨v5, ev5, h⟩ := tf_glet h
  refine tf_top ev5 ?_
  refine lv_istore (lv' := [(4, .int v5), (3, .int v2), (0, .ref (ad 0)), (1, .int x1), (2, .int x2)]) hx hb dX7_castOf_13 hl (by decide) rfl (fun ls hl => ?_)
  refine lv_iload hx hb dX7_castOf_15 (lv_at hl 0 rfl) ?_
  refine lv_if_ne (tgt := 76) hx hb dX7_castOf_17 (by decide) (fun c6 => ?_) (fun c6 => ?_)
  · replace h := tf_neg c6 h
    exact j76  _ _ _ _ _ _ h hI (lv_sub hl [2, 1, 0] rfl)
  replace h := tf_pos c6 h
  refine lv_aload_n hx hb dX7_castOf_20 rfl (lv_at hl 2 rfl) ?_
  refine lv_iload_n hx hb dX7_castOf_21 rfl (lv_at hl 1 rfl) ?_
  refine lv_iload_n hx hb dX7_castOf_22 rfl (lv_at hl 4 rfl) ?_
  obtain ⟨u11, q12, h⟩ := tf_gbind h
  refine tf_callV (rest := []) ⟨hx, hb, hml, hown, hts⟩ hK hN hI (kM_X7_goesFor l D ad cI cZ _ _ _ _ q12) (cwV 2 hts gX7_castOf_X7_goesFor rfl rfl rfl (by decide +kernel) ⟨Nat.le_of_ble_eq_true rfl, Nat.le_of_ble_eq_true rfl⟩) 0 7 (tf_mat_0 ad cI cZ _) rfl rfl hl.1 rfl (Nat.le_of_ble_eq_true rfl) dX7_castOf_23 (fun H locs hI => ?_)
  obtain ⟨v13, ev13, h⟩ := tf_glet h
  refine tf_top ev13 ?_
  refine lv_istore (lv' := [(4, .int v13), (3, .int v2), (0, .ref (ad 0)), (1, .int x1), (2, .int x2)]) hx hb dX7_castOf_26 hl (by decide) rfl (fun ls hl => ?_)
  refine lv_iload hx hb dX7_castOf_28 (lv_at hl 0 rfl) ?_
  refine lv_if_ne (tgt := 55) hx hb dX7_castOf_30 (by decide) (fun c14 => ?_) (fun c14 => ?_)
  · replace h := tf_neg c14 h
    refine lv_iload hx hb dX7_castOf_55 (lv_at hl 0 rfl) ?_
    refine lv_istore (lv' := [(4, .int v13), (3, .int v2), (0, .ref (ad 0)), (1, .int x1), (2, .int x2)]) hx hb dX7_castOf_57 hl (by decide) rfl (fun ls hl => ?_)
    refine lv_aload_n hx hb dX7_castOf_59 rfl (lv_at hl 2 rfl) ?_
    refine tf_get (C := RX7) (T := TX7) (N := 35) hx hb hts hn_X7 hown hK hI 0 (tf_mat_0 ad cI cZ _) rfl 33 (by decide) hf_93 rfl rfl dX7_castOf_60 ?_
    refine lv_iload_n hx hb dX7_castOf_63 rfl (lv_at hl 3 rfl) ?_
    refine lv_iload hx hb dX7_castOf_64 (lv_at hl 0 rfl) ?_
    refine lv_iconst (v := 1) hx hb dX7_castOf_66 (by decide +kernel) ?_
    refine lv_icmp_ne (tgt := 74) hx hb dX7_castOf_67 (by decide) (fun c15 => ?_) (fun c15 => ?_)
    · replace h := tf_neg c15 h
      refine lv_iconst (v := 0) hx hb dX7_castOf_74 (by decide +kernel) ?_
      obtain ⟨b16, h⟩ := tf_gin h
      obtain ⟨s17, es17, h⟩ := tf_glet h
      refine tf_zast hx hb hK hI 26 1 (tf_mat_26 ad cI cZ _) (tf_mset_26 ad cI cZ _) rfl b16 (Or.inl rfl) es17 dX7_castOf_75 (fun H locs hI => ?_)
      exact j76  _ _ _ _ _ _ h hI (lv_sub hl [2, 1, 0] rfl)
    replace h := tf_pos c15 h
    refine lv_iconst (v := 1) hx hb dX7_castOf_70 (by decide +kernel) ?_
    refine lv_goto (tgt := 75) hx hb dX7_castOf_71 (by decide) ?_
    obtain ⟨b18, h⟩ := tf_gin h
    obtain ⟨s19, es19, h⟩ := tf_glet h
    refine tf_zast hx hb hK hI 26 1 (tf_mat_26 ad cI cZ _) (tf_mset_26 ad cI cZ _) rfl b18 (Or.inr rfl) es19 dX7_castOf_75 (fun H locs hI => ?_)
    exact j76  _ _ _ _ _ _ h hI (lv_sub hl [2, 1, 0] rfl)
  replace h := tf_pos c14 h
  refine lv_iload_n hx hb dX7_castOf_33 rfl (lv_at hl 4 rfl) ?_
  refine lv_iconst (v := 1) hx hb dX7_castOf_34 (by decide +kernel) ?_
  refine lv_iconst (v := 3) hx hb dX7_castOf_35 (by decide +kernel) ?_
  obtain ⟨u20, q21, h⟩ := tf_gbind h
  refine tf_callS (rest := []) ⟨hx, hb, hml, hown, hts⟩ hK hN hI (kM_X7_isIn l D ad cI cZ _ _ _ _ _ q21) (va_cwS 3 hts gX7_castOf_X7_isIn rfl rfl rfl (by decide +kernel) ⟨Nat.le_of_ble_eq_true rfl, Nat.le_of_ble_eq_true rfl⟩) rfl hl.1 rfl (Nat.le_of_ble_eq_true rfl) dX7_castOf_36 (fun H locs hI => ?_)
  refine lv_if_eq (tgt := 55) hx hb dX7_castOf_39 (by decide) (fun c22 => ?_) (fun c22 => ?_)
  · replace h := tf_pos c22 h
    refine lv_iload hx hb dX7_castOf_55 (lv_at hl 0 rfl) ?_
    refine lv_istore (lv' := [(4, .int v13), (3, .int v2), (0, .ref (ad 0)), (1, .int x1), (2, .int x2)]) hx hb dX7_castOf_57 hl (by decide) rfl (fun ls hl => ?_)
    refine lv_aload_n hx hb dX7_castOf_59 rfl (lv_at hl 2 rfl) ?_
    refine tf_get (C := RX7) (T := TX7) (N := 35) hx hb hts hn_X7 hown hK hI 0 (tf_mat_0 ad cI cZ _) rfl 33 (by decide) hf_93 rfl rfl dX7_castOf_60 ?_
    refine lv_iload_n hx hb dX7_castOf_63 rfl (lv_at hl 3 rfl) ?_
    refine lv_iload hx hb dX7_castOf_64 (lv_at hl 0 rfl) ?_
    refine lv_iconst (v := 1) hx hb dX7_castOf_66 (by decide +kernel) ?_
    refine lv_icmp_ne (tgt := 74) hx hb dX7_castOf_67 (by decide) (fun c23 => ?_) (fun c23 => ?_)
    · replace h := tf_neg c23 h
      refine lv_iconst (v := 0) hx hb dX7_castOf_74 (by decide +kernel) ?_
      obtain ⟨b24, h⟩ := tf_gin h
      obtain ⟨s25, es25, h⟩ := tf_glet h
      refine tf_zast hx hb hK hI 26 1 (tf_mat_26 ad cI cZ _) (tf_mset_26 ad cI cZ _) rfl b24 (Or.inl rfl) es25 dX7_castOf_75 (fun H locs hI => ?_)
      exact j76  _ _ _ _ _ _ h hI (lv_sub hl [2, 1, 0] rfl)
    replace h := tf_pos c23 h
    refine lv_iconst (v := 1) hx hb dX7_castOf_70 (by decide +kernel) ?_
    refine lv_goto (tgt := 75) hx hb dX7_castOf_71 (by decide) ?_
    obtain ⟨b26, h⟩ := tf_gin h
    obtain ⟨s27, es27, h⟩ := tf_glet h
    refine tf_zast hx hb hK hI 26 1 (tf_mat_26 ad cI cZ _) (tf_mset_26 ad cI cZ _) rfl b26 (Or.inr rfl) es27 dX7_castOf_75 (fun H locs hI => ?_)
    exact j76  _ _ _ _ _ _ h hI (lv_sub hl [2, 1, 0] rfl)
  replace h := tf_neg c22 h
  refine lv_iload_n hx hb dX7_castOf_42 rfl (lv_at hl 1 rfl) ?_
  refine lv_iconst (v := 1) hx hb dX7_castOf_43 (by decide +kernel) ?_
  refine lv_iconst (v := 3) hx hb dX7_castOf_44 (by decide +kernel) ?_
  obtain ⟨u28, q29, h⟩ := tf_gbind h
  refine tf_callS (rest := []) ⟨hx, hb, hml, hown, hts⟩ hK hN hI (kM_X7_isIn l D ad cI cZ _ _ _ _ _ q29) (va_cwS 3 hts gX7_castOf_X7_isIn rfl rfl rfl (by decide +kernel) ⟨Nat.le_of_ble_eq_true rfl, Nat.le_of_ble_eq_true rfl⟩) rfl hl.1 rfl (Nat.le_of_ble_eq_true rfl) dX7_castOf_45 (fun H locs hI => ?_)
  refine lv_if_eq (tgt := 55) hx hb dX7_castOf_48 (by decide) (fun c30 => ?_) (fun c30 => ?_)
  · replace h := tf_pos c30 h
    refine lv_iload hx hb dX7_castOf_55 (lv_at hl 0 rfl) ?_
    refine lv_istore (lv' := [(4, .int v13), (3, .int v2), (0, .ref (ad 0)), (1, .int x1), (2, .int x2)]) hx hb dX7_castOf_57 hl (by decide) rfl (fun ls hl => ?_)
    refine lv_aload_n hx hb dX7_castOf_59 rfl (lv_at hl 2 rfl) ?_
    refine tf_get (C := RX7) (T := TX7) (N := 35) hx hb hts hn_X7 hown hK hI 0 (tf_mat_0 ad cI cZ _) rfl 33 (by decide) hf_93 rfl rfl dX7_castOf_60 ?_
    refine lv_iload_n hx hb dX7_castOf_63 rfl (lv_at hl 3 rfl) ?_
    refine lv_iload hx hb dX7_castOf_64 (lv_at hl 0 rfl) ?_
    refine lv_iconst (v := 1) hx hb dX7_castOf_66 (by decide +kernel) ?_
    refine lv_icmp_ne (tgt := 74) hx hb dX7_castOf_67 (by decide) (fun c31 => ?_) (fun c31 => ?_)
    · replace h := tf_neg c31 h
      refine lv_iconst (v := 0) hx hb dX7_castOf_74 (by decide +kernel) ?_
      obtain ⟨b32, h⟩ := tf_gin h
      obtain ⟨s33, es33, h⟩ := tf_glet h
      refine tf_zast hx hb hK hI 26 1 (tf_mat_26 ad cI cZ _) (tf_mset_26 ad cI cZ _) rfl b32 (Or.inl rfl) es33 dX7_castOf_75 (fun H locs hI => ?_)
      exact j76  _ _ _ _ _ _ h hI (lv_sub hl [2, 1, 0] rfl)
    replace h := tf_pos c31 h
    refine lv_iconst (v := 1) hx hb dX7_castOf_70 (by decide +kernel) ?_
    refine lv_goto (tgt := 75) hx hb dX7_castOf_71 (by decide) ?_
    obtain ⟨b34, h⟩ := tf_gin h
    obtain ⟨s35, es35, h⟩ := tf_glet h
    refine tf_zast hx hb hK hI 26 1 (tf_mat_26 ad cI cZ _) (tf_mset_26 ad cI cZ _) rfl b34 (Or.inr rfl) es35 dX7_castOf_75 (fun H locs hI => ?_)
    exact j76  _ _ _ _ _ _ h hI (lv_sub hl [2, 1, 0] rfl)
  replace h := tf_neg c30 h
  refine lv_iconst (v := 1) hx hb dX7_castOf_51 (by decide +kernel) ?_
  refine lv_goto (tgt := 57) hx hb dX7_castOf_52 (by decide) ?_
  refine lv_istore (lv' := [(4, .int (1 : Int32)), (3, .int v2), (0, .ref (ad 0)), (1, .int x1), (2, .int x2)]) hx hb dX7_castOf_57 hl (by decide) rfl (fun ls hl => ?_)
  refine lv_aload_n hx hb dX7_castOf_59 rfl (lv_at hl 2 rfl) ?_
  refine tf_get (C := RX7) (T := TX7) (N := 35) hx hb hts hn_X7 hown hK hI 0 (tf_mat_0 ad cI cZ _) rfl 33 (by decide) hf_93 rfl rfl dX7_castOf_60 ?_
  refine lv_iload_n hx hb dX7_castOf_63 rfl (lv_at hl 3 rfl) ?_
  refine lv_iload hx hb dX7_castOf_64 (lv_at hl 0 rfl) ?_
  refine lv_iconst (v := 1) hx hb dX7_castOf_66 (by decide +kernel) ?_
  refine lv_icmp_ne (tgt := 74) hx hb dX7_castOf_67 (by decide) (fun c36 => ?_) (fun c36 => ?_)
  · replace h := tf_neg c36 h
    refine lv_iconst (v := 0) hx hb dX7_castOf_74 (by decide +kernel) ?_
    obtain ⟨b37, h⟩ := tf_gin h
    obtain ⟨s38, es38, h⟩ := tf_glet h
    refine tf_zast hx hb hK hI 26 1 (tf_mat_26 ad cI cZ _) (tf_mset_26 ad cI cZ _) rfl b37 (Or.inl rfl) es38 dX7_castOf_75 (fun H locs hI => ?_)
    exact j76  _ _ _ _ _ _ h hI (lv_sub hl [2, 1, 0] rfl)
  replace h := tf_pos c36 h
  refine lv_iconst (v := 1) hx hb dX7_castOf_70 (by decide +kernel) ?_
  refine lv_goto (tgt := 75) hx hb dX7_castOf_71 (by decide) ?_
  obtain ⟨b39, h⟩ := tf_gin h
  obtain ⟨s40, es40, h⟩ := tf_glet h
  refine tf_zast hx hb hK hI 26 1 (tf_mat_26 ad cI cZ _) (tf_mset_26 ad cI cZ _) rfl b39 (Or.inr rfl) es40 dX7_castOf_75 (fun H locs hI => ?_)
  exact j76  _ _ _ _ _ _ h hI (lv_sub hl [2, 1, 0] rfl)
