set_option maxHeartbeats 4000000 in
set_option maxRecDepth 100000 in
theorem kX_X5_joined (l : Launch) (D : va_G) (ad : Nat → Nat) (cI cZ : ClassId) (σ : tf_S) (x1 x2 x3 : Int32) (z : Int32 × tf_S) (h : fX5_joined σ x1 x2 x3 = some z) : tf_C l D (tf_wx ad cI cZ) [(cI, .int), (cZ, .boolean)] tf_nest yX5_joined wsX5_joined ({ frames := 4, cells := 0, slots := 0, locals := 100 }) [.ref (ad 5), .int x1, .int x2, .int x3] σ z := by
  intro sz
  refine Met.ofW (cc := cX5_joined) (maxL := 7) (ret := (some .int)) (by decide) rfl ?_
  intro p e s m args below meth c s₁ B hml hv
  obtain ⟨rfl, hsz, hP, hK, hN, hD0⟩ := hv
  have hx := B.exec
  have hb := B.bytes
  have hr := B.returns
  have hts := atoms_spec (ws := wsX5_joined) B.pre
  have hown : s.vm.findClass RX5 = some m.cls := findClass_of_methodNamed B.named
  have hlocks := B.notSynchronized
  subst hsz
  have hI := tf_start (D := D) (tf_x_ad ad cI cZ) hP hD0
  have hl := lv_entry ([.ref (ad 5), .int x1, .int x2, .int x3]) (n := 7) (Nat.le_of_ble_eq_true rfl)
  rw [lg_entry_eq]
  generalize (lg_sl ([.ref (ad 5), .int x1, .int x2, .int x3]) ++ List.replicate (7 - (lg_sl ([.ref (ad 5), .int x1, .int x2, .int x3])).length) Slot.unset).toArray = ls at hl ⊢
  have hl : lv_has ls 7 [(0, .ref (ad 5)), (1, .int x1), (2, .int x2), (3, .int x3)] := hl
  have hn_X2 : ∀ w ∈ u_ws RX2 TX2 11, w ∈ wsX5_joined := by decide +kernel
  have hn_X5 : ∀ w ∈ u_ws RX5 TX5 6, w ∈ wsX5_joined := by decide +kernel
  have hf_19 := hts (.fieldLink RX5 19 "TypeFlow$Worker" "types" "LTypeFlow$Types;") (by decide +kernel)
  have hf_27 := hts (.fieldLink RX5 27 "TypeFlow$Worker" "operators" "LTypeFlow$Operators;") (by decide +kernel)
  have hf_40 := hts (.fieldLink RX5 40 "TypeFlow$Operators" "f" "[I") (by decide +kernel)
  have hf_124 := hts (.fieldLink RX5 124 "TypeFlow$Operators" "g" "[I") (by decide +kernel)
  have hf_130 := hts (.fieldLink RX5 130 "TypeFlow$Operators" "c" "[I") (by decide +kernel)
  have j79 : ∀ (σ : tf_S) (y6 : Int32) (H : Heap) (locs : List Loc) (ls : Array Slot), fX5_joined_79 x1 x2 x3 σ y6 = some z → tf_I D (tf_wx ad cI cZ) s.heap σ H locs → lv_has ls 7 [(0, .ref (ad 5)), (1, .int x1), (2, .int x2), (3, .int x3), (6, .int y6)] → W p l e (headSpec wsX5_joined ({ frames := 4, cells := 0, slots := 0, locals := 100 })).room s m ([.ref (ad 5), .int x1, .int x2, .int x3] : List Value).toArray below meth c H locs 0 0 (tf_Q below D (tf_wx ad cI cZ) z ([.ref (ad 5), .int x1, .int x2, .int x3] : List Value).toArray s) (F0 m 79 ls []) := by
    intro σ y6 H locs ls h hI hl
    unfold fX5_joined_79 at h
    refine lv_iload hx hb dX5_joined_79 (lv_at hl 4 rfl) ?_
    refine lv_iconst (v := 1) hx hb dX5_joined_81 (by decide +kernel) ?_
    refine lv_icmp_eq (tgt := 104) hx hb dX5_joined_82 (by decide) (fun c15 => ?_) (fun c15 => ?_)
    · replace h := tf_pos c15 h
      refine lv_aload_n hx hb dX5_joined_104 rfl (lv_at hl 0 rfl) ?_
      refine lv_aload_n hx hb dX5_joined_105 rfl (lv_at hl 0 rfl) ?_
      refine tf_get (C := RX5) (T := TX5) (N := 6) hx hb hts hn_X5 hown hK hI 5 (tf_xat_5 ad cI cZ _) rfl 0 (by decide) hf_19 rfl rfl dX5_joined_106 ?_
      refine lv_aload_n hx hb dX5_joined_109 rfl (lv_at hl 0 rfl) ?_
      refine tf_get (C := RX5) (T := TX5) (N := 6) hx hb hts hn_X5 hown hK hI 5 (tf_xat_5 ad cI cZ _) rfl 2 (by decide) hf_27 rfl rfl dX5_joined_110 ?_
      refine tf_get (C := RX2) (T := TX2) (N := 11) hx hb hts hn_X2 hown hK hI 4 (tf_xat_4 ad cI cZ _) rfl 6 (by decide) hf_130 rfl rfl dX5_joined_113 ?_
      refine lv_iload_n hx hb dX5_joined_116 rfl (lv_at hl 1 rfl) ?_
      obtain ⟨b16, h⟩ := tf_gin h
      refine va_iald hx hb hK hI.1 26 0 (tf_xat_26 ad cI cZ _) rfl b16 dX5_joined_117 ?_
      refine lv_iload_n hx hb dX5_joined_118 rfl (lv_at hl 2 rfl) ?_
      refine lv_iload_n hx hb dX5_joined_119 rfl (lv_at hl 3 rfl) ?_
      obtain ⟨u17, q18, h⟩ := tf_gbind h
      refine tf_callV (rest := [.ref (ad 5)]) ⟨hx, hb, hml, hown, hts⟩ hK hN hI (kX_X4_make l D ad cI cZ _ _ _ _ _ q18) (cwV 3 hts gX5_joined_X4_make rfl rfl rfl (by decide +kernel) ⟨Nat.le_of_ble_eq_true rfl, Nat.le_of_ble_eq_true rfl⟩) 1 4 (tf_xat_1 ad cI cZ _) rfl rfl hl.1 rfl (Nat.le_of_ble_eq_true rfl) dX5_joined_120 (fun H locs hI => ?_)
      refine lv_bipush (v := 8) hx hb dX5_joined_123 (by decide +kernel) ?_
      obtain ⟨u19, q20, h⟩ := tf_gbind h
      refine tf_callV (rest := []) ⟨hx, hb, hml, hown, hts⟩ hK hN hI (kX_X5_orFault l D ad cI cZ _ _ _ _ q20) (cwV 2 hts gX5_joined_X5_orFault rfl rfl rfl (by decide +kernel) ⟨Nat.le_of_ble_eq_true rfl, Nat.le_of_ble_eq_true rfl⟩) 5 5 (tf_xat_5 ad cI cZ _) rfl rfl hl.1 rfl (Nat.le_of_ble_eq_true rfl) dX5_joined_125 (fun H locs hI => ?_)
      exact tf_iret hx hb hr hI h dX5_joined_128 hlocks
    replace h := tf_neg c15 h
    refine lv_aload_n hx hb dX5_joined_85 rfl (lv_at hl 0 rfl) ?_
    refine lv_iload hx hb dX5_joined_86 (lv_at hl 4 rfl) ?_
    refine lv_bipush (v := -3) hx hb dX5_joined_88 (by decide +kernel) ?_
    refine lv_icmp_ne (tgt := 98) hx hb dX5_joined_90 (by decide) (fun c21 => ?_) (fun c21 => ?_)
    · replace h := tf_neg c21 h
      refine lv_bipush (v := 6) hx hb dX5_joined_98 (by decide +kernel) ?_
      obtain ⟨u22, q23, h⟩ := tf_gbind h
      refine tf_callV (rest := []) ⟨hx, hb, hml, hown, hts⟩ hK hN hI (kX_X5_none l D ad cI cZ _ _ _ q23) (cwV 1 hts gX5_joined_X5_none rfl rfl rfl (by decide +kernel) ⟨Nat.le_of_ble_eq_true rfl, Nat.le_of_ble_eq_true rfl⟩) 5 5 (tf_xat_5 ad cI cZ _) rfl rfl hl.1 rfl (Nat.le_of_ble_eq_true rfl) dX5_joined_100 (fun H locs hI => ?_)
      exact tf_iret hx hb hr hI h dX5_joined_103 hlocks
    replace h := tf_pos c21 h
    refine lv_bipush (v := 8) hx hb dX5_joined_93 (by decide +kernel) ?_
    refine lv_goto (tgt := 100) hx hb dX5_joined_95 (by decide) ?_
    obtain ⟨u24, q25, h⟩ := tf_gbind h
    refine tf_callV (rest := []) ⟨hx, hb, hml, hown, hts⟩ hK hN hI (kX_X5_none l D ad cI cZ _ _ _ q25) (cwV 1 hts gX5_joined_X5_none rfl rfl rfl (by decide +kernel) ⟨Nat.le_of_ble_eq_true rfl, Nat.le_of_ble_eq_true rfl⟩) 5 5 (tf_xat_5 ad cI cZ _) rfl rfl hl.1 rfl (Nat.le_of_ble_eq_true rfl) dX5_joined_100 (fun H locs hI => ?_)
    exact tf_iret hx hb hr hI h dX5_joined_103 hlocks
  unfold fX5_joined at h
  refine lv_aload_n hx hb dX5_joined_0 rfl (lv_at hl 0 rfl) ?_
  refine lv_iload_n hx hb dX5_joined_1 rfl (lv_at hl 2 rfl) ?_
  refine lv_aload_n hx hb dX5_joined_2 rfl (lv_at hl 0 rfl) ?_
  refine tf_get (C := RX5) (T := TX5) (N := 6) hx hb hts hn_X5 hown hK hI 5 (tf_xat_5 ad cI cZ _) rfl 2 (by decide) hf_27 rfl rfl dX5_joined_3 ?_
  refine tf_get (C := RX2) (T := TX2) (N := 11) hx hb hts hn_X2 hown hK hI 4 (tf_xat_4 ad cI cZ _) rfl 4 (by decide) hf_40 rfl rfl dX5_joined_6 ?_
  refine lv_iload_n hx hb dX5_joined_9 rfl (lv_at hl 1 rfl) ?_
  obtain ⟨b1, h⟩ := tf_gin h
  refine va_iald hx hb hK hI.1 24 0 (tf_xat_24 ad cI cZ _) rfl b1 dX5_joined_10 ?_
  obtain ⟨u2, q3, h⟩ := tf_gbind h
  refine tf_callV (rest := []) ⟨hx, hb, hml, hown, hts⟩ hK hN hI (kX_X5_memberOf l D ad cI cZ _ _ _ _ q3) (cwV 2 hts gX5_joined_X5_memberOf rfl rfl rfl (by decide +kernel) ⟨Nat.le_of_ble_eq_true rfl, Nat.le_of_ble_eq_true rfl⟩) 5 5 (tf_xat_5 ad cI cZ _) rfl rfl hl.1 rfl (Nat.le_of_ble_eq_true rfl) dX5_joined_11 (fun H locs hI => ?_)
  obtain ⟨v4, ev4, h⟩ := tf_glet h
  refine tf_top ev4 ?_
  refine lv_istore (lv' := [(4, .int v4), (0, .ref (ad 5)), (1, .int x1), (2, .int x2), (3, .int x3)]) hx hb dX5_joined_14 hl (by decide) rfl (fun ls hl => ?_)
  refine lv_iload hx hb dX5_joined_16 (lv_at hl 0 rfl) ?_
  refine lv_iconst (v := -1) hx hb dX5_joined_18 (by decide +kernel) ?_
  refine lv_icmp_ne (tgt := 24) hx hb dX5_joined_19 (by decide) (fun c5 => ?_) (fun c5 => ?_)
  · replace h := tf_neg c5 h
    refine lv_aload_n hx hb dX5_joined_24 rfl (lv_at hl 1 rfl) ?_
    refine lv_iload_n hx hb dX5_joined_25 rfl (lv_at hl 4 rfl) ?_
    refine lv_aload_n hx hb dX5_joined_26 rfl (lv_at hl 1 rfl) ?_
    refine tf_get (C := RX5) (T := TX5) (N := 6) hx hb hts hn_X5 hown hK hI 5 (tf_xat_5 ad cI cZ _) rfl 2 (by decide) hf_27 rfl rfl dX5_joined_27 ?_
    refine tf_get (C := RX2) (T := TX2) (N := 11) hx hb hts hn_X2 hown hK hI 4 (tf_xat_4 ad cI cZ _) rfl 5 (by decide) hf_124 rfl rfl dX5_joined_30 ?_
    refine lv_iload_n hx hb dX5_joined_33 rfl (lv_at hl 2 rfl) ?_
    obtain ⟨b6, h⟩ := tf_gin h
    refine va_iald hx hb hK hI.1 25 0 (tf_xat_25 ad cI cZ _) rfl b6 dX5_joined_34 ?_
    obtain ⟨u7, q8, h⟩ := tf_gbind h
    refine tf_callV (rest := []) ⟨hx, hb, hml, hown, hts⟩ hK hN hI (kX_X5_memberOf l D ad cI cZ _ _ _ _ q8) (cwV 2 hts gX5_joined_X5_memberOf rfl rfl rfl (by decide +kernel) ⟨Nat.le_of_ble_eq_true rfl, Nat.le_of_ble_eq_true rfl⟩) 5 5 (tf_xat_5 ad cI cZ _) rfl rfl hl.1 rfl (Nat.le_of_ble_eq_true rfl) dX5_joined_35 (fun H locs hI => ?_)
    obtain ⟨v9, ev9, h⟩ := tf_glet h
    refine tf_top ev9 ?_
    refine lv_istore (lv' := [(5, .int v9), (4, .int v4), (0, .ref (ad 5)), (1, .int x1), (2, .int x2), (3, .int x3)]) hx hb dX5_joined_38 hl (by decide) rfl (fun ls hl => ?_)
    refine lv_iload hx hb dX5_joined_40 (lv_at hl 0 rfl) ?_
    refine lv_iconst (v := -1) hx hb dX5_joined_42 (by decide +kernel) ?_
    refine lv_icmp_ne (tgt := 48) hx hb dX5_joined_43 (by decide) (fun c10 => ?_) (fun c10 => ?_)
    · replace h := tf_neg c10 h
      refine lv_aload_n hx hb dX5_joined_48 rfl (lv_at hl 2 rfl) ?_
      refine tf_get (C := RX5) (T := TX5) (N := 6) hx hb hts hn_X5 hown hK hI 5 (tf_xat_5 ad cI cZ _) rfl 0 (by decide) hf_19 rfl rfl dX5_joined_49 ?_
      refine lv_iload hx hb dX5_joined_52 (lv_at hl 1 rfl) ?_
      refine lv_iload hx hb dX5_joined_54 (lv_at hl 0 rfl) ?_
      obtain ⟨u11, q12, h⟩ := tf_gbind h
      refine tf_callV (rest := []) ⟨hx, hb, hml, hown, hts⟩ hK hN hI (kX_X4_goesFor l D ad cI cZ _ _ _ _ q12) (cwV 2 hts gX5_joined_X4_goesFor rfl rfl rfl (by decide +kernel) ⟨Nat.le_of_ble_eq_true rfl, Nat.le_of_ble_eq_true rfl⟩) 1 4 (tf_xat_1 ad cI cZ _) rfl rfl hl.1 rfl (Nat.le_of_ble_eq_true rfl) dX5_joined_56 (fun H locs hI => ?_)
      obtain ⟨v13, ev13, h⟩ := tf_glet h
      refine tf_top ev13 ?_
      refine lv_istore (lv' := [(6, .int v13), (5, .int v9), (4, .int v4), (0, .ref (ad 5)), (1, .int x1), (2, .int x2), (3, .int x3)]) hx hb dX5_joined_59 hl (by decide) rfl (fun ls hl => ?_)
      refine lv_iload hx hb dX5_joined_61 (lv_at hl 0 rfl) ?_
      refine lv_if_ne (tgt := 79) hx hb dX5_joined_63 (by decide) (fun c14 => ?_) (fun c14 => ?_)
      · replace h := tf_neg c14 h
        exact j79  _ _ _ _ _ h hI (lv_sub hl [3, 4, 5, 6, 0] rfl)
      replace h := tf_pos c14 h
      refine lv_aload_n hx hb dX5_joined_66 rfl (lv_at hl 3 rfl) ?_
      refine tf_get (C := RX5) (T := TX5) (N := 6) hx hb hts hn_X5 hown hK hI 5 (tf_xat_5 ad cI cZ _) rfl 0 (by decide) hf_19 rfl rfl dX5_joined_67 ?_
      refine lv_iload hx hb dX5_joined_70 (lv_at hl 1 rfl) ?_
      refine lv_iload hx hb dX5_joined_72 (lv_at hl 2 rfl) ?_
      obtain ⟨u26, q27, h⟩ := tf_gbind h
      refine tf_callV (rest := []) ⟨hx, hb, hml, hown, hts⟩ hK hN hI (kX_X4_goesFor l D ad cI cZ _ _ _ _ q27) (cwV 2 hts gX5_joined_X4_goesFor rfl rfl rfl (by decide +kernel) ⟨Nat.le_of_ble_eq_true rfl, Nat.le_of_ble_eq_true rfl⟩) 1 4 (tf_xat_1 ad cI cZ _) rfl rfl hl.1 rfl (Nat.le_of_ble_eq_true rfl) dX5_joined_74 (fun H locs hI => ?_)
      obtain ⟨v28, ev28, h⟩ := tf_glet h
      refine tf_top ev28 ?_
      refine lv_istore (lv' := [(6, .int v28), (5, .int v9), (4, .int v4), (0, .ref (ad 5)), (1, .int x1), (2, .int x2), (3, .int x3)]) hx hb dX5_joined_77 hl (by decide) rfl (fun ls hl => ?_)
      exact j79  _ _ _ _ _ h hI (lv_sub hl [3, 4, 5, 6, 0] rfl)
    replace h := tf_pos c10 h
    refine lv_iconst (v := -1) hx hb dX5_joined_46 (by decide +kernel) ?_
    exact tf_iret hx hb hr hI h dX5_joined_47 hlocks
  replace h := tf_pos c5 h
  refine lv_iconst (v := -1) hx hb dX5_joined_22 (by decide +kernel) ?_
  exact tf_iret hx hb hr hI h dX5_joined_23 hlocks

set_option maxHeartbeats 4000000 in
set_option maxRecDepth 100000 in
theorem kX_X5_isNumber (l : Launch) (D : va_G) (ad : Nat → Nat) (cI cZ : ClassId) (σ : tf_S) (x0 : Int32) (z : Int32 × tf_S) (h : fX5_isNumber σ x0 = some z) : tf_C l D (tf_wx ad cI cZ) [(cI, .int), (cZ, .boolean)] tf_nest yX5_isNumber wsX5_isNumber ({ frames := 1, cells := 0, slots := 0, locals := 20 }) [.int x0] σ z := by
  intro sz
  refine Met.ofW (cc := cX5_isNumber) (maxL := 1) (ret := (some .boolean)) (by decide) rfl ?_
  intro p e s m args below meth c s₁ B hml hv
  obtain ⟨rfl, hsz, hP, hK, hN, hD0⟩ := hv
  have hx := B.exec
  have hb := B.bytes
  have hr := B.returns
  have hts := atoms_spec (ws := wsX5_isNumber) B.pre
  have hown : s.vm.findClass RX5 = some m.cls := findClass_of_methodNamed B.named
  have hlocks := B.notSynchronized
  subst hsz
  have hI := tf_start (D := D) (tf_x_ad ad cI cZ) hP hD0
  have hl := lv_entry ([.int x0]) (n := 1) (Nat.le_of_ble_eq_true rfl)
  rw [lg_entry_eq]
  generalize (lg_sl ([.int x0]) ++ List.replicate (1 - (lg_sl ([.int x0])).length) Slot.unset).toArray = ls at hl ⊢
  have hl : lv_has ls 1 [(0, .int x0)] := hl
  unfold fX5_isNumber at h
  refine lv_iload_n hx hb dX5_isNumber_0 rfl (lv_at hl 0 rfl) ?_
  obtain ⟨u1, q2, h⟩ := tf_gbind h
  refine tf_callSN (rest := []) ⟨hx, hb, hml, hown, hts⟩ hK hN hI (kX_X6_isPrimitive l D ad cI cZ _ _ _ q2) ⟨va_cnB 1 hts gX5_isNumber_X6_isPrimitive_n103 rfl rfl rfl (hN (RX5, 103, yX6_isPrimitive, "TypeFlow") (by decide +kernel)) (hts (.initialized RX6) (by decide +kernel)) (by decide +kernel) ⟨Nat.le_of_ble_eq_true rfl, Nat.le_of_ble_eq_true rfl⟩, hts (.static yX6_isPrimitive) (by decide +kernel), trivial⟩ rfl hl.1 rfl (Nat.le_of_ble_eq_true rfl) dX5_isNumber_1 (fun H locs hI => ?_)
  refine lv_if_eq (tgt := 15) hx hb dX5_isNumber_4 (by decide) (fun c3 => ?_) (fun c3 => ?_)
  · replace h := tf_pos c3 h
    refine lv_iconst (v := 0) hx hb dX5_isNumber_15 (by decide +kernel) ?_
    exact tf_zret hx hb hr (Or.inl rfl) hI h dX5_isNumber_16 hlocks
  replace h := tf_neg c3 h
  refine lv_iload_n hx hb dX5_isNumber_7 rfl (lv_at hl 0 rfl) ?_
  refine lv_if_eq (tgt := 15) hx hb dX5_isNumber_8 (by decide) (fun c4 => ?_) (fun c4 => ?_)
  · replace h := tf_pos c4 h
    refine lv_iconst (v := 0) hx hb dX5_isNumber_15 (by decide +kernel) ?_
    exact tf_zret hx hb hr (Or.inl rfl) hI h dX5_isNumber_16 hlocks
  replace h := tf_neg c4 h
  refine lv_iconst (v := 1) hx hb dX5_isNumber_11 (by decide +kernel) ?_
  refine lv_goto (tgt := 16) hx hb dX5_isNumber_12 (by decide) ?_
  exact tf_zret hx hb hr (Or.inr rfl) hI h dX5_isNumber_16 hlocks

set_option maxHeartbeats 4000000 in
set_option maxRecDepth 100000 in
theorem kX_X5_castTo (l : Launch) (D : va_G) (ad : Nat → Nat) (cI cZ : ClassId) (σ : tf_S) (x1 x2 : Int32) (z : Int32 × tf_S) (h : fX5_castTo σ x1 x2 = some z) : tf_C l D (tf_wx ad cI cZ) [(cI, .int), (cZ, .boolean)] tf_nest yX5_castTo wsX5_castTo ({ frames := 4, cells := 0, slots := 0, locals := 99 }) [.ref (ad 5), .int x1, .int x2] σ z := by
  intro sz
  refine Met.ofW (cc := cX5_castTo) (maxL := 4) (ret := (some .int)) (by decide) rfl ?_
  intro p e s m args below meth c s₁ B hml hv
  obtain ⟨rfl, hsz, hP, hK, hN, hD0⟩ := hv
  have hx := B.exec
  have hb := B.bytes
  have hr := B.returns
  have hts := atoms_spec (ws := wsX5_castTo) B.pre
  have hown : s.vm.findClass RX5 = some m.cls := findClass_of_methodNamed B.named
  have hlocks := B.notSynchronized
  subst hsz
  have hI := tf_start (D := D) (tf_x_ad ad cI cZ) hP hD0
  have hl := lv_entry ([.ref (ad 5), .int x1, .int x2]) (n := 4) (Nat.le_of_ble_eq_true rfl)
  rw [lg_entry_eq]
  generalize (lg_sl ([.ref (ad 5), .int x1, .int x2]) ++ List.replicate (4 - (lg_sl ([.ref (ad 5), .int x1, .int x2])).length) Slot.unset).toArray = ls at hl ⊢
  have hl : lv_has ls 4 [(0, .ref (ad 5)), (1, .int x1), (2, .int x2)] := hl
  have hn_X5 : ∀ w ∈ u_ws RX5 TX5 6, w ∈ wsX5_castTo := by decide +kernel
  have hf_15 := hts (.fieldLink RX5 15 "TypeFlow$Worker" "risky" "Z") (by decide +kernel)
  have hf_19 := hts (.fieldLink RX5 19 "TypeFlow$Worker" "types" "LTypeFlow$Types;") (by decide +kernel)
  have j52 : ∀ (σ : tf_S) (y3 : Int32) (H : Heap) (locs : List Loc) (ls : Array Slot), fX5_castTo_52 x1 x2 σ y3 = some z → tf_I D (tf_wx ad cI cZ) s.heap σ H locs → lv_has ls 4 [(0, .ref (ad 5)), (2, .int x2), (3, .int y3)] → W p l e (headSpec wsX5_castTo ({ frames := 4, cells := 0, slots := 0, locals := 99 })).room s m ([.ref (ad 5), .int x1, .int x2] : List Value).toArray below meth c H locs 0 0 (tf_Q below D (tf_wx ad cI cZ) z ([.ref (ad 5), .int x1, .int x2] : List Value).toArray s) (F0 m 52 ls []) := by
    intro σ y3 H locs ls h hI hl
    unfold fX5_castTo_52 at h
    refine lv_iload_n hx hb dX5_castTo_52 rfl (lv_at hl 2 rfl) ?_
    refine lv_bipush (v := -3) hx hb dX5_castTo_53 (by decide +kernel) ?_
    refine lv_icmp_ne (tgt := 65) hx hb dX5_castTo_55 (by decide) (fun c5 => ?_) (fun c5 => ?_)
    · replace h := tf_neg c5 h
      refine lv_iload_n hx hb dX5_castTo_65 rfl (lv_at hl 2 rfl) ?_
      refine lv_iconst (v := 1) hx hb dX5_castTo_66 (by decide +kernel) ?_
      refine lv_icmp_eq (tgt := 77) hx hb dX5_castTo_67 (by decide) (fun c6 => ?_) (fun c6 => ?_)
      · replace h := tf_pos c6 h
        refine lv_iload_n hx hb dX5_castTo_77 rfl (lv_at hl 1 rfl) ?_
        refine lv_goto (tgt := 87) hx hb dX5_castTo_78 (by decide) ?_
        exact tf_iret hx hb hr hI h dX5_castTo_87 hlocks
      replace h := tf_neg c6 h
      refine lv_aload_n hx hb dX5_castTo_70 rfl (lv_at hl 0 rfl) ?_
      refine tf_get (C := RX5) (T := TX5) (N := 6) hx hb hts hn_X5 hown hK hI 5 (tf_xat_5 ad cI cZ _) rfl 5 (by decide) hf_15 rfl rfl dX5_castTo_71 ?_
      refine lv_if_eq (tgt := 81) hx hb dX5_castTo_74 (by decide) (fun c7 => ?_) (fun c7 => ?_)
      · replace h := tf_pos c7 h
        refine lv_aload_n hx hb dX5_castTo_81 rfl (lv_at hl 0 rfl) ?_
        refine lv_bipush (v := 6) hx hb dX5_castTo_82 (by decide +kernel) ?_
        obtain ⟨u8, q9, h⟩ := tf_gbind h
        refine tf_callV (rest := []) ⟨hx, hb, hml, hown, hts⟩ hK hN hI (kX_X5_none l D ad cI cZ _ _ _ q9) (cwV 1 hts gX5_castTo_X5_none rfl rfl rfl (by decide +kernel) ⟨Nat.le_of_ble_eq_true rfl, Nat.le_of_ble_eq_true rfl⟩) 5 5 (tf_xat_5 ad cI cZ _) rfl rfl hl.1 rfl (Nat.le_of_ble_eq_true rfl) dX5_castTo_84 (fun H locs hI => ?_)
        exact tf_iret hx hb hr hI h dX5_castTo_87 hlocks
      replace h := tf_neg c7 h
      refine lv_iload_n hx hb dX5_castTo_77 rfl (lv_at hl 1 rfl) ?_
      refine lv_goto (tgt := 87) hx hb dX5_castTo_78 (by decide) ?_
      exact tf_iret hx hb hr hI h dX5_castTo_87 hlocks
    replace h := tf_pos c5 h
    refine lv_aload_n hx hb dX5_castTo_58 rfl (lv_at hl 0 rfl) ?_
    refine lv_bipush (v := 8) hx hb dX5_castTo_59 (by decide +kernel) ?_
    obtain ⟨u10, q11, h⟩ := tf_gbind h
    refine tf_callV (rest := []) ⟨hx, hb, hml, hown, hts⟩ hK hN hI (kX_X5_none l D ad cI cZ _ _ _ q11) (cwV 1 hts gX5_castTo_X5_none rfl rfl rfl (by decide +kernel) ⟨Nat.le_of_ble_eq_true rfl, Nat.le_of_ble_eq_true rfl⟩) 5 5 (tf_xat_5 ad cI cZ _) rfl rfl hl.1 rfl (Nat.le_of_ble_eq_true rfl) dX5_castTo_61 (fun H locs hI => ?_)
    exact tf_iret hx hb hr hI h dX5_castTo_64 hlocks
  unfold fX5_castTo at h
  refine lv_aload_n hx hb dX5_castTo_0 rfl (lv_at hl 0 rfl) ?_
  refine tf_get (C := RX5) (T := TX5) (N := 6) hx hb hts hn_X5 hown hK hI 5 (tf_xat_5 ad cI cZ _) rfl 0 (by decide) hf_19 rfl rfl dX5_castTo_1 ?_
  refine lv_iload_n hx hb dX5_castTo_4 rfl (lv_at hl 1 rfl) ?_
  refine lv_iload_n hx hb dX5_castTo_5 rfl (lv_at hl 2 rfl) ?_
  obtain ⟨u1, q2, h⟩ := tf_gbind h
  refine tf_callV (rest := []) ⟨hx, hb, hml, hown, hts⟩ hK hN hI (kX_X4_goesFor l D ad cI cZ _ _ _ _ q2) (cwV 2 hts gX5_castTo_X4_goesFor rfl rfl rfl (by decide +kernel) ⟨Nat.le_of_ble_eq_true rfl, Nat.le_of_ble_eq_true rfl⟩) 1 4 (tf_xat_1 ad cI cZ _) rfl rfl hl.1 rfl (Nat.le_of_ble_eq_true rfl) dX5_castTo_6 (fun H locs hI => ?_)
  obtain ⟨v3, ev3, h⟩ := tf_glet h
  refine tf_top ev3 ?_
  refine lv_istore_n (lv' := [(3, .int v3), (0, .ref (ad 5)), (1, .int x1), (2, .int x2)]) hx hb dX5_castTo_9 rfl hl (by decide) rfl (fun ls hl => ?_)
  refine lv_iload_n hx hb dX5_castTo_10 rfl (lv_at hl 0 rfl) ?_
  refine lv_if_ne (tgt := 52) hx hb dX5_castTo_11 (by decide) (fun c4 => ?_) (fun c4 => ?_)
  · replace h := tf_neg c4 h
    exact j52  _ _ _ _ _ h hI (lv_sub hl [1, 3, 0] rfl)
  replace h := tf_pos c4 h
  refine lv_aload_n hx hb dX5_castTo_14 rfl (lv_at hl 1 rfl) ?_
  refine tf_get (C := RX5) (T := TX5) (N := 6) hx hb hts hn_X5 hown hK hI 5 (tf_xat_5 ad cI cZ _) rfl 0 (by decide) hf_19 rfl rfl dX5_castTo_15 ?_
  refine lv_iload_n hx hb dX5_castTo_18 rfl (lv_at hl 3 rfl) ?_
  refine lv_iload_n hx hb dX5_castTo_19 rfl (lv_at hl 2 rfl) ?_
  obtain ⟨u12, q13, h⟩ := tf_gbind h
  refine tf_callV (rest := []) ⟨hx, hb, hml, hown, hts⟩ hK hN hI (kX_X4_goesFor l D ad cI cZ _ _ _ _ q13) (cwV 2 hts gX5_castTo_X4_goesFor rfl rfl rfl (by decide +kernel) ⟨Nat.le_of_ble_eq_true rfl, Nat.le_of_ble_eq_true rfl⟩) 1 4 (tf_xat_1 ad cI cZ _) rfl rfl hl.1 rfl (Nat.le_of_ble_eq_true rfl) dX5_castTo_20 (fun H locs hI => ?_)
  obtain ⟨v14, ev14, h⟩ := tf_glet h
  refine tf_top ev14 ?_
  refine lv_istore_n (lv' := [(3, .int v14), (0, .ref (ad 5)), (1, .int x1), (2, .int x2)]) hx hb dX5_castTo_23 rfl hl (by decide) rfl (fun ls hl => ?_)
  refine lv_aload_n hx hb dX5_castTo_24 rfl (lv_at hl 1 rfl) ?_
  refine lv_iload_n hx hb dX5_castTo_25 rfl (lv_at hl 0 rfl) ?_
  refine lv_iconst (v := 1) hx hb dX5_castTo_26 (by decide +kernel) ?_
  refine lv_icmp_eq (tgt := 44) hx hb dX5_castTo_27 (by decide) (fun c15 => ?_) (fun c15 => ?_)
  · replace h := tf_pos c15 h
    refine lv_iconst (v := 1) hx hb dX5_castTo_44 (by decide +kernel) ?_
    refine lv_goto (tgt := 49) hx hb dX5_castTo_45 (by decide) ?_
    obtain ⟨s16, es16, h⟩ := tf_glet h
    refine tf_put (C := RX5) (T := TX5) (N := 6) (ty := .boolean) hx hb hts hn_X5 tyX5 tyX5_ok nmX5 hown hK hI 5 (tf_xat_5 ad cI cZ _) rfl 5 (by decide) hf_15 rfl rfl (by decide +kernel) rfl rfl (Nat.le_of_ble_eq_true rfl) (tf_xput_5_5 ad cI cZ _ _) es16 dX5_castTo_49 (fun H locs hI => ?_)
    exact j52  _ _ _ _ _ h hI (lv_sub hl [1, 3, 0] rfl)
  replace h := tf_neg c15 h
  refine lv_iload_n hx hb dX5_castTo_30 rfl (lv_at hl 2 rfl) ?_
  obtain ⟨u17, q18, h⟩ := tf_gbind h
  refine tf_callS (rest := [.ref (ad 5)]) ⟨hx, hb, hml, hown, hts⟩ hK hN hI (kX_X5_isNumber l D ad cI cZ _ _ _ q18) (va_cwS 1 hts gX5_castTo_X5_isNumber rfl rfl rfl (by decide +kernel) ⟨Nat.le_of_ble_eq_true rfl, Nat.le_of_ble_eq_true rfl⟩) rfl hl.1 rfl (Nat.le_of_ble_eq_true rfl) dX5_castTo_31 (fun H locs hI => ?_)
  refine lv_if_eq (tgt := 48) hx hb dX5_castTo_34 (by decide) (fun c19 => ?_) (fun c19 => ?_)
  · replace h := tf_pos c19 h
    refine lv_iconst (v := 0) hx hb dX5_castTo_48 (by decide +kernel) ?_
    obtain ⟨s20, es20, h⟩ := tf_glet h
    refine tf_put (C := RX5) (T := TX5) (N := 6) (ty := .boolean) hx hb hts hn_X5 tyX5 tyX5_ok nmX5 hown hK hI 5 (tf_xat_5 ad cI cZ _) rfl 5 (by decide) hf_15 rfl rfl (by decide +kernel) rfl rfl (Nat.le_of_ble_eq_true rfl) (tf_xput_5_5 ad cI cZ _ _) es20 dX5_castTo_49 (fun H locs hI => ?_)
    exact j52  _ _ _ _ _ h hI (lv_sub hl [1, 3, 0] rfl)
  replace h := tf_neg c19 h
  refine lv_iload_n hx hb dX5_castTo_37 rfl (lv_at hl 3 rfl) ?_
  obtain ⟨u21, q22, h⟩ := tf_gbind h
  refine tf_callS (rest := [.ref (ad 5)]) ⟨hx, hb, hml, hown, hts⟩ hK hN hI (kX_X5_isNumber l D ad cI cZ _ _ _ q22) (va_cwS 1 hts gX5_castTo_X5_isNumber rfl rfl rfl (by decide +kernel) ⟨Nat.le_of_ble_eq_true rfl, Nat.le_of_ble_eq_true rfl⟩) rfl hl.1 rfl (Nat.le_of_ble_eq_true rfl) dX5_castTo_38 (fun H locs hI => ?_)
  refine lv_if_eq (tgt := 48) hx hb dX5_castTo_41 (by decide) (fun c23 => ?_) (fun c23 => ?_)
  · replace h := tf_pos c23 h
    refine lv_iconst (v := 0) hx hb dX5_castTo_48 (by decide +kernel) ?_
    obtain ⟨s24, es24, h⟩ := tf_glet h
    refine tf_put (C := RX5) (T := TX5) (N := 6) (ty := .boolean) hx hb hts hn_X5 tyX5 tyX5_ok nmX5 hown hK hI 5 (tf_xat_5 ad cI cZ _) rfl 5 (by decide) hf_15 rfl rfl (by decide +kernel) rfl rfl (Nat.le_of_ble_eq_true rfl) (tf_xput_5_5 ad cI cZ _ _) es24 dX5_castTo_49 (fun H locs hI => ?_)
    exact j52  _ _ _ _ _ h hI (lv_sub hl [1, 3, 0] rfl)
  replace h := tf_neg c23 h
  refine lv_iconst (v := 1) hx hb dX5_castTo_44 (by decide +kernel) ?_
  refine lv_goto (tgt := 49) hx hb dX5_castTo_45 (by decide) ?_
  obtain ⟨s25, es25, h⟩ := tf_glet h
  refine tf_put (C := RX5) (T := TX5) (N := 6) (ty := .boolean) hx hb hts hn_X5 tyX5 tyX5_ok nmX5 hown hK hI 5 (tf_xat_5 ad cI cZ _) rfl 5 (by decide) hf_15 rfl rfl (by decide +kernel) rfl rfl (Nat.le_of_ble_eq_true rfl) (tf_xput_5_5 ad cI cZ _ _) es25 dX5_castTo_49 (fun H locs hI => ?_)
  exact j52  _ _ _ _ _ h hI (lv_sub hl [1, 3, 0] rfl)

set_option maxHeartbeats 4000000 in
set_option maxRecDepth 100000 in
theorem kX_X5_whatComes (l : Launch) (D : va_G) (ad : Nat → Nat) (cI cZ : ClassId) (σ : tf_S) (x1 : Int32) (z : Int32 × tf_S) (h : fX5_whatComes σ x1 = some z) : tf_C l D (tf_wx ad cI cZ) [(cI, .int), (cZ, .boolean)] tf_nest yX5_whatComes wsX5_whatComes ({ frames := 6, cells := 0, slots := 0, locals := 148 }) [.ref (ad 5), .int x1] σ z := by
  intro sz
  refine Met.ofW (cc := cX5_whatComes) (maxL := 6) (ret := (some .int)) (by decide) rfl ?_
  intro p e s m args below meth c s₁ B hml hv
  obtain ⟨rfl, hsz, hP, hK, hN, hD0⟩ := hv
  have hx := B.exec
  have hb := B.bytes
  have hr := B.returns
  have hts := atoms_spec (ws := wsX5_whatComes) B.pre
  have hown : s.vm.findClass RX5 = some m.cls := findClass_of_methodNamed B.named
  have hlocks := B.notSynchronized
  subst hsz
  have hI := tf_start (D := D) (tf_x_ad ad cI cZ) hP hD0
  have hl := lv_entry ([.ref (ad 5), .int x1]) (n := 6) (Nat.le_of_ble_eq_true rfl)
  rw [lg_entry_eq]
  generalize (lg_sl ([.ref (ad 5), .int x1]) ++ List.replicate (6 - (lg_sl ([.ref (ad 5), .int x1])).length) Slot.unset).toArray = ls at hl ⊢
  have hl : lv_has ls 6 [(0, .ref (ad 5)), (1, .int x1)] := hl
  have hn_X2 : ∀ w ∈ u_ws RX2 TX2 11, w ∈ wsX5_whatComes := by decide +kernel
  have hn_X3 : ∀ w ∈ u_ws RX3 TX3 7, w ∈ wsX5_whatComes := by decide +kernel
  have hn_X5 : ∀ w ∈ u_ws RX5 TX5 6, w ∈ wsX5_whatComes := by decide +kernel
  have hf_9 := hts (.fieldLink RX5 9 "TypeFlow$Worker" "fault" "I") (by decide +kernel)
  have hf_15 := hts (.fieldLink RX5 15 "TypeFlow$Worker" "risky" "Z") (by decide +kernel)
  have hf_19 := hts (.fieldLink RX5 19 "TypeFlow$Worker" "types" "LTypeFlow$Types;") (by decide +kernel)
  have hf_27 := hts (.fieldLink RX5 27 "TypeFlow$Worker" "operators" "LTypeFlow$Operators;") (by decide +kernel)
  have hf_36 := hts (.fieldLink RX5 36 "TypeFlow$Worker" "putting" "LTypeFlow$Putting;") (by decide +kernel)
  have hf_40 := hts (.fieldLink RX5 40 "TypeFlow$Operators" "f" "[I") (by decide +kernel)
  have hf_46 := hts (.fieldLink RX5 46 "TypeFlow$Operators" "kind" "[I") (by decide +kernel)
  have hf_49 := hts (.fieldLink RX5 49 "TypeFlow$Operators" "type" "[I") (by decide +kernel)
  have hf_52 := hts (.fieldLink RX5 52 "TypeFlow$Operators" "a" "[I") (by decide +kernel)
  have hf_59 := hts (.fieldLink RX5 59 "TypeFlow$Operators" "b" "[I") (by decide +kernel)
  have hf_70 := hts (.fieldLink RX5 70 "TypeFlow$Putting" "fault" "I") (by decide +kernel)
  have j113 : ∀ (σ : tf_S) (y2 y3 y5 : Int32) (H : Heap) (locs : List Loc) (ls : Array Slot), fX5_whatComes_113 x1 σ y2 y3 y5 = some z → tf_I D (tf_wx ad cI cZ) s.heap σ H locs → lv_has ls 6 [(0, .ref (ad 5)), (1, .int x1), (2, .int y2), (3, .int y3), (5, .int y5)] → W p l e (headSpec wsX5_whatComes ({ frames := 6, cells := 0, slots := 0, locals := 148 })).room s m ([.ref (ad 5), .int x1] : List Value).toArray below meth c H locs 0 0 (tf_Q below D (tf_wx ad cI cZ) z ([.ref (ad 5), .int x1] : List Value).toArray s) (F0 m 113 ls []) := by
    intro σ y2 y3 y5 H locs ls h hI hl
    unfold fX5_whatComes_113 at h
    refine lv_aload_n hx hb dX5_whatComes_113 rfl (lv_at hl 0 rfl) ?_
    refine tf_get (C := RX5) (T := TX5) (N := 6) hx hb hts hn_X5 hown hK hI 5 (tf_xat_5 ad cI cZ _) rfl 2 (by decide) hf_27 rfl rfl dX5_whatComes_114 ?_
    refine tf_get (C := RX2) (T := TX2) (N := 11) hx hb hts hn_X2 hown hK hI 4 (tf_xat_4 ad cI cZ _) rfl 1 (by decide) hf_46 rfl rfl dX5_whatComes_117 ?_
    refine lv_iload_n hx hb dX5_whatComes_120 rfl (lv_at hl 1 rfl) ?_
    obtain ⟨b18, h⟩ := tf_gin h
    refine va_iald hx hb hK hI.1 21 0 (tf_xat_21 ad cI cZ _) rfl b18 dX5_whatComes_121 ?_
    by_cases c19 : (σ 21 (x1).toNatClampNeg) = (1 : Int32)
    · replace h := tf_pos c19 h
      refine lv_tableIn (tgt := 160) (off := 38) hx hb dX5_whatComes_122 (by rw [c19]; decide +kernel) (by rw [c19]; decide +kernel) (by rw [c19]; decide +kernel) (by decide) ?_
      refine lv_aload_n hx hb dX5_whatComes_160 rfl (lv_at hl 0 rfl) ?_
      refine lv_aload_n hx hb dX5_whatComes_161 rfl (lv_at hl 0 rfl) ?_
      refine tf_get (C := RX5) (T := TX5) (N := 6) hx hb hts hn_X5 hown hK hI 5 (tf_xat_5 ad cI cZ _) rfl 3 (by decide) hf_36 rfl rfl dX5_whatComes_162 ?_
      refine lv_iload_n hx hb dX5_whatComes_165 rfl (lv_at hl 2 rfl) ?_
      refine lv_iload_n hx hb dX5_whatComes_166 rfl (lv_at hl 3 rfl) ?_
      refine lv_iload hx hb dX5_whatComes_167 (lv_at hl 4 rfl) ?_
      obtain ⟨u20, q21, h⟩ := tf_gbind h
      refine tf_callV (rest := [.ref (ad 5)]) ⟨hx, hb, hml, hown, hts⟩ hK hN hI (kX_X3_putTo l D ad cI cZ _ _ _ _ _ q21) (cwV 3 hts gX5_whatComes_X3_putTo rfl rfl rfl (by decide +kernel) ⟨Nat.le_of_ble_eq_true rfl, Nat.le_of_ble_eq_true rfl⟩) 6 3 (tf_xat_6 ad cI cZ _) rfl rfl hl.1 rfl (Nat.le_of_ble_eq_true rfl) dX5_whatComes_169 (fun H locs hI => ?_)
      refine lv_aload_n hx hb dX5_whatComes_172 rfl (lv_at hl 0 rfl) ?_
      refine tf_get (C := RX5) (T := TX5) (N := 6) hx hb hts hn_X5 hown hK hI 5 (tf_xat_5 ad cI cZ _) rfl 3 (by decide) hf_36 rfl rfl dX5_whatComes_173 ?_
      refine tf_get (C := RX3) (T := TX3) (N := 7) hx hb hts hn_X3 hown hK hI 6 (tf_xat_6 ad cI cZ _) rfl 3 (by decide) hf_70 rfl rfl dX5_whatComes_176 ?_
      obtain ⟨u22, q23, h⟩ := tf_gbind h
      refine tf_callV (rest := []) ⟨hx, hb, hml, hown, hts⟩ hK hN hI (kX_X5_orFault l D ad cI cZ _ _ _ _ q23) (cwV 2 hts gX5_whatComes_X5_orFault rfl rfl rfl (by decide +kernel) ⟨Nat.le_of_ble_eq_true rfl, Nat.le_of_ble_eq_true rfl⟩) 5 5 (tf_xat_5 ad cI cZ _) rfl rfl hl.1 rfl (Nat.le_of_ble_eq_true rfl) dX5_whatComes_179 (fun H locs hI => ?_)
      exact tf_iret hx hb hr hI h dX5_whatComes_182 hlocks
    replace h := tf_neg c19 h
    by_cases c24 : (σ 21 (x1).toNatClampNeg) = (2 : Int32)
    · replace h := tf_pos c24 h
      refine lv_tableIn (tgt := 183) (off := 61) hx hb dX5_whatComes_122 (by rw [c24]; decide +kernel) (by rw [c24]; decide +kernel) (by rw [c24]; decide +kernel) (by decide) ?_
      refine lv_aload_n hx hb dX5_whatComes_183 rfl (lv_at hl 0 rfl) ?_
      refine lv_iload_n hx hb dX5_whatComes_184 rfl (lv_at hl 3 rfl) ?_
      refine lv_aload_n hx hb dX5_whatComes_185 rfl (lv_at hl 0 rfl) ?_
      refine lv_aload_n hx hb dX5_whatComes_186 rfl (lv_at hl 0 rfl) ?_
      refine tf_get (C := RX5) (T := TX5) (N := 6) hx hb hts hn_X5 hown hK hI 5 (tf_xat_5 ad cI cZ _) rfl 3 (by decide) hf_36 rfl rfl dX5_whatComes_187 ?_
      refine lv_iload_n hx hb dX5_whatComes_190 rfl (lv_at hl 2 rfl) ?_
      refine lv_iload_n hx hb dX5_whatComes_191 rfl (lv_at hl 3 rfl) ?_
      refine lv_iconst (v := -1) hx hb dX5_whatComes_192 (by decide +kernel) ?_
      obtain ⟨u25, q26, h⟩ := tf_gbind h
      refine tf_callV (rest := [.ref (ad 5), .int y3, .ref (ad 5)]) ⟨hx, hb, hml, hown, hts⟩ hK hN hI (kX_X3_putTo l D ad cI cZ _ _ _ _ _ q26) (cwV 3 hts gX5_whatComes_X3_putTo rfl rfl rfl (by decide +kernel) ⟨Nat.le_of_ble_eq_true rfl, Nat.le_of_ble_eq_true rfl⟩) 6 3 (tf_xat_6 ad cI cZ _) rfl rfl hl.1 rfl (Nat.le_of_ble_eq_true rfl) dX5_whatComes_193 (fun H locs hI => ?_)
      refine lv_aload_n hx hb dX5_whatComes_196 rfl (lv_at hl 0 rfl) ?_
      refine tf_get (C := RX5) (T := TX5) (N := 6) hx hb hts hn_X5 hown hK hI 5 (tf_xat_5 ad cI cZ _) rfl 3 (by decide) hf_36 rfl rfl dX5_whatComes_197 ?_
      refine tf_get (C := RX3) (T := TX3) (N := 7) hx hb hts hn_X3 hown hK hI 6 (tf_xat_6 ad cI cZ _) rfl 3 (by decide) hf_70 rfl rfl dX5_whatComes_200 ?_
      obtain ⟨u27, q28, h⟩ := tf_gbind h
      refine tf_callV (rest := [.int y3, .ref (ad 5)]) ⟨hx, hb, hml, hown, hts⟩ hK hN hI (kX_X5_orFault l D ad cI cZ _ _ _ _ q28) (cwV 2 hts gX5_whatComes_X5_orFault rfl rfl rfl (by decide +kernel) ⟨Nat.le_of_ble_eq_true rfl, Nat.le_of_ble_eq_true rfl⟩) 5 5 (tf_xat_5 ad cI cZ _) rfl rfl hl.1 rfl (Nat.le_of_ble_eq_true rfl) dX5_whatComes_203 (fun H locs hI => ?_)
      obtain ⟨u29, q30, h⟩ := tf_gbind h
      refine tf_callV (rest := []) ⟨hx, hb, hml, hown, hts⟩ hK hN hI (kX_X5_filtered l D ad cI cZ _ _ _ _ q30) (cwV 2 hts gX5_whatComes_X5_filtered rfl rfl rfl (by decide +kernel) ⟨Nat.le_of_ble_eq_true rfl, Nat.le_of_ble_eq_true rfl⟩) 5 5 (tf_xat_5 ad cI cZ _) rfl rfl hl.1 rfl (Nat.le_of_ble_eq_true rfl) dX5_whatComes_206 (fun H locs hI => ?_)
      exact tf_iret hx hb hr hI h dX5_whatComes_209 hlocks
    replace h := tf_neg c24 h
    by_cases c31 : (σ 21 (x1).toNatClampNeg) = (3 : Int32)
    · replace h := tf_pos c31 h
      refine lv_tableIn (tgt := 210) (off := 88) hx hb dX5_whatComes_122 (by rw [c31]; decide +kernel) (by rw [c31]; decide +kernel) (by rw [c31]; decide +kernel) (by decide) ?_
      refine lv_aload_n hx hb dX5_whatComes_210 rfl (lv_at hl 0 rfl) ?_
      refine lv_iload_n hx hb dX5_whatComes_211 rfl (lv_at hl 3 rfl) ?_
      refine lv_iload_n hx hb dX5_whatComes_212 rfl (lv_at hl 2 rfl) ?_
      obtain ⟨u32, q33, h⟩ := tf_gbind h
      refine tf_callV (rest := []) ⟨hx, hb, hml, hown, hts⟩ hK hN hI (kX_X5_memberOf l D ad cI cZ _ _ _ _ q33) (cwV 2 hts gX5_whatComes_X5_memberOf rfl rfl rfl (by decide +kernel) ⟨Nat.le_of_ble_eq_true rfl, Nat.le_of_ble_eq_true rfl⟩) 5 5 (tf_xat_5 ad cI cZ _) rfl rfl hl.1 rfl (Nat.le_of_ble_eq_true rfl) dX5_whatComes_213 (fun H locs hI => ?_)
      exact tf_iret hx hb hr hI h dX5_whatComes_216 hlocks
    replace h := tf_neg c31 h
    by_cases c34 : (σ 21 (x1).toNatClampNeg) = (4 : Int32)
    · replace h := tf_pos c34 h
      refine lv_tableIn (tgt := 217) (off := 95) hx hb dX5_whatComes_122 (by rw [c34]; decide +kernel) (by rw [c34]; decide +kernel) (by rw [c34]; decide +kernel) (by decide) ?_
      refine lv_aload_n hx hb dX5_whatComes_217 rfl (lv_at hl 0 rfl) ?_
      refine lv_aload_n hx hb dX5_whatComes_218 rfl (lv_at hl 0 rfl) ?_
      refine tf_get (C := RX5) (T := TX5) (N := 6) hx hb hts hn_X5 hown hK hI 5 (tf_xat_5 ad cI cZ _) rfl 0 (by decide) hf_19 rfl rfl dX5_whatComes_219 ?_
      refine lv_iload_n hx hb dX5_whatComes_222 rfl (lv_at hl 3 rfl) ?_
      refine lv_iload hx hb dX5_whatComes_223 (lv_at hl 4 rfl) ?_
      obtain ⟨u35, q36, h⟩ := tf_gbind h
      refine tf_callV (rest := [.ref (ad 5)]) ⟨hx, hb, hml, hown, hts⟩ hK hN hI (kX_X4_commonOf l D ad cI cZ _ _ _ _ q36) (cwV 2 hts gX5_whatComes_X4_commonOf rfl rfl rfl (by decide +kernel) ⟨Nat.le_of_ble_eq_true rfl, Nat.le_of_ble_eq_true rfl⟩) 1 4 (tf_xat_1 ad cI cZ _) rfl rfl hl.1 rfl (Nat.le_of_ble_eq_true rfl) dX5_whatComes_225 (fun H locs hI => ?_)
      refine lv_bipush (v := 6) hx hb dX5_whatComes_228 (by decide +kernel) ?_
      obtain ⟨u37, q38, h⟩ := tf_gbind h
      refine tf_callV (rest := []) ⟨hx, hb, hml, hown, hts⟩ hK hN hI (kX_X5_orFault l D ad cI cZ _ _ _ _ q38) (cwV 2 hts gX5_whatComes_X5_orFault rfl rfl rfl (by decide +kernel) ⟨Nat.le_of_ble_eq_true rfl, Nat.le_of_ble_eq_true rfl⟩) 5 5 (tf_xat_5 ad cI cZ _) rfl rfl hl.1 rfl (Nat.le_of_ble_eq_true rfl) dX5_whatComes_230 (fun H locs hI => ?_)
      exact tf_iret hx hb hr hI h dX5_whatComes_233 hlocks
    replace h := tf_neg c34 h
    by_cases c39 : (σ 21 (x1).toNatClampNeg) = (5 : Int32)
    · replace h := tf_pos c39 h
      refine lv_tableIn (tgt := 160) (off := 38) hx hb dX5_whatComes_122 (by rw [c39]; decide +kernel) (by rw [c39]; decide +kernel) (by rw [c39]; decide +kernel) (by decide) ?_
      refine lv_aload_n hx hb dX5_whatComes_160 rfl (lv_at hl 0 rfl) ?_
      refine lv_aload_n hx hb dX5_whatComes_161 rfl (lv_at hl 0 rfl) ?_
      refine tf_get (C := RX5) (T := TX5) (N := 6) hx hb hts hn_X5 hown hK hI 5 (tf_xat_5 ad cI cZ _) rfl 3 (by decide) hf_36 rfl rfl dX5_whatComes_162 ?_
      refine lv_iload_n hx hb dX5_whatComes_165 rfl (lv_at hl 2 rfl) ?_
      refine lv_iload_n hx hb dX5_whatComes_166 rfl (lv_at hl 3 rfl) ?_
      refine lv_iload hx hb dX5_whatComes_167 (lv_at hl 4 rfl) ?_
      obtain ⟨u40, q41, h⟩ := tf_gbind h
      refine tf_callV (rest := [.ref (ad 5)]) ⟨hx, hb, hml, hown, hts⟩ hK hN hI (kX_X3_putTo l D ad cI cZ _ _ _ _ _ q41) (cwV 3 hts gX5_whatComes_X3_putTo rfl rfl rfl (by decide +kernel) ⟨Nat.le_of_ble_eq_true rfl, Nat.le_of_ble_eq_true rfl⟩) 6 3 (tf_xat_6 ad cI cZ _) rfl rfl hl.1 rfl (Nat.le_of_ble_eq_true rfl) dX5_whatComes_169 (fun H locs hI => ?_)
      refine lv_aload_n hx hb dX5_whatComes_172 rfl (lv_at hl 0 rfl) ?_
      refine tf_get (C := RX5) (T := TX5) (N := 6) hx hb hts hn_X5 hown hK hI 5 (tf_xat_5 ad cI cZ _) rfl 3 (by decide) hf_36 rfl rfl dX5_whatComes_173 ?_
      refine tf_get (C := RX3) (T := TX3) (N := 7) hx hb hts hn_X3 hown hK hI 6 (tf_xat_6 ad cI cZ _) rfl 3 (by decide) hf_70 rfl rfl dX5_whatComes_176 ?_
      obtain ⟨u42, q43, h⟩ := tf_gbind h
      refine tf_callV (rest := []) ⟨hx, hb, hml, hown, hts⟩ hK hN hI (kX_X5_orFault l D ad cI cZ _ _ _ _ q43) (cwV 2 hts gX5_whatComes_X5_orFault rfl rfl rfl (by decide +kernel) ⟨Nat.le_of_ble_eq_true rfl, Nat.le_of_ble_eq_true rfl⟩) 5 5 (tf_xat_5 ad cI cZ _) rfl rfl hl.1 rfl (Nat.le_of_ble_eq_true rfl) dX5_whatComes_179 (fun H locs hI => ?_)
      exact tf_iret hx hb hr hI h dX5_whatComes_182 hlocks
    replace h := tf_neg c39 h
    by_cases c44 : (σ 21 (x1).toNatClampNeg) = (6 : Int32)
    · replace h := tf_pos c44 h
      refine lv_tableIn (tgt := 234) (off := 112) hx hb dX5_whatComes_122 (by rw [c44]; decide +kernel) (by rw [c44]; decide +kernel) (by rw [c44]; decide +kernel) (by decide) ?_
      refine lv_aload_n hx hb dX5_whatComes_234 rfl (lv_at hl 0 rfl) ?_
      refine lv_iload_n hx hb dX5_whatComes_235 rfl (lv_at hl 1 rfl) ?_
      refine lv_iload_n hx hb dX5_whatComes_236 rfl (lv_at hl 3 rfl) ?_
      refine lv_iload hx hb dX5_whatComes_237 (lv_at hl 4 rfl) ?_
      obtain ⟨u45, q46, h⟩ := tf_gbind h
      refine tf_callV (rest := []) ⟨hx, hb, hml, hown, hts⟩ hK hN hI (kX_X5_joined l D ad cI cZ _ _ _ _ _ q46) (cwV 3 hts gX5_whatComes_X5_joined rfl rfl rfl (by decide +kernel) ⟨Nat.le_of_ble_eq_true rfl, Nat.le_of_ble_eq_true rfl⟩) 5 5 (tf_xat_5 ad cI cZ _) rfl rfl hl.1 rfl (Nat.le_of_ble_eq_true rfl) dX5_whatComes_239 (fun H locs hI => ?_)
      exact tf_iret hx hb hr hI h dX5_whatComes_242 hlocks
    replace h := tf_neg c44 h
    refine lv_tableOut (tgt := 243) hx hb dX5_whatComes_122 (by have ac19 := lv_neT c19 (a := 1) (by decide +kernel); have ac24 := lv_neT c24 (a := 2) (by decide +kernel); have ac31 := lv_neT c31 (a := 3) (by decide +kernel); have ac34 := lv_neT c34 (a := 4) (by decide +kernel); have ac39 := lv_neT c39 (a := 5) (by decide +kernel); have ac44 := lv_neT c44 (a := 6) (by decide +kernel); omega) (by decide) ?_
    refine lv_aload_n hx hb dX5_whatComes_243 rfl (lv_at hl 0 rfl) ?_
    refine lv_iload_n hx hb dX5_whatComes_244 rfl (lv_at hl 3 rfl) ?_
    refine lv_iload_n hx hb dX5_whatComes_245 rfl (lv_at hl 2 rfl) ?_
    obtain ⟨u47, q48, h⟩ := tf_gbind h
    refine tf_callV (rest := []) ⟨hx, hb, hml, hown, hts⟩ hK hN hI (kX_X5_castTo l D ad cI cZ _ _ _ _ q48) (cwV 2 hts gX5_whatComes_X5_castTo rfl rfl rfl (by decide +kernel) ⟨Nat.le_of_ble_eq_true rfl, Nat.le_of_ble_eq_true rfl⟩) 5 5 (tf_xat_5 ad cI cZ _) rfl rfl hl.1 rfl (Nat.le_of_ble_eq_true rfl) dX5_whatComes_246 (fun H locs hI => ?_)
    exact tf_iret hx hb hr hI h dX5_whatComes_249 hlocks
  have j88 : ∀ (σ : tf_S) (y2 y3 y4 t0 : Int32) (H : Heap) (locs : List Loc) (ls : Array Slot), fX5_whatComes_88 x1 σ y2 y3 y4 t0 = some z → tf_I D (tf_wx ad cI cZ) s.heap σ H locs → lv_has ls 6 [(0, .ref (ad 5)), (1, .int x1), (2, .int y2), (3, .int y3), (4, .int y4)] → W p l e (headSpec wsX5_whatComes ({ frames := 6, cells := 0, slots := 0, locals := 148 })).room s m ([.ref (ad 5), .int x1] : List Value).toArray below meth c H locs 0 0 (tf_Q below D (tf_wx ad cI cZ) z ([.ref (ad 5), .int x1] : List Value).toArray s) (F0 m 88 ls [.int t0]) := by
    intro σ y2 y3 y4 t0 H locs ls h hI hl
    unfold fX5_whatComes_88 at h
    refine lv_istore (lv' := [(5, .int t0), (0, .ref (ad 5)), (1, .int x1), (2, .int y2), (3, .int y3), (4, .int y4)]) hx hb dX5_whatComes_88 hl (by decide) rfl (fun ls hl => ?_)
    refine lv_iload_n hx hb dX5_whatComes_90 rfl (lv_at hl 4 rfl) ?_
    refine lv_iconst (v := -1) hx hb dX5_whatComes_91 (by decide +kernel) ?_
    refine lv_icmp_eq (tgt := 106) hx hb dX5_whatComes_92 (by decide) (fun c14 => ?_) (fun c14 => ?_)
    · replace h := tf_pos c14 h
      refine lv_aload_n hx hb dX5_whatComes_106 rfl (lv_at hl 1 rfl) ?_
      refine lv_bipush (v := 7) hx hb dX5_whatComes_107 (by decide +kernel) ?_
      obtain ⟨u15, q16, h⟩ := tf_gbind h
      refine tf_callV (rest := []) ⟨hx, hb, hml, hown, hts⟩ hK hN hI (kX_X5_none l D ad cI cZ _ _ _ q16) (cwV 1 hts gX5_whatComes_X5_none rfl rfl rfl (by decide +kernel) ⟨Nat.le_of_ble_eq_true rfl, Nat.le_of_ble_eq_true rfl⟩) 5 5 (tf_xat_5 ad cI cZ _) rfl rfl hl.1 rfl (Nat.le_of_ble_eq_true rfl) dX5_whatComes_109 (fun H locs hI => ?_)
      exact tf_iret hx hb hr hI h dX5_whatComes_112 hlocks
    replace h := tf_neg c14 h
    refine lv_iload hx hb dX5_whatComes_95 (lv_at hl 5 rfl) ?_
    refine lv_if_eq (tgt := 113) hx hb dX5_whatComes_97 (by decide) (fun c17 => ?_) (fun c17 => ?_)
    · replace h := tf_pos c17 h
      exact j113  _ _ _ _ _ _ _ h hI (lv_sub hl [1, 2, 3, 4, 0] rfl)
    replace h := tf_neg c17 h
    refine lv_iload hx hb dX5_whatComes_100 (lv_at hl 0 rfl) ?_
    refine lv_iconst (v := -1) hx hb dX5_whatComes_102 (by decide +kernel) ?_
    refine lv_icmp_ne (tgt := 113) hx hb dX5_whatComes_103 (by decide) (fun c49 => ?_) (fun c49 => ?_)
    · replace h := tf_neg c49 h
      exact j113  _ _ _ _ _ _ _ h hI (lv_sub hl [1, 2, 3, 4, 0] rfl)
    replace h := tf_pos c49 h
    refine lv_aload_n hx hb dX5_whatComes_106 rfl (lv_at hl 1 rfl) ?_
    refine lv_bipush (v := 7) hx hb dX5_whatComes_107 (by decide +kernel) ?_
    obtain ⟨u50, q51, h⟩ := tf_gbind h
    refine tf_callV (rest := []) ⟨hx, hb, hml, hown, hts⟩ hK hN hI (kX_X5_none l D ad cI cZ _ _ _ q51) (cwV 1 hts gX5_whatComes_X5_none rfl rfl rfl (by decide +kernel) ⟨Nat.le_of_ble_eq_true rfl, Nat.le_of_ble_eq_true rfl⟩) 5 5 (tf_xat_5 ad cI cZ _) rfl rfl hl.1 rfl (Nat.le_of_ble_eq_true rfl) dX5_whatComes_109 (fun H locs hI => ?_)
    exact tf_iret hx hb hr hI h dX5_whatComes_112 hlocks
  unfold fX5_whatComes at h
  refine lv_aload_n hx hb dX5_whatComes_0 rfl (lv_at hl 0 rfl) ?_
  refine lv_iconst (v := 0) hx hb dX5_whatComes_1 (by decide +kernel) ?_
  obtain ⟨s1, es1, h⟩ := tf_glet h
  refine tf_put (C := RX5) (T := TX5) (N := 6) (ty := .int) hx hb hts hn_X5 tyX5 tyX5_ok nmX5 hown hK hI 5 (tf_xat_5 ad cI cZ _) rfl 4 (by decide) hf_9 rfl rfl (by decide +kernel) rfl rfl (Nat.le_of_ble_eq_true rfl) (tf_xput_5_4 ad cI cZ _ _) es1 dX5_whatComes_2 (fun H locs hI => ?_)
  refine lv_aload_n hx hb dX5_whatComes_5 rfl (lv_at hl 0 rfl) ?_
  refine lv_iconst (v := 0) hx hb dX5_whatComes_6 (by decide +kernel) ?_
  obtain ⟨s2, es2, h⟩ := tf_glet h
  refine tf_put (C := RX5) (T := TX5) (N := 6) (ty := .boolean) hx hb hts hn_X5 tyX5 tyX5_ok nmX5 hown hK hI 5 (tf_xat_5 ad cI cZ _) rfl 5 (by decide) hf_15 rfl rfl (by decide +kernel) rfl rfl (Nat.le_of_ble_eq_true rfl) (tf_xput_5_5 ad cI cZ _ _) es2 dX5_whatComes_7 (fun H locs hI => ?_)
  refine lv_aload_n hx hb dX5_whatComes_10 rfl (lv_at hl 0 rfl) ?_
  refine tf_get (C := RX5) (T := TX5) (N := 6) hx hb hts hn_X5 hown hK hI 5 (tf_xat_5 ad cI cZ _) rfl 2 (by decide) hf_27 rfl rfl dX5_whatComes_11 ?_
  refine tf_get (C := RX2) (T := TX2) (N := 11) hx hb hts hn_X2 hown hK hI 4 (tf_xat_4 ad cI cZ _) rfl 4 (by decide) hf_40 rfl rfl dX5_whatComes_14 ?_
  refine lv_iload_n hx hb dX5_whatComes_17 rfl (lv_at hl 1 rfl) ?_
  obtain ⟨b3, h⟩ := tf_gin h
  refine va_iald hx hb hK hI.1 24 0 (tf_xat_24 ad cI cZ _) rfl b3 dX5_whatComes_18 ?_
  obtain ⟨v4, ev4, h⟩ := tf_glet h
  refine tf_top ev4 ?_
  refine lv_istore_n (lv' := [(2, .int v4), (0, .ref (ad 5)), (1, .int x1)]) hx hb dX5_whatComes_19 rfl hl (by decide) rfl (fun ls hl => ?_)
  refine lv_aload_n hx hb dX5_whatComes_20 rfl (lv_at hl 1 rfl) ?_
  refine tf_get (C := RX5) (T := TX5) (N := 6) hx hb hts hn_X5 hown hK hI 5 (tf_xat_5 ad cI cZ _) rfl 2 (by decide) hf_27 rfl rfl dX5_whatComes_21 ?_
  refine tf_get (C := RX2) (T := TX2) (N := 11) hx hb hts hn_X2 hown hK hI 4 (tf_xat_4 ad cI cZ _) rfl 1 (by decide) hf_46 rfl rfl dX5_whatComes_24 ?_
  refine lv_iload_n hx hb dX5_whatComes_27 rfl (lv_at hl 2 rfl) ?_
  obtain ⟨b5, h⟩ := tf_gin h
  refine va_iald hx hb hK hI.1 21 0 (tf_xat_21 ad cI cZ _) rfl b5 dX5_whatComes_28 ?_
  refine lv_if_ne (tgt := 34) hx hb dX5_whatComes_29 (by decide) (fun c6 => ?_) (fun c6 => ?_)
  · replace h := tf_neg c6 h
    refine lv_aload_n hx hb dX5_whatComes_34 rfl (lv_at hl 1 rfl) ?_
    refine tf_get (C := RX5) (T := TX5) (N := 6) hx hb hts hn_X5 hown hK hI 5 (tf_xat_5 ad cI cZ _) rfl 2 (by decide) hf_27 rfl rfl dX5_whatComes_35 ?_
    refine tf_get (C := RX2) (T := TX2) (N := 11) hx hb hts hn_X2 hown hK hI 4 (tf_xat_4 ad cI cZ _) rfl 7 (by decide) hf_49 rfl rfl dX5_whatComes_38 ?_
    refine lv_aload_n hx hb dX5_whatComes_41 rfl (lv_at hl 1 rfl) ?_
    refine tf_get (C := RX5) (T := TX5) (N := 6) hx hb hts hn_X5 hown hK hI 5 (tf_xat_5 ad cI cZ _) rfl 2 (by decide) hf_27 rfl rfl dX5_whatComes_42 ?_
    refine tf_get (C := RX2) (T := TX2) (N := 11) hx hb hts hn_X2 hown hK hI 4 (tf_xat_4 ad cI cZ _) rfl 2 (by decide) hf_52 rfl rfl dX5_whatComes_45 ?_
    refine lv_iload_n hx hb dX5_whatComes_48 rfl (lv_at hl 2 rfl) ?_
    obtain ⟨b7, h⟩ := tf_gin h
    refine va_iald hx hb hK hI.1 22 0 (tf_xat_22 ad cI cZ _) rfl b7 dX5_whatComes_49 ?_
    obtain ⟨b8, h⟩ := tf_gin h
    refine va_iald hx hb hK hI.1 27 0 (tf_xat_27 ad cI cZ _) rfl b8 dX5_whatComes_50 ?_
    obtain ⟨v9, ev9, h⟩ := tf_glet h
    refine tf_top ev9 ?_
    refine lv_istore_n (lv' := [(3, .int v9), (2, .int v4), (0, .ref (ad 5)), (1, .int x1)]) hx hb dX5_whatComes_51 rfl hl (by decide) rfl (fun ls hl => ?_)
    refine lv_aload_n hx hb dX5_whatComes_52 rfl (lv_at hl 2 rfl) ?_
    refine tf_get (C := RX5) (T := TX5) (N := 6) hx hb hts hn_X5 hown hK hI 5 (tf_xat_5 ad cI cZ _) rfl 2 (by decide) hf_27 rfl rfl dX5_whatComes_53 ?_
    refine lv_iload_n hx hb dX5_whatComes_56 rfl (lv_at hl 3 rfl) ?_
    obtain ⟨u10, q11, h⟩ := tf_gbind h
    refine tf_callV (rest := []) ⟨hx, hb, hml, hown, hts⟩ hK hN hI (kX_X2_hasTwoInputs l D ad cI cZ _ _ _ q11) (cwV 1 hts gX5_whatComes_X2_hasTwoInputs rfl rfl rfl (by decide +kernel) ⟨Nat.le_of_ble_eq_true rfl, Nat.le_of_ble_eq_true rfl⟩) 4 2 (tf_xat_4 ad cI cZ _) rfl rfl hl.1 rfl (Nat.le_of_ble_eq_true rfl) dX5_whatComes_57 (fun H locs hI => ?_)
    obtain ⟨v12, ev12, h⟩ := tf_glet h
    refine tf_top ev12 ?_
    refine lv_istore (lv' := [(4, .int v12), (3, .int v9), (2, .int v4), (0, .ref (ad 5)), (1, .int x1)]) hx hb dX5_whatComes_60 hl (by decide) rfl (fun ls hl => ?_)
    refine lv_iload hx hb dX5_whatComes_62 (lv_at hl 0 rfl) ?_
    refine lv_if_eq (tgt := 87) hx hb dX5_whatComes_64 (by decide) (fun c13 => ?_) (fun c13 => ?_)
    · replace h := tf_pos c13 h
      refine lv_iconst (v := -1) hx hb dX5_whatComes_87 (by decide +kernel) ?_
      exact j88  _ _ _ _ _ _ _ _ h hI (lv_sub hl [3, 4, 2, 1, 0] rfl)
    replace h := tf_neg c13 h
    refine lv_aload_n hx hb dX5_whatComes_67 rfl (lv_at hl 3 rfl) ?_
    refine tf_get (C := RX5) (T := TX5) (N := 6) hx hb hts hn_X5 hown hK hI 5 (tf_xat_5 ad cI cZ _) rfl 2 (by decide) hf_27 rfl rfl dX5_whatComes_68 ?_
    refine tf_get (C := RX2) (T := TX2) (N := 11) hx hb hts hn_X2 hown hK hI 4 (tf_xat_4 ad cI cZ _) rfl 7 (by decide) hf_49 rfl rfl dX5_whatComes_71 ?_
    refine lv_aload_n hx hb dX5_whatComes_74 rfl (lv_at hl 3 rfl) ?_
    refine tf_get (C := RX5) (T := TX5) (N := 6) hx hb hts hn_X5 hown hK hI 5 (tf_xat_5 ad cI cZ _) rfl 2 (by decide) hf_27 rfl rfl dX5_whatComes_75 ?_
    refine tf_get (C := RX2) (T := TX2) (N := 11) hx hb hts hn_X2 hown hK hI 4 (tf_xat_4 ad cI cZ _) rfl 3 (by decide) hf_59 rfl rfl dX5_whatComes_78 ?_
    refine lv_iload_n hx hb dX5_whatComes_81 rfl (lv_at hl 4 rfl) ?_
    obtain ⟨b52, h⟩ := tf_gin h
    refine va_iald hx hb hK hI.1 23 0 (tf_xat_23 ad cI cZ _) rfl b52 dX5_whatComes_82 ?_
    obtain ⟨b53, h⟩ := tf_gin h
    refine va_iald hx hb hK hI.1 27 0 (tf_xat_27 ad cI cZ _) rfl b53 dX5_whatComes_83 ?_
    refine lv_goto (tgt := 88) hx hb dX5_whatComes_84 (by decide) ?_
    exact j88  _ _ _ _ _ _ _ _ h hI (lv_sub hl [3, 4, 2, 1, 0] rfl)
  replace h := tf_pos c6 h
  refine lv_iload_n hx hb dX5_whatComes_32 rfl (lv_at hl 0 rfl) ?_
  exact tf_iret hx hb hr hI h dX5_whatComes_33 hlocks

set_option maxHeartbeats 4000000 in
set_option maxRecDepth 100000 in
theorem kX_X5_keep (l : Launch) (D : va_G) (ad : Nat → Nat) (cI cZ : ClassId) (σ : tf_S) (x1 x2 : Int32) (z : tf_S) (h : fX5_keep σ x1 x2 = some z) : tf_Cv l D (tf_wx ad cI cZ) [(cI, .int), (cZ, .boolean)] tf_nest yX5_keep wsX5_keep ({ frames := 1, cells := 0, slots := 0, locals := 24 }) [.ref (ad 5), .int x1, .int x2] σ z := by
  intro sz
  refine Met.ofW (cc := cX5_keep) (maxL := 4) (ret := none) (by decide) rfl ?_
  intro p e s m args below meth c s₁ B hml hv
  obtain ⟨rfl, hsz, hP, hK, hN, hD0⟩ := hv
  have hx := B.exec
  have hb := B.bytes
  have hr := B.returns
  have hts := atoms_spec (ws := wsX5_keep) B.pre
  have hown : s.vm.findClass RX5 = some m.cls := findClass_of_methodNamed B.named
  have hlocks := B.notSynchronized
  subst hsz
  have hI := tf_start (D := D) (tf_x_ad ad cI cZ) hP hD0
  have hl := lv_entry ([.ref (ad 5), .int x1, .int x2]) (n := 4) (Nat.le_of_ble_eq_true rfl)
  rw [lg_entry_eq]
  generalize (lg_sl ([.ref (ad 5), .int x1, .int x2]) ++ List.replicate (4 - (lg_sl ([.ref (ad 5), .int x1, .int x2])).length) Slot.unset).toArray = ls at hl ⊢
  have hl : lv_has ls 4 [(0, .ref (ad 5)), (1, .int x1), (2, .int x2)] := hl
  have hn_X2 : ∀ w ∈ u_ws RX2 TX2 11, w ∈ wsX5_keep := by decide +kernel
  have hn_X3 : ∀ w ∈ u_ws RX3 TX3 7, w ∈ wsX5_keep := by decide +kernel
  have hn_X5 : ∀ w ∈ u_ws RX5 TX5 6, w ∈ wsX5_keep := by decide +kernel
  have hf_9 := hts (.fieldLink RX5 9 "TypeFlow$Worker" "fault" "I") (by decide +kernel)
  have hf_15 := hts (.fieldLink RX5 15 "TypeFlow$Worker" "risky" "Z") (by decide +kernel)
  have hf_27 := hts (.fieldLink RX5 27 "TypeFlow$Worker" "operators" "LTypeFlow$Operators;") (by decide +kernel)
  have hf_36 := hts (.fieldLink RX5 36 "TypeFlow$Worker" "putting" "LTypeFlow$Putting;") (by decide +kernel)
  have hf_46 := hts (.fieldLink RX5 46 "TypeFlow$Operators" "kind" "[I") (by decide +kernel)
  have hf_96 := hts (.fieldLink RX5 96 "TypeFlow$Putting" "bound" "[I") (by decide +kernel)
  have j47 : ∀ (σ : tf_S) (H : Heap) (locs : List Loc) (ls : Array Slot), fX5_keep_47 x1 x2 σ = some z → tf_I D (tf_wx ad cI cZ) s.heap σ H locs → lv_has ls 4 [(0, .ref (ad 5)), (1, .int x1)] → W p l e (headSpec wsX5_keep ({ frames := 1, cells := 0, slots := 0, locals := 24 })).room s m ([.ref (ad 5), .int x1, .int x2] : List Value).toArray below meth c H locs 0 0 (tf_Qv below D (tf_wx ad cI cZ) z ([.ref (ad 5), .int x1, .int x2] : List Value).toArray s) (F0 m 47 ls []) := by
    intro σ H locs ls h hI hl
    unfold fX5_keep_47 at h
    refine lv_aload_n hx hb dX5_keep_47 rfl (lv_at hl 0 rfl) ?_
    refine tf_get (C := RX5) (T := TX5) (N := 6) hx hb hts hn_X5 hown hK hI 5 (tf_xat_5 ad cI cZ _) rfl 2 (by decide) hf_27 rfl rfl dX5_keep_48 ?_
    refine lv_iload_n hx hb dX5_keep_51 rfl (lv_at hl 1 rfl) ?_
    refine lv_aload_n hx hb dX5_keep_52 rfl (lv_at hl 0 rfl) ?_
    refine tf_get (C := RX5) (T := TX5) (N := 6) hx hb hts hn_X5 hown hK hI 5 (tf_xat_5 ad cI cZ _) rfl 3 (by decide) hf_36 rfl rfl dX5_keep_53 ?_
    refine tf_get (C := RX3) (T := TX3) (N := 7) hx hb hts hn_X3 hown hK hI 6 (tf_xat_6 ad cI cZ _) rfl 2 (by decide) hf_96 rfl rfl dX5_keep_56 ?_
    refine lv_iconst (v := 0) hx hb dX5_keep_59 (by decide +kernel) ?_
    obtain ⟨b9, h⟩ := tf_gin h
    refine va_iald hx hb hK hI.1 31 0 (tf_xat_31 ad cI cZ _) rfl b9 dX5_keep_60 ?_
    refine lv_aload_n hx hb dX5_keep_61 rfl (lv_at hl 0 rfl) ?_
    refine tf_get (C := RX5) (T := TX5) (N := 6) hx hb hts hn_X5 hown hK hI 5 (tf_xat_5 ad cI cZ _) rfl 3 (by decide) hf_36 rfl rfl dX5_keep_62 ?_
    refine tf_get (C := RX3) (T := TX3) (N := 7) hx hb hts hn_X3 hown hK hI 6 (tf_xat_6 ad cI cZ _) rfl 2 (by decide) hf_96 rfl rfl dX5_keep_65 ?_
    refine lv_iconst (v := 1) hx hb dX5_keep_68 (by decide +kernel) ?_
    obtain ⟨b10, h⟩ := tf_gin h
    refine va_iald hx hb hK hI.1 31 0 (tf_xat_31 ad cI cZ _) rfl b10 dX5_keep_69 ?_
    obtain ⟨u11, q12, h⟩ := tf_gbind h
    refine tf_callVv (rest := []) ⟨hx, hb, hml, hown, hts⟩ hK hN hI (kX_X2_bind l D ad cI cZ _ _ _ _ _ q12) (cwV 3 hts gX5_keep_X2_bind rfl rfl rfl (by decide +kernel) ⟨Nat.le_of_ble_eq_true rfl, Nat.le_of_ble_eq_true rfl⟩) 4 2 (tf_xat_4 ad cI cZ _) rfl rfl hl.1 rfl (Nat.le_of_ble_eq_true rfl) dX5_keep_70 (fun H locs hI => ?_)
    refine lv_goto (tgt := 86) hx hb dX5_keep_73 (by decide) ?_
    exact tf_vret hx hb hr hI h dX5_keep_86 hlocks
  unfold fX5_keep at h
  refine lv_aload_n hx hb dX5_keep_0 rfl (lv_at hl 0 rfl) ?_
  refine tf_get (C := RX5) (T := TX5) (N := 6) hx hb hts hn_X5 hown hK hI 5 (tf_xat_5 ad cI cZ _) rfl 2 (by decide) hf_27 rfl rfl dX5_keep_1 ?_
  refine lv_iload_n hx hb dX5_keep_4 rfl (lv_at hl 1 rfl) ?_
  refine lv_iload_n hx hb dX5_keep_5 rfl (lv_at hl 2 rfl) ?_
  refine lv_aload_n hx hb dX5_keep_6 rfl (lv_at hl 0 rfl) ?_
  refine tf_get (C := RX5) (T := TX5) (N := 6) hx hb hts hn_X5 hown hK hI 5 (tf_xat_5 ad cI cZ _) rfl 4 (by decide) hf_9 rfl rfl dX5_keep_7 ?_
  refine lv_aload_n hx hb dX5_keep_10 rfl (lv_at hl 0 rfl) ?_
  refine tf_get (C := RX5) (T := TX5) (N := 6) hx hb hts hn_X5 hown hK hI 5 (tf_xat_5 ad cI cZ _) rfl 5 (by decide) hf_15 rfl rfl dX5_keep_11 ?_
  obtain ⟨u1, q2, h⟩ := tf_gbind h
  refine tf_callVv (rest := []) ⟨hx, hb, hml, hown, hts⟩ hK hN hI (kX_X2_tell l D ad cI cZ _ _ _ _ _ _ q2) (cwV 4 hts gX5_keep_X2_tell rfl rfl rfl (by decide +kernel) ⟨Nat.le_of_ble_eq_true rfl, Nat.le_of_ble_eq_true rfl⟩) 4 2 (tf_xat_4 ad cI cZ _) rfl rfl hl.1 rfl (Nat.le_of_ble_eq_true rfl) dX5_keep_14 (fun H locs hI => ?_)
  refine lv_aload_n hx hb dX5_keep_17 rfl (lv_at hl 0 rfl) ?_
  refine tf_get (C := RX5) (T := TX5) (N := 6) hx hb hts hn_X5 hown hK hI 5 (tf_xat_5 ad cI cZ _) rfl 2 (by decide) hf_27 rfl rfl dX5_keep_18 ?_
  refine tf_get (C := RX2) (T := TX2) (N := 11) hx hb hts hn_X2 hown hK hI 4 (tf_xat_4 ad cI cZ _) rfl 1 (by decide) hf_46 rfl rfl dX5_keep_21 ?_
  refine lv_iload_n hx hb dX5_keep_24 rfl (lv_at hl 1 rfl) ?_
  obtain ⟨b3, h⟩ := tf_gin h
  refine va_iald hx hb hK hI.1 21 0 (tf_xat_21 ad cI cZ _) rfl b3 dX5_keep_25 ?_
  obtain ⟨v4, ev4, h⟩ := tf_glet h
  refine tf_top ev4 ?_
  refine lv_istore_n (lv' := [(3, .int v4), (0, .ref (ad 5)), (1, .int x1), (2, .int x2)]) hx hb dX5_keep_26 rfl hl (by decide) rfl (fun ls hl => ?_)
  refine lv_iload_n hx hb dX5_keep_27 rfl (lv_at hl 3 rfl) ?_
  refine lv_iconst (v := -1) hx hb dX5_keep_28 (by decide +kernel) ?_
  refine lv_icmp_eq (tgt := 76) hx hb dX5_keep_29 (by decide) (fun c5 => ?_) (fun c5 => ?_)
  · replace h := tf_pos c5 h
    refine lv_aload_n hx hb dX5_keep_76 rfl (lv_at hl 1 rfl) ?_
    refine tf_get (C := RX5) (T := TX5) (N := 6) hx hb hts hn_X5 hown hK hI 5 (tf_xat_5 ad cI cZ _) rfl 2 (by decide) hf_27 rfl rfl dX5_keep_77 ?_
    refine lv_iload_n hx hb dX5_keep_80 rfl (lv_at hl 2 rfl) ?_
    refine lv_iconst (v := -1) hx hb dX5_keep_81 (by decide +kernel) ?_
    refine lv_iconst (v := -1) hx hb dX5_keep_82 (by decide +kernel) ?_
    obtain ⟨u6, q7, h⟩ := tf_gbind h
    refine tf_callVv (rest := []) ⟨hx, hb, hml, hown, hts⟩ hK hN hI (kX_X2_bind l D ad cI cZ _ _ _ _ _ q7) (cwV 3 hts gX5_keep_X2_bind rfl rfl rfl (by decide +kernel) ⟨Nat.le_of_ble_eq_true rfl, Nat.le_of_ble_eq_true rfl⟩) 4 2 (tf_xat_4 ad cI cZ _) rfl rfl hl.1 rfl (Nat.le_of_ble_eq_true rfl) dX5_keep_83 (fun H locs hI => ?_)
    exact tf_vret hx hb hr hI h dX5_keep_86 hlocks
  replace h := tf_neg c5 h
  refine lv_iload_n hx hb dX5_keep_32 rfl (lv_at hl 0 rfl) ?_
  refine lv_iconst (v := 1) hx hb dX5_keep_33 (by decide +kernel) ?_
  refine lv_icmp_eq (tgt := 47) hx hb dX5_keep_34 (by decide) (fun c8 => ?_) (fun c8 => ?_)
  · replace h := tf_pos c8 h
    exact j47  _ _ _ _ h hI (lv_sub hl [1, 2] rfl)
  replace h := tf_neg c8 h
  refine lv_iload_n hx hb dX5_keep_37 rfl (lv_at hl 0 rfl) ?_
  refine lv_iconst (v := 2) hx hb dX5_keep_38 (by decide +kernel) ?_
  refine lv_icmp_eq (tgt := 47) hx hb dX5_keep_39 (by decide) (fun c13 => ?_) (fun c13 => ?_)
  · replace h := tf_pos c13 h
    exact j47  _ _ _ _ h hI (lv_sub hl [1, 2] rfl)
  replace h := tf_neg c13 h
  refine lv_iload_n hx hb dX5_keep_42 rfl (lv_at hl 0 rfl) ?_
  refine lv_iconst (v := 5) hx hb dX5_keep_43 (by decide +kernel) ?_
  refine lv_icmp_ne (tgt := 76) hx hb dX5_keep_44 (by decide) (fun c14 => ?_) (fun c14 => ?_)
  · replace h := tf_neg c14 h
    refine lv_aload_n hx hb dX5_keep_76 rfl (lv_at hl 1 rfl) ?_
    refine tf_get (C := RX5) (T := TX5) (N := 6) hx hb hts hn_X5 hown hK hI 5 (tf_xat_5 ad cI cZ _) rfl 2 (by decide) hf_27 rfl rfl dX5_keep_77 ?_
    refine lv_iload_n hx hb dX5_keep_80 rfl (lv_at hl 2 rfl) ?_
    refine lv_iconst (v := -1) hx hb dX5_keep_81 (by decide +kernel) ?_
    refine lv_iconst (v := -1) hx hb dX5_keep_82 (by decide +kernel) ?_
    obtain ⟨u15, q16, h⟩ := tf_gbind h
    refine tf_callVv (rest := []) ⟨hx, hb, hml, hown, hts⟩ hK hN hI (kX_X2_bind l D ad cI cZ _ _ _ _ _ q16) (cwV 3 hts gX5_keep_X2_bind rfl rfl rfl (by decide +kernel) ⟨Nat.le_of_ble_eq_true rfl, Nat.le_of_ble_eq_true rfl⟩) 4 2 (tf_xat_4 ad cI cZ _) rfl rfl hl.1 rfl (Nat.le_of_ble_eq_true rfl) dX5_keep_83 (fun H locs hI => ?_)
    exact tf_vret hx hb hr hI h dX5_keep_86 hlocks
  replace h := tf_pos c14 h
  exact j47  _ _ _ _ h hI (lv_sub hl [1, 2] rfl)

set_option maxHeartbeats 4000000 in
set_option maxRecDepth 100000 in
theorem kX_X6_classOf (l : Launch) (D : va_G) (ad : Nat → Nat) (cI cZ : ClassId) (σ : tf_S) (x1 x2 : Int32) (z : Int32 × tf_S) (h : fX6_classOf σ x1 x2 = some z) : tf_C l D (tf_wx ad cI cZ) [(cI, .int), (cZ, .boolean)] tf_nest yX6_classOf wsX6_classOf ({ frames := 1, cells := 0, slots := 0, locals := 22 }) [.ref (ad 0), .int x1, .int x2] σ z := by
  intro sz
  refine Met.ofW (cc := cX6_classOf) (maxL := 3) (ret := (some .int)) (by decide) rfl ?_
  intro p e s m args below meth c s₁ B hml hv
  obtain ⟨rfl, hsz, hP, hK, hN, hD0⟩ := hv
  have hx := B.exec
  have hb := B.bytes
  have hr := B.returns
  have hts := atoms_spec (ws := wsX6_classOf) B.pre
  have hown : s.vm.findClass RX6 = some m.cls := findClass_of_methodNamed B.named
  have hlocks := B.notSynchronized
  subst hsz
  have hI := tf_start (D := D) (tf_x_ad ad cI cZ) hP hD0
  have hl := lv_entry ([.ref (ad 0), .int x1, .int x2]) (n := 3) (Nat.le_of_ble_eq_true rfl)
  rw [lg_entry_eq]
  generalize (lg_sl ([.ref (ad 0), .int x1, .int x2]) ++ List.replicate (3 - (lg_sl ([.ref (ad 0), .int x1, .int x2])).length) Slot.unset).toArray = ls at hl ⊢
  have hl : lv_has ls 3 [(0, .ref (ad 0)), (1, .int x1), (2, .int x2)] := hl
  have hn_X6 : ∀ w ∈ u_ws RX6 TX6 5, w ∈ wsX6_classOf := by decide +kernel
  have hf_10 := hts (.fieldLink RX6 10 "TypeFlow" "types" "LTypeFlow$Types;") (by decide +kernel)
  unfold fX6_classOf at h
  refine lv_iload_n hx hb dX6_classOf_0 rfl (lv_at hl 1 rfl) ?_
  refine lv_if_lt (tgt := 9) hx hb dX6_classOf_1 (by decide) (fun c1 => ?_) (fun c1 => ?_)
  · replace h := tf_pos c1 h
    refine lv_bipush (v := -2) hx hb dX6_classOf_9 (by decide +kernel) ?_
    exact tf_iret hx hb hr hI h dX6_classOf_11 hlocks
  replace h := tf_neg c1 h
  refine lv_iload_n hx hb dX6_classOf_4 rfl (lv_at hl 1 rfl) ?_
  refine lv_iconst (v := 2) hx hb dX6_classOf_5 (by decide +kernel) ?_
  refine lv_icmp_le (tgt := 12) hx hb dX6_classOf_6 (by decide) (fun c2 => ?_) (fun c2 => ?_)
  · replace h := tf_pos c2 h
    refine lv_aload_n hx hb dX6_classOf_12 rfl (lv_at hl 0 rfl) ?_
    refine tf_get (C := RX6) (T := TX6) (N := 5) hx hb hts hn_X6 hown hK hI 0 (tf_xat_0 ad cI cZ _) rfl 0 (by decide) hf_10 rfl rfl dX6_classOf_13 ?_
    refine lv_iload_n hx hb dX6_classOf_16 rfl (lv_at hl 2 rfl) ?_
    obtain ⟨u3, q4, h⟩ := tf_gbind h
    refine tf_callV (rest := []) ⟨hx, hb, hml, hown, hts⟩ hK hN hI (kX_X4_isClassType l D ad cI cZ _ _ _ q4) (cwV 1 hts gX6_classOf_X4_isClassType rfl rfl rfl (by decide +kernel) ⟨Nat.le_of_ble_eq_true rfl, Nat.le_of_ble_eq_true rfl⟩) 1 4 (tf_xat_1 ad cI cZ _) rfl rfl hl.1 rfl (Nat.le_of_ble_eq_true rfl) dX6_classOf_17 (fun H locs hI => ?_)
    refine lv_if_eq (tgt := 35) hx hb dX6_classOf_20 (by decide) (fun c5 => ?_) (fun c5 => ?_)
    · replace h := tf_pos c5 h
      refine lv_bipush (v := -2) hx hb dX6_classOf_35 (by decide +kernel) ?_
      exact tf_iret hx hb hr hI h dX6_classOf_37 hlocks
    replace h := tf_neg c5 h
    refine lv_aload_n hx hb dX6_classOf_23 rfl (lv_at hl 0 rfl) ?_
    refine tf_get (C := RX6) (T := TX6) (N := 5) hx hb hts hn_X6 hown hK hI 0 (tf_xat_0 ad cI cZ _) rfl 0 (by decide) hf_10 rfl rfl dX6_classOf_24 ?_
    refine lv_iload_n hx hb dX6_classOf_27 rfl (lv_at hl 2 rfl) ?_
    refine lv_iload_n hx hb dX6_classOf_28 rfl (lv_at hl 1 rfl) ?_
    obtain ⟨u6, q7, h⟩ := tf_gbind h
    refine tf_callV (rest := []) ⟨hx, hb, hml, hown, hts⟩ hK hN hI (kX_X4_hasOnly l D ad cI cZ _ _ _ _ q7) (cwV 2 hts gX6_classOf_X4_hasOnly rfl rfl rfl (by decide +kernel) ⟨Nat.le_of_ble_eq_true rfl, Nat.le_of_ble_eq_true rfl⟩) 1 4 (tf_xat_1 ad cI cZ _) rfl rfl hl.1 rfl (Nat.le_of_ble_eq_true rfl) dX6_classOf_29 (fun H locs hI => ?_)
    refine lv_if_ne (tgt := 38) hx hb dX6_classOf_32 (by decide) (fun c8 => ?_) (fun c8 => ?_)
    · replace h := tf_neg c8 h
      refine lv_aload_n hx hb dX6_classOf_38 rfl (lv_at hl 0 rfl) ?_
      refine tf_get (C := RX6) (T := TX6) (N := 5) hx hb hts hn_X6 hown hK hI 0 (tf_xat_0 ad cI cZ _) rfl 0 (by decide) hf_10 rfl rfl dX6_classOf_39 ?_
      refine lv_iload_n hx hb dX6_classOf_42 rfl (lv_at hl 1 rfl) ?_
      refine lv_iload_n hx hb dX6_classOf_43 rfl (lv_at hl 2 rfl) ?_
      obtain ⟨u9, q10, h⟩ := tf_gbind h
      refine tf_callV (rest := []) ⟨hx, hb, hml, hown, hts⟩ hK hN hI (kX_X4_addClass l D ad cI cZ _ _ _ _ q10) (cwV 2 hts gX6_classOf_X4_addClass rfl rfl rfl (by decide +kernel) ⟨Nat.le_of_ble_eq_true rfl, Nat.le_of_ble_eq_true rfl⟩) 1 4 (tf_xat_1 ad cI cZ _) rfl rfl hl.1 rfl (Nat.le_of_ble_eq_true rfl) dX6_classOf_44 (fun H locs hI => ?_)
      exact tf_iret hx hb hr hI h dX6_classOf_47 hlocks
    replace h := tf_pos c8 h
    refine lv_bipush (v := -2) hx hb dX6_classOf_35 (by decide +kernel) ?_
    exact tf_iret hx hb hr hI h dX6_classOf_37 hlocks
  replace h := tf_neg c2 h
  refine lv_bipush (v := -2) hx hb dX6_classOf_9 (by decide +kernel) ?_
  exact tf_iret hx hb hr hI h dX6_classOf_11 hlocks

set_option maxHeartbeats 4000000 in
set_option maxRecDepth 100000 in
theorem kX_X6_type (l : Launch) (D : va_G) (ad : Nat → Nat) (cI cZ : ClassId) (σ : tf_S) (x1 x2 x3 : Int32) (z : Int32 × tf_S) (h : fX6_type σ x1 x2 x3 = some z) : tf_C l D (tf_wx ad cI cZ) [(cI, .int), (cZ, .boolean)] tf_nest yX6_type wsX6_type ({ frames := 1, cells := 0, slots := 0, locals := 24 }) [.ref (ad 0), .int x1, .int x2, .int x3] σ z := by
  intro sz
  refine Met.ofW (cc := cX6_type) (maxL := 5) (ret := (some .int)) (by decide) rfl ?_
  intro p e s m args below meth c s₁ B hml hv
  obtain ⟨rfl, hsz, hP, hK, hN, hD0⟩ := hv
  have hx := B.exec
  have hb := B.bytes
  have hr := B.returns
  have hts := atoms_spec (ws := wsX6_type) B.pre
  have hown : s.vm.findClass RX6 = some m.cls := findClass_of_methodNamed B.named
  have hlocks := B.notSynchronized
  subst hsz
  have hI := tf_start (D := D) (tf_x_ad ad cI cZ) hP hD0
  have hl := lv_entry ([.ref (ad 0), .int x1, .int x2, .int x3]) (n := 5) (Nat.le_of_ble_eq_true rfl)
  rw [lg_entry_eq]
  generalize (lg_sl ([.ref (ad 0), .int x1, .int x2, .int x3]) ++ List.replicate (5 - (lg_sl ([.ref (ad 0), .int x1, .int x2, .int x3])).length) Slot.unset).toArray = ls at hl ⊢
  have hl : lv_has ls 5 [(0, .ref (ad 0)), (1, .int x1), (2, .int x2), (3, .int x3)] := hl
  have hn_X4 : ∀ w ∈ u_ws RX4 TX4 10, w ∈ wsX6_type := by decide +kernel
  have hn_X6 : ∀ w ∈ u_ws RX6 TX6 5, w ∈ wsX6_type := by decide +kernel
  have hf_10 := hts (.fieldLink RX6 10 "TypeFlow" "types" "LTypeFlow$Types;") (by decide +kernel)
  have hf_61 := hts (.fieldLink RX6 61 "TypeFlow$Types" "variables" "[I") (by decide +kernel)
  have j61 : ∀ (σ : tf_S) (y4 : Int32) (H : Heap) (locs : List Loc) (ls : Array Slot), fX6_type_61 x1 x2 x3 σ y4 = some z → tf_I D (tf_wx ad cI cZ) s.heap σ H locs → lv_has ls 5 [(0, .ref (ad 0)), (1, .int x1), (2, .int x2), (3, .int x3), (4, .int y4)] → W p l e (headSpec wsX6_type ({ frames := 1, cells := 0, slots := 0, locals := 24 })).room s m ([.ref (ad 0), .int x1, .int x2, .int x3] : List Value).toArray below meth c H locs 0 0 (tf_Q below D (tf_wx ad cI cZ) z ([.ref (ad 0), .int x1, .int x2, .int x3] : List Value).toArray s) (F0 m 61 ls []) := by
    intro σ y4 H locs ls h hI hl
    unfold fX6_type_61 at h
    refine lv_aload_n hx hb dX6_type_61 rfl (lv_at hl 0 rfl) ?_
    refine tf_get (C := RX6) (T := TX6) (N := 5) hx hb hts hn_X6 hown hK hI 0 (tf_xat_0 ad cI cZ _) rfl 0 (by decide) hf_10 rfl rfl dX6_type_62 ?_
    refine lv_iload_n hx hb dX6_type_65 rfl (lv_at hl 1 rfl) ?_
    refine lv_iload hx hb dX6_type_66 (lv_at hl 4 rfl) ?_
    refine lv_if_le (tgt := 75) hx hb dX6_type_68 (by decide) (fun c8 => ?_) (fun c8 => ?_)
    · replace h := tf_pos c8 h
      refine lv_iconst (v := -1) hx hb dX6_type_75 (by decide +kernel) ?_
      refine lv_iload hx hb dX6_type_76 (lv_at hl 4 rfl) ?_
      refine lv_iconst (v := 1) hx hb dX6_type_78 (by decide +kernel) ?_
      refine lv_icmp_le (tgt := 86) hx hb dX6_type_79 (by decide) (fun c9 => ?_) (fun c9 => ?_)
      · replace h := tf_pos c9 h
        refine lv_iconst (v := -1) hx hb dX6_type_86 (by decide +kernel) ?_
        obtain ⟨u10, q11, h⟩ := tf_gbind h
        refine tf_callV (rest := []) ⟨hx, hb, hml, hown, hts⟩ hK hN hI (kX_X4_make l D ad cI cZ _ _ _ _ _ q11) (cwV 3 hts gX6_type_X4_make rfl rfl rfl (by decide +kernel) ⟨Nat.le_of_ble_eq_true rfl, Nat.le_of_ble_eq_true rfl⟩) 1 4 (tf_xat_1 ad cI cZ _) rfl rfl hl.1 rfl (Nat.le_of_ble_eq_true rfl) dX6_type_87 (fun H locs hI => ?_)
        exact tf_iret hx hb hr hI h dX6_type_90 hlocks
      replace h := tf_neg c9 h
      refine lv_iload_n hx hb dX6_type_82 rfl (lv_at hl 3 rfl) ?_
      refine lv_goto (tgt := 87) hx hb dX6_type_83 (by decide) ?_
      obtain ⟨u12, q13, h⟩ := tf_gbind h
      refine tf_callV (rest := []) ⟨hx, hb, hml, hown, hts⟩ hK hN hI (kX_X4_make l D ad cI cZ _ _ _ _ _ q13) (cwV 3 hts gX6_type_X4_make rfl rfl rfl (by decide +kernel) ⟨Nat.le_of_ble_eq_true rfl, Nat.le_of_ble_eq_true rfl⟩) 1 4 (tf_xat_1 ad cI cZ _) rfl rfl hl.1 rfl (Nat.le_of_ble_eq_true rfl) dX6_type_87 (fun H locs hI => ?_)
      exact tf_iret hx hb hr hI h dX6_type_90 hlocks
    replace h := tf_neg c8 h
    refine lv_iload_n hx hb dX6_type_71 rfl (lv_at hl 2 rfl) ?_
    refine lv_goto (tgt := 76) hx hb dX6_type_72 (by decide) ?_
    refine lv_iload hx hb dX6_type_76 (lv_at hl 4 rfl) ?_
    refine lv_iconst (v := 1) hx hb dX6_type_78 (by decide +kernel) ?_
    refine lv_icmp_le (tgt := 86) hx hb dX6_type_79 (by decide) (fun c14 => ?_) (fun c14 => ?_)
    · replace h := tf_pos c14 h
      refine lv_iconst (v := -1) hx hb dX6_type_86 (by decide +kernel) ?_
      obtain ⟨u15, q16, h⟩ := tf_gbind h
      refine tf_callV (rest := []) ⟨hx, hb, hml, hown, hts⟩ hK hN hI (kX_X4_make l D ad cI cZ _ _ _ _ _ q16) (cwV 3 hts gX6_type_X4_make rfl rfl rfl (by decide +kernel) ⟨Nat.le_of_ble_eq_true rfl, Nat.le_of_ble_eq_true rfl⟩) 1 4 (tf_xat_1 ad cI cZ _) rfl rfl hl.1 rfl (Nat.le_of_ble_eq_true rfl) dX6_type_87 (fun H locs hI => ?_)
      exact tf_iret hx hb hr hI h dX6_type_90 hlocks
    replace h := tf_neg c14 h
    refine lv_iload_n hx hb dX6_type_82 rfl (lv_at hl 3 rfl) ?_
    refine lv_goto (tgt := 87) hx hb dX6_type_83 (by decide) ?_
    obtain ⟨u17, q18, h⟩ := tf_gbind h
    refine tf_callV (rest := []) ⟨hx, hb, hml, hown, hts⟩ hK hN hI (kX_X4_make l D ad cI cZ _ _ _ _ _ q18) (cwV 3 hts gX6_type_X4_make rfl rfl rfl (by decide +kernel) ⟨Nat.le_of_ble_eq_true rfl, Nat.le_of_ble_eq_true rfl⟩) 1 4 (tf_xat_1 ad cI cZ _) rfl rfl hl.1 rfl (Nat.le_of_ble_eq_true rfl) dX6_type_87 (fun H locs hI => ?_)
    exact tf_iret hx hb hr hI h dX6_type_90 hlocks
  unfold fX6_type at h
  refine lv_aload_n hx hb dX6_type_0 rfl (lv_at hl 0 rfl) ?_
  refine tf_get (C := RX6) (T := TX6) (N := 5) hx hb hts hn_X6 hown hK hI 0 (tf_xat_0 ad cI cZ _) rfl 0 (by decide) hf_10 rfl rfl dX6_type_1 ?_
  refine lv_iload_n hx hb dX6_type_4 rfl (lv_at hl 1 rfl) ?_
  obtain ⟨u1, q2, h⟩ := tf_gbind h
  refine tf_callV (rest := []) ⟨hx, hb, hml, hown, hts⟩ hK hN hI (kX_X4_isClass l D ad cI cZ _ _ _ q2) (cwV 1 hts gX6_type_X4_isClass rfl rfl rfl (by decide +kernel) ⟨Nat.le_of_ble_eq_true rfl, Nat.le_of_ble_eq_true rfl⟩) 1 4 (tf_xat_1 ad cI cZ _) rfl rfl hl.1 rfl (Nat.le_of_ble_eq_true rfl) dX6_type_5 (fun H locs hI => ?_)
  refine lv_if_ne (tgt := 14) hx hb dX6_type_8 (by decide) (fun c3 => ?_) (fun c3 => ?_)
  · replace h := tf_neg c3 h
    refine lv_aload_n hx hb dX6_type_14 rfl (lv_at hl 0 rfl) ?_
    refine tf_get (C := RX6) (T := TX6) (N := 5) hx hb hts hn_X6 hown hK hI 0 (tf_xat_0 ad cI cZ _) rfl 0 (by decide) hf_10 rfl rfl dX6_type_15 ?_
    refine tf_get (C := RX4) (T := TX4) (N := 10) hx hb hts hn_X4 hown hK hI 1 (tf_xat_1 ad cI cZ _) rfl 1 (by decide) hf_61 rfl rfl dX6_type_18 ?_
    refine lv_iload_n hx hb dX6_type_21 rfl (lv_at hl 1 rfl) ?_
    obtain ⟨b4, h⟩ := tf_gin h
    refine va_iald hx hb hK hI.1 7 0 (tf_xat_7 ad cI cZ _) rfl b4 dX6_type_22 ?_
    obtain ⟨v5, ev5, h⟩ := tf_glet h
    refine tf_top ev5 ?_
    refine lv_istore (lv' := [(4, .int v5), (0, .ref (ad 0)), (1, .int x1), (2, .int x2), (3, .int x3)]) hx hb dX6_type_23 hl (by decide) rfl (fun ls hl => ?_)
    refine lv_iload hx hb dX6_type_25 (lv_at hl 0 rfl) ?_
    refine lv_if_le (tgt := 41) hx hb dX6_type_27 (by decide) (fun c6 => ?_) (fun c6 => ?_)
    · replace h := tf_pos c6 h
      refine lv_iload hx hb dX6_type_41 (lv_at hl 0 rfl) ?_
      refine lv_iconst (v := 1) hx hb dX6_type_43 (by decide +kernel) ?_
      refine lv_icmp_le (tgt := 61) hx hb dX6_type_44 (by decide) (fun c7 => ?_) (fun c7 => ?_)
      · replace h := tf_pos c7 h
        exact j61  _ _ _ _ _ h hI (lv_sub hl [1, 2, 3, 4, 0] rfl)
      replace h := tf_neg c7 h
      refine lv_aload_n hx hb dX6_type_47 rfl (lv_at hl 1 rfl) ?_
      refine tf_get (C := RX6) (T := TX6) (N := 5) hx hb hts hn_X6 hown hK hI 0 (tf_xat_0 ad cI cZ _) rfl 0 (by decide) hf_10 rfl rfl dX6_type_48 ?_
      refine lv_iload_n hx hb dX6_type_51 rfl (lv_at hl 4 rfl) ?_
      obtain ⟨u19, q20, h⟩ := tf_gbind h
      refine tf_callV (rest := []) ⟨hx, hb, hml, hown, hts⟩ hK hN hI (kX_X4_isArgument l D ad cI cZ _ _ _ q20) (cwV 1 hts gX6_type_X4_isArgument rfl rfl rfl (by decide +kernel) ⟨Nat.le_of_ble_eq_true rfl, Nat.le_of_ble_eq_true rfl⟩) 1 4 (tf_xat_1 ad cI cZ _) rfl rfl hl.1 rfl (Nat.le_of_ble_eq_true rfl) dX6_type_52 (fun H locs hI => ?_)
      refine lv_if_ne (tgt := 61) hx hb dX6_type_55 (by decide) (fun c21 => ?_) (fun c21 => ?_)
      · replace h := tf_neg c21 h
        exact j61  _ _ _ _ _ h hI (lv_sub hl [1, 2, 3, 4, 0] rfl)
      replace h := tf_pos c21 h
      refine lv_bipush (v := -2) hx hb dX6_type_58 (by decide +kernel) ?_
      exact tf_iret hx hb hr hI h dX6_type_60 hlocks
    replace h := tf_neg c6 h
    refine lv_aload_n hx hb dX6_type_30 rfl (lv_at hl 1 rfl) ?_
    refine tf_get (C := RX6) (T := TX6) (N := 5) hx hb hts hn_X6 hown hK hI 0 (tf_xat_0 ad cI cZ _) rfl 0 (by decide) hf_10 rfl rfl dX6_type_31 ?_
    refine lv_iload_n hx hb dX6_type_34 rfl (lv_at hl 3 rfl) ?_
    obtain ⟨u22, q23, h⟩ := tf_gbind h
    refine tf_callV (rest := []) ⟨hx, hb, hml, hown, hts⟩ hK hN hI (kX_X4_isArgument l D ad cI cZ _ _ _ q23) (cwV 1 hts gX6_type_X4_isArgument rfl rfl rfl (by decide +kernel) ⟨Nat.le_of_ble_eq_true rfl, Nat.le_of_ble_eq_true rfl⟩) 1 4 (tf_xat_1 ad cI cZ _) rfl rfl hl.1 rfl (Nat.le_of_ble_eq_true rfl) dX6_type_35 (fun H locs hI => ?_)
    refine lv_if_eq (tgt := 58) hx hb dX6_type_38 (by decide) (fun c24 => ?_) (fun c24 => ?_)
    · replace h := tf_pos c24 h
      refine lv_bipush (v := -2) hx hb dX6_type_58 (by decide +kernel) ?_
      exact tf_iret hx hb hr hI h dX6_type_60 hlocks
    replace h := tf_neg c24 h
    refine lv_iload hx hb dX6_type_41 (lv_at hl 0 rfl) ?_
    refine lv_iconst (v := 1) hx hb dX6_type_43 (by decide +kernel) ?_
    refine lv_icmp_le (tgt := 61) hx hb dX6_type_44 (by decide) (fun c25 => ?_) (fun c25 => ?_)
    · replace h := tf_pos c25 h
      exact j61  _ _ _ _ _ h hI (lv_sub hl [1, 2, 3, 4, 0] rfl)
    replace h := tf_neg c25 h
    refine lv_aload_n hx hb dX6_type_47 rfl (lv_at hl 1 rfl) ?_
    refine tf_get (C := RX6) (T := TX6) (N := 5) hx hb hts hn_X6 hown hK hI 0 (tf_xat_0 ad cI cZ _) rfl 0 (by decide) hf_10 rfl rfl dX6_type_48 ?_
    refine lv_iload_n hx hb dX6_type_51 rfl (lv_at hl 4 rfl) ?_
    obtain ⟨u26, q27, h⟩ := tf_gbind h
    refine tf_callV (rest := []) ⟨hx, hb, hml, hown, hts⟩ hK hN hI (kX_X4_isArgument l D ad cI cZ _ _ _ q27) (cwV 1 hts gX6_type_X4_isArgument rfl rfl rfl (by decide +kernel) ⟨Nat.le_of_ble_eq_true rfl, Nat.le_of_ble_eq_true rfl⟩) 1 4 (tf_xat_1 ad cI cZ _) rfl rfl hl.1 rfl (Nat.le_of_ble_eq_true rfl) dX6_type_52 (fun H locs hI => ?_)
    refine lv_if_ne (tgt := 61) hx hb dX6_type_55 (by decide) (fun c28 => ?_) (fun c28 => ?_)
    · replace h := tf_neg c28 h
      exact j61  _ _ _ _ _ h hI (lv_sub hl [1, 2, 3, 4, 0] rfl)
    replace h := tf_pos c28 h
    refine lv_bipush (v := -2) hx hb dX6_type_58 (by decide +kernel) ?_
    exact tf_iret hx hb hr hI h dX6_type_60 hlocks
  replace h := tf_pos c3 h
  refine lv_bipush (v := -2) hx hb dX6_type_11 (by decide +kernel) ?_
  exact tf_iret hx hb hr hI h dX6_type_13 hlocks

set_option maxHeartbeats 4000000 in
set_option maxRecDepth 100000 in
theorem kX_X6_member (l : Launch) (D : va_G) (ad : Nat → Nat) (cI cZ : ClassId) (σ : tf_S) (x1 x2 : Int32) (z : Int32 × tf_S) (h : fX6_member σ x1 x2 = some z) : tf_C l D (tf_wx ad cI cZ) [(cI, .int), (cZ, .boolean)] tf_nest yX6_member wsX6_member ({ frames := 1, cells := 0, slots := 0, locals := 22 }) [.ref (ad 0), .int x1, .int x2] σ z := by
  intro sz
  refine Met.ofW (cc := cX6_member) (maxL := 3) (ret := (some .int)) (by decide) rfl ?_
  intro p e s m args below meth c s₁ B hml hv
  obtain ⟨rfl, hsz, hP, hK, hN, hD0⟩ := hv
  have hx := B.exec
  have hb := B.bytes
  have hr := B.returns
  have hts := atoms_spec (ws := wsX6_member) B.pre
  have hown : s.vm.findClass RX6 = some m.cls := findClass_of_methodNamed B.named
  have hlocks := B.notSynchronized
  subst hsz
  have hI := tf_start (D := D) (tf_x_ad ad cI cZ) hP hD0
  have hl := lv_entry ([.ref (ad 0), .int x1, .int x2]) (n := 3) (Nat.le_of_ble_eq_true rfl)
  rw [lg_entry_eq]
  generalize (lg_sl ([.ref (ad 0), .int x1, .int x2]) ++ List.replicate (3 - (lg_sl ([.ref (ad 0), .int x1, .int x2])).length) Slot.unset).toArray = ls at hl ⊢
  have hl : lv_has ls 3 [(0, .ref (ad 0)), (1, .int x1), (2, .int x2)] := hl
  have hn_X4 : ∀ w ∈ u_ws RX4 TX4 10, w ∈ wsX6_member := by decide +kernel
  have hn_X6 : ∀ w ∈ u_ws RX6 TX6 5, w ∈ wsX6_member := by decide +kernel
  have hf_10 := hts (.fieldLink RX6 10 "TypeFlow" "types" "LTypeFlow$Types;") (by decide +kernel)
  have hf_19 := hts (.fieldLink RX6 19 "TypeFlow" "members" "LTypeFlow$Members;") (by decide +kernel)
  have hf_61 := hts (.fieldLink RX6 61 "TypeFlow$Types" "variables" "[I") (by decide +kernel)
  unfold fX6_member at h
  refine lv_aload_n hx hb dX6_member_0 rfl (lv_at hl 0 rfl) ?_
  refine tf_get (C := RX6) (T := TX6) (N := 5) hx hb hts hn_X6 hown hK hI 0 (tf_xat_0 ad cI cZ _) rfl 0 (by decide) hf_10 rfl rfl dX6_member_1 ?_
  refine lv_iload_n hx hb dX6_member_4 rfl (lv_at hl 1 rfl) ?_
  obtain ⟨u1, q2, h⟩ := tf_gbind h
  refine tf_callV (rest := []) ⟨hx, hb, hml, hown, hts⟩ hK hN hI (kX_X4_isClass l D ad cI cZ _ _ _ q2) (cwV 1 hts gX6_member_X4_isClass rfl rfl rfl (by decide +kernel) ⟨Nat.le_of_ble_eq_true rfl, Nat.le_of_ble_eq_true rfl⟩) 1 4 (tf_xat_1 ad cI cZ _) rfl rfl hl.1 rfl (Nat.le_of_ble_eq_true rfl) dX6_member_5 (fun H locs hI => ?_)
  refine lv_if_eq (tgt := 22) hx hb dX6_member_8 (by decide) (fun c3 => ?_) (fun c3 => ?_)
  · replace h := tf_pos c3 h
    refine lv_bipush (v := -2) hx hb dX6_member_22 (by decide +kernel) ?_
    exact tf_iret hx hb hr hI h dX6_member_24 hlocks
  replace h := tf_neg c3 h
  refine lv_aload_n hx hb dX6_member_11 rfl (lv_at hl 0 rfl) ?_
  refine tf_get (C := RX6) (T := TX6) (N := 5) hx hb hts hn_X6 hown hK hI 0 (tf_xat_0 ad cI cZ _) rfl 0 (by decide) hf_10 rfl rfl dX6_member_12 ?_
  refine lv_iload_n hx hb dX6_member_15 rfl (lv_at hl 2 rfl) ?_
  obtain ⟨u4, q5, h⟩ := tf_gbind h
  refine tf_callV (rest := []) ⟨hx, hb, hml, hown, hts⟩ hK hN hI (kX_X4_isType l D ad cI cZ _ _ _ q5) (cwV 1 hts gX6_member_X4_isType rfl rfl rfl (by decide +kernel) ⟨Nat.le_of_ble_eq_true rfl, Nat.le_of_ble_eq_true rfl⟩) 1 4 (tf_xat_1 ad cI cZ _) rfl rfl hl.1 rfl (Nat.le_of_ble_eq_true rfl) dX6_member_16 (fun H locs hI => ?_)
  refine lv_if_ne (tgt := 25) hx hb dX6_member_19 (by decide) (fun c6 => ?_) (fun c6 => ?_)
  · replace h := tf_neg c6 h
    refine lv_aload_n hx hb dX6_member_25 rfl (lv_at hl 0 rfl) ?_
    refine tf_get (C := RX6) (T := TX6) (N := 5) hx hb hts hn_X6 hown hK hI 0 (tf_xat_0 ad cI cZ _) rfl 0 (by decide) hf_10 rfl rfl dX6_member_26 ?_
    refine lv_iload_n hx hb dX6_member_29 rfl (lv_at hl 2 rfl) ?_
    refine lv_aload_n hx hb dX6_member_30 rfl (lv_at hl 0 rfl) ?_
    refine tf_get (C := RX6) (T := TX6) (N := 5) hx hb hts hn_X6 hown hK hI 0 (tf_xat_0 ad cI cZ _) rfl 0 (by decide) hf_10 rfl rfl dX6_member_31 ?_
    refine tf_get (C := RX4) (T := TX4) (N := 10) hx hb hts hn_X4 hown hK hI 1 (tf_xat_1 ad cI cZ _) rfl 1 (by decide) hf_61 rfl rfl dX6_member_34 ?_
    refine lv_iload_n hx hb dX6_member_37 rfl (lv_at hl 1 rfl) ?_
    obtain ⟨b7, h⟩ := tf_gin h
    refine va_iald hx hb hK hI.1 7 0 (tf_xat_7 ad cI cZ _) rfl b7 dX6_member_38 ?_
    obtain ⟨u8, q9, h⟩ := tf_gbind h
    refine tf_callV (rest := []) ⟨hx, hb, hml, hown, hts⟩ hK hN hI (kX_X4_hasOnly l D ad cI cZ _ _ _ _ q9) (cwV 2 hts gX6_member_X4_hasOnly rfl rfl rfl (by decide +kernel) ⟨Nat.le_of_ble_eq_true rfl, Nat.le_of_ble_eq_true rfl⟩) 1 4 (tf_xat_1 ad cI cZ _) rfl rfl hl.1 rfl (Nat.le_of_ble_eq_true rfl) dX6_member_39 (fun H locs hI => ?_)
    refine lv_if_ne (tgt := 48) hx hb dX6_member_42 (by decide) (fun c10 => ?_) (fun c10 => ?_)
    · replace h := tf_neg c10 h
      refine lv_aload_n hx hb dX6_member_48 rfl (lv_at hl 0 rfl) ?_
      refine tf_get (C := RX6) (T := TX6) (N := 5) hx hb hts hn_X6 hown hK hI 0 (tf_xat_0 ad cI cZ _) rfl 1 (by decide) hf_19 rfl rfl dX6_member_49 ?_
      refine lv_iload_n hx hb dX6_member_52 rfl (lv_at hl 1 rfl) ?_
      refine lv_iload_n hx hb dX6_member_53 rfl (lv_at hl 2 rfl) ?_
      obtain ⟨u11, q12, h⟩ := tf_gbind h
      refine tf_callV (rest := []) ⟨hx, hb, hml, hown, hts⟩ hK hN hI (kX_X1_add l D ad cI cZ _ _ _ _ q12) (cwV 2 hts gX6_member_X1_add rfl rfl rfl (by decide +kernel) ⟨Nat.le_of_ble_eq_true rfl, Nat.le_of_ble_eq_true rfl⟩) 2 1 (tf_xat_2 ad cI cZ _) rfl rfl hl.1 rfl (Nat.le_of_ble_eq_true rfl) dX6_member_54 (fun H locs hI => ?_)
      exact tf_iret hx hb hr hI h dX6_member_57 hlocks
    replace h := tf_pos c10 h
    refine lv_bipush (v := -2) hx hb dX6_member_45 (by decide +kernel) ?_
    exact tf_iret hx hb hr hI h dX6_member_47 hlocks
  replace h := tf_pos c6 h
  refine lv_bipush (v := -2) hx hb dX6_member_22 (by decide +kernel) ?_
  exact tf_iret hx hb hr hI h dX6_member_24 hlocks

set_option maxHeartbeats 4000000 in
set_option maxRecDepth 100000 in
theorem kX_X6_function (l : Launch) (D : va_G) (ad : Nat → Nat) (cI cZ : ClassId) (σ : tf_S) (x1 x2 x3 : Int32) (z : Int32 × tf_S) (h : fX6_function σ x1 x2 x3 = some z) : tf_C l D (tf_wx ad cI cZ) [(cI, .int), (cZ, .boolean)] tf_nest yX6_function wsX6_function ({ frames := 1, cells := 0, slots := 0, locals := 24 }) [.ref (ad 0), .int x1, .int x2, .int x3] σ z := by
  intro sz
  refine Met.ofW (cc := cX6_function) (maxL := 4) (ret := (some .int)) (by decide) rfl ?_
  intro p e s m args below meth c s₁ B hml hv
  obtain ⟨rfl, hsz, hP, hK, hN, hD0⟩ := hv
  have hx := B.exec
  have hb := B.bytes
  have hr := B.returns
  have hts := atoms_spec (ws := wsX6_function) B.pre
  have hown : s.vm.findClass RX6 = some m.cls := findClass_of_methodNamed B.named
  have hlocks := B.notSynchronized
  subst hsz
  have hI := tf_start (D := D) (tf_x_ad ad cI cZ) hP hD0
  have hl := lv_entry ([.ref (ad 0), .int x1, .int x2, .int x3]) (n := 4) (Nat.le_of_ble_eq_true rfl)
  rw [lg_entry_eq]
  generalize (lg_sl ([.ref (ad 0), .int x1, .int x2, .int x3]) ++ List.replicate (4 - (lg_sl ([.ref (ad 0), .int x1, .int x2, .int x3])).length) Slot.unset).toArray = ls at hl ⊢
  have hl : lv_has ls 4 [(0, .ref (ad 0)), (1, .int x1), (2, .int x2), (3, .int x3)] := hl
  have hn_X6 : ∀ w ∈ u_ws RX6 TX6 5, w ∈ wsX6_function := by decide +kernel
  have hf_10 := hts (.fieldLink RX6 10 "TypeFlow" "types" "LTypeFlow$Types;") (by decide +kernel)
  have hf_26 := hts (.fieldLink RX6 26 "TypeFlow" "functions" "LTypeFlow$Functions;") (by decide +kernel)
  unfold fX6_function at h
  refine lv_aload_n hx hb dX6_function_0 rfl (lv_at hl 0 rfl) ?_
  refine tf_get (C := RX6) (T := TX6) (N := 5) hx hb hts hn_X6 hown hK hI 0 (tf_xat_0 ad cI cZ _) rfl 0 (by decide) hf_10 rfl rfl dX6_function_1 ?_
  refine lv_iload_n hx hb dX6_function_4 rfl (lv_at hl 1 rfl) ?_
  obtain ⟨u1, q2, h⟩ := tf_gbind h
  refine tf_callV (rest := []) ⟨hx, hb, hml, hown, hts⟩ hK hN hI (kX_X4_isType l D ad cI cZ _ _ _ q2) (cwV 1 hts gX6_function_X4_isType rfl rfl rfl (by decide +kernel) ⟨Nat.le_of_ble_eq_true rfl, Nat.le_of_ble_eq_true rfl⟩) 1 4 (tf_xat_1 ad cI cZ _) rfl rfl hl.1 rfl (Nat.le_of_ble_eq_true rfl) dX6_function_5 (fun H locs hI => ?_)
  refine lv_if_eq (tgt := 22) hx hb dX6_function_8 (by decide) (fun c3 => ?_) (fun c3 => ?_)
  · replace h := tf_pos c3 h
    refine lv_bipush (v := -2) hx hb dX6_function_22 (by decide +kernel) ?_
    exact tf_iret hx hb hr hI h dX6_function_24 hlocks
  replace h := tf_neg c3 h
  refine lv_aload_n hx hb dX6_function_11 rfl (lv_at hl 0 rfl) ?_
  refine tf_get (C := RX6) (T := TX6) (N := 5) hx hb hts hn_X6 hown hK hI 0 (tf_xat_0 ad cI cZ _) rfl 0 (by decide) hf_10 rfl rfl dX6_function_12 ?_
  refine lv_iload_n hx hb dX6_function_15 rfl (lv_at hl 3 rfl) ?_
  obtain ⟨u4, q5, h⟩ := tf_gbind h
  refine tf_callV (rest := []) ⟨hx, hb, hml, hown, hts⟩ hK hN hI (kX_X4_isType l D ad cI cZ _ _ _ q5) (cwV 1 hts gX6_function_X4_isType rfl rfl rfl (by decide +kernel) ⟨Nat.le_of_ble_eq_true rfl, Nat.le_of_ble_eq_true rfl⟩) 1 4 (tf_xat_1 ad cI cZ _) rfl rfl hl.1 rfl (Nat.le_of_ble_eq_true rfl) dX6_function_16 (fun H locs hI => ?_)
  refine lv_if_ne (tgt := 25) hx hb dX6_function_19 (by decide) (fun c6 => ?_) (fun c6 => ?_)
  · replace h := tf_neg c6 h
    refine lv_iload_n hx hb dX6_function_25 rfl (lv_at hl 2 rfl) ?_
    refine lv_iconst (v := -1) hx hb dX6_function_26 (by decide +kernel) ?_
    refine lv_icmp_eq (tgt := 44) hx hb dX6_function_27 (by decide) (fun c7 => ?_) (fun c7 => ?_)
    · replace h := tf_pos c7 h
      refine lv_aload_n hx hb dX6_function_44 rfl (lv_at hl 0 rfl) ?_
      refine tf_get (C := RX6) (T := TX6) (N := 5) hx hb hts hn_X6 hown hK hI 0 (tf_xat_0 ad cI cZ _) rfl 2 (by decide) hf_26 rfl rfl dX6_function_45 ?_
      refine lv_iload_n hx hb dX6_function_48 rfl (lv_at hl 1 rfl) ?_
      refine lv_iload_n hx hb dX6_function_49 rfl (lv_at hl 2 rfl) ?_
      refine lv_iload_n hx hb dX6_function_50 rfl (lv_at hl 3 rfl) ?_
      obtain ⟨u8, q9, h⟩ := tf_gbind h
      refine tf_callV (rest := []) ⟨hx, hb, hml, hown, hts⟩ hK hN hI (kX_X0_add l D ad cI cZ _ _ _ _ _ q9) (cwV 3 hts gX6_function_X0_add rfl rfl rfl (by decide +kernel) ⟨Nat.le_of_ble_eq_true rfl, Nat.le_of_ble_eq_true rfl⟩) 3 0 (tf_xat_3 ad cI cZ _) rfl rfl hl.1 rfl (Nat.le_of_ble_eq_true rfl) dX6_function_51 (fun H locs hI => ?_)
      exact tf_iret hx hb hr hI h dX6_function_54 hlocks
    replace h := tf_neg c7 h
    refine lv_aload_n hx hb dX6_function_30 rfl (lv_at hl 0 rfl) ?_
    refine tf_get (C := RX6) (T := TX6) (N := 5) hx hb hts hn_X6 hown hK hI 0 (tf_xat_0 ad cI cZ _) rfl 0 (by decide) hf_10 rfl rfl dX6_function_31 ?_
    refine lv_iload_n hx hb dX6_function_34 rfl (lv_at hl 2 rfl) ?_
    obtain ⟨u10, q11, h⟩ := tf_gbind h
    refine tf_callV (rest := []) ⟨hx, hb, hml, hown, hts⟩ hK hN hI (kX_X4_isType l D ad cI cZ _ _ _ q11) (cwV 1 hts gX6_function_X4_isType rfl rfl rfl (by decide +kernel) ⟨Nat.le_of_ble_eq_true rfl, Nat.le_of_ble_eq_true rfl⟩) 1 4 (tf_xat_1 ad cI cZ _) rfl rfl hl.1 rfl (Nat.le_of_ble_eq_true rfl) dX6_function_35 (fun H locs hI => ?_)
    refine lv_if_ne (tgt := 44) hx hb dX6_function_38 (by decide) (fun c12 => ?_) (fun c12 => ?_)
    · replace h := tf_neg c12 h
      refine lv_aload_n hx hb dX6_function_44 rfl (lv_at hl 0 rfl) ?_
      refine tf_get (C := RX6) (T := TX6) (N := 5) hx hb hts hn_X6 hown hK hI 0 (tf_xat_0 ad cI cZ _) rfl 2 (by decide) hf_26 rfl rfl dX6_function_45 ?_
      refine lv_iload_n hx hb dX6_function_48 rfl (lv_at hl 1 rfl) ?_
      refine lv_iload_n hx hb dX6_function_49 rfl (lv_at hl 2 rfl) ?_
      refine lv_iload_n hx hb dX6_function_50 rfl (lv_at hl 3 rfl) ?_
      obtain ⟨u13, q14, h⟩ := tf_gbind h
      refine tf_callV (rest := []) ⟨hx, hb, hml, hown, hts⟩ hK hN hI (kX_X0_add l D ad cI cZ _ _ _ _ _ q14) (cwV 3 hts gX6_function_X0_add rfl rfl rfl (by decide +kernel) ⟨Nat.le_of_ble_eq_true rfl, Nat.le_of_ble_eq_true rfl⟩) 3 0 (tf_xat_3 ad cI cZ _) rfl rfl hl.1 rfl (Nat.le_of_ble_eq_true rfl) dX6_function_51 (fun H locs hI => ?_)
      exact tf_iret hx hb hr hI h dX6_function_54 hlocks
    replace h := tf_pos c12 h
    refine lv_bipush (v := -2) hx hb dX6_function_41 (by decide +kernel) ?_
    exact tf_iret hx hb hr hI h dX6_function_43 hlocks
  replace h := tf_pos c6 h
  refine lv_bipush (v := -2) hx hb dX6_function_22 (by decide +kernel) ?_
  exact tf_iret hx hb hr hI h dX6_function_24 hlocks

set_option maxHeartbeats 4000000 in
set_option maxRecDepth 100000 in
theorem kX_X6_isVariableNumber (l : Launch) (D : va_G) (ad : Nat → Nat) (cI cZ : ClassId) (σ : tf_S) (x0 : Int32) (z : Int32 × tf_S) (h : fX6_isVariableNumber σ x0 = some z) : tf_C l D (tf_wx ad cI cZ) [(cI, .int), (cZ, .boolean)] tf_nest yX6_isVariableNumber wsX6_isVariableNumber ({ frames := 0, cells := 0, slots := 0, locals := 0 }) [.int x0] σ z := by
  intro sz
  refine Met.ofW (cc := cX6_isVariableNumber) (maxL := 1) (ret := (some .boolean)) (by decide) rfl ?_
  intro p e s m args below meth c s₁ B hml hv
  obtain ⟨rfl, hsz, hP, hK, hN, hD0⟩ := hv
  have hx := B.exec
  have hb := B.bytes
  have hr := B.returns
  have hts := atoms_spec (ws := wsX6_isVariableNumber) B.pre
  have hown : s.vm.findClass RX6 = some m.cls := findClass_of_methodNamed B.named
  have hlocks := B.notSynchronized
  subst hsz
  have hI := tf_start (D := D) (tf_x_ad ad cI cZ) hP hD0
  have hl := lv_entry ([.int x0]) (n := 1) (Nat.le_of_ble_eq_true rfl)
  rw [lg_entry_eq]
  generalize (lg_sl ([.int x0]) ++ List.replicate (1 - (lg_sl ([.int x0])).length) Slot.unset).toArray = ls at hl ⊢
  have hl : lv_has ls 1 [(0, .int x0)] := hl
  unfold fX6_isVariableNumber at h
  refine lv_iload_n hx hb dX6_isVariableNumber_0 rfl (lv_at hl 0 rfl) ?_
  refine lv_if_lt (tgt := 13) hx hb dX6_isVariableNumber_1 (by decide) (fun c1 => ?_) (fun c1 => ?_)
  · replace h := tf_pos c1 h
    refine lv_iconst (v := 0) hx hb dX6_isVariableNumber_13 (by decide +kernel) ?_
    exact tf_zret hx hb hr (Or.inl rfl) hI h dX6_isVariableNumber_14 hlocks
  replace h := tf_neg c1 h
  refine lv_iload_n hx hb dX6_isVariableNumber_4 rfl (lv_at hl 0 rfl) ?_
  refine lv_iconst (v := 2) hx hb dX6_isVariableNumber_5 (by decide +kernel) ?_
  refine lv_icmp_ge (tgt := 13) hx hb dX6_isVariableNumber_6 (by decide) (fun c2 => ?_) (fun c2 => ?_)
  · replace h := tf_pos c2 h
    refine lv_iconst (v := 0) hx hb dX6_isVariableNumber_13 (by decide +kernel) ?_
    exact tf_zret hx hb hr (Or.inl rfl) hI h dX6_isVariableNumber_14 hlocks
  replace h := tf_neg c2 h
  refine lv_iconst (v := 1) hx hb dX6_isVariableNumber_9 (by decide +kernel) ?_
  refine lv_goto (tgt := 14) hx hb dX6_isVariableNumber_10 (by decide) ?_
  exact tf_zret hx hb hr (Or.inr rfl) hI h dX6_isVariableNumber_14 hlocks
