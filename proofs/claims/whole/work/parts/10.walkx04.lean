set_option maxHeartbeats 4000000 in
set_option maxRecDepth 100000 in
theorem kX_X6_bound (l : Launch) (D : va_G) (ad : Nat → Nat) (cI cZ : ClassId) (σ : tf_S) (x1 x2 x3 : Int32) (z : Int32 × tf_S) (h : fX6_bound σ x1 x2 x3 = some z) : tf_C l D (tf_wx ad cI cZ) [(cI, .int), (cZ, .boolean)] tf_nest yX6_bound wsX6_bound ({ frames := 2, cells := 0, slots := 0, locals := 42 }) [.ref (ad 0), .int x1, .int x2, .int x3] σ z := by
  intro sz
  refine Met.ofW (cc := cX6_bound) (maxL := 4) (ret := (some .int)) (by decide) rfl ?_
  intro p e s m args below meth c s₁ B hml hv
  obtain ⟨rfl, hsz, hP, hK, hN, hD0⟩ := hv
  have hx := B.exec
  have hb := B.bytes
  have hr := B.returns
  have hts := atoms_spec (ws := wsX6_bound) B.pre
  have hown : s.vm.findClass RX6 = some m.cls := findClass_of_methodNamed B.named
  have hlocks := B.notSynchronized
  subst hsz
  have hI := tf_start (D := D) (tf_x_ad ad cI cZ) hP hD0
  have hl := lv_entry ([.ref (ad 0), .int x1, .int x2, .int x3]) (n := 4) (Nat.le_of_ble_eq_true rfl)
  rw [lg_entry_eq]
  generalize (lg_sl ([.ref (ad 0), .int x1, .int x2, .int x3]) ++ List.replicate (4 - (lg_sl ([.ref (ad 0), .int x1, .int x2, .int x3])).length) Slot.unset).toArray = ls at hl ⊢
  have hl : lv_has ls 4 [(0, .ref (ad 0)), (1, .int x1), (2, .int x2), (3, .int x3)] := hl
  have hn_X0 : ∀ w ∈ u_ws RX0 TX0 5, w ∈ wsX6_bound := by decide +kernel
  have hn_X6 : ∀ w ∈ u_ws RX6 TX6 5, w ∈ wsX6_bound := by decide +kernel
  have hf_10 := hts (.fieldLink RX6 10 "TypeFlow" "types" "LTypeFlow$Types;") (by decide +kernel)
  have hf_26 := hts (.fieldLink RX6 26 "TypeFlow" "functions" "LTypeFlow$Functions;") (by decide +kernel)
  have hf_89 := hts (.fieldLink RX6 89 "TypeFlow$Functions" "bounds" "[I") (by decide +kernel)
  unfold fX6_bound at h
  refine lv_aload_n hx hb dX6_bound_0 rfl (lv_at hl 0 rfl) ?_
  refine tf_get (C := RX6) (T := TX6) (N := 5) hx hb hts hn_X6 hown hK hI 0 (tf_xat_0 ad cI cZ _) rfl 2 (by decide) hf_26 rfl rfl dX6_bound_1 ?_
  refine lv_iload_n hx hb dX6_bound_4 rfl (lv_at hl 1 rfl) ?_
  obtain ⟨u1, q2, h⟩ := tf_gbind h
  refine tf_callV (rest := []) ⟨hx, hb, hml, hown, hts⟩ hK hN hI (kX_X0_has l D ad cI cZ _ _ _ q2) (cwV 1 hts gX6_bound_X0_has rfl rfl rfl (by decide +kernel) ⟨Nat.le_of_ble_eq_true rfl, Nat.le_of_ble_eq_true rfl⟩) 3 0 (tf_xat_3 ad cI cZ _) rfl rfl hl.1 rfl (Nat.le_of_ble_eq_true rfl) dX6_bound_5 (fun H locs hI => ?_)
  refine lv_if_eq (tgt := 18) hx hb dX6_bound_8 (by decide) (fun c3 => ?_) (fun c3 => ?_)
  · replace h := tf_pos c3 h
    refine lv_bipush (v := -2) hx hb dX6_bound_18 (by decide +kernel) ?_
    exact tf_iret hx hb hr hI h dX6_bound_20 hlocks
  replace h := tf_neg c3 h
  refine lv_iload_n hx hb dX6_bound_11 rfl (lv_at hl 2 rfl) ?_
  obtain ⟨u4, q5, h⟩ := tf_gbind h
  refine tf_callS (rest := []) ⟨hx, hb, hml, hown, hts⟩ hK hN hI (kX_X6_isVariableNumber l D ad cI cZ _ _ _ q5) (va_cwS 1 hts gX6_bound_X6_isVariableNumber rfl rfl rfl (by decide +kernel) ⟨Nat.le_of_ble_eq_true rfl, Nat.le_of_ble_eq_true rfl⟩) rfl hl.1 rfl (Nat.le_of_ble_eq_true rfl) dX6_bound_12 (fun H locs hI => ?_)
  refine lv_if_ne (tgt := 21) hx hb dX6_bound_15 (by decide) (fun c6 => ?_) (fun c6 => ?_)
  · replace h := tf_neg c6 h
    refine lv_iload_n hx hb dX6_bound_21 rfl (lv_at hl 3 rfl) ?_
    refine lv_iconst (v := -1) hx hb dX6_bound_22 (by decide +kernel) ?_
    refine lv_icmp_eq (tgt := 51) hx hb dX6_bound_23 (by decide) (fun c7 => ?_) (fun c7 => ?_)
    · replace h := tf_pos c7 h
      refine lv_aload_n hx hb dX6_bound_51 rfl (lv_at hl 0 rfl) ?_
      refine tf_get (C := RX6) (T := TX6) (N := 5) hx hb hts hn_X6 hown hK hI 0 (tf_xat_0 ad cI cZ _) rfl 2 (by decide) hf_26 rfl rfl dX6_bound_52 ?_
      refine tf_get (C := RX0) (T := TX0) (N := 5) hx hb hts hn_X0 hown hK hI 3 (tf_xat_3 ad cI cZ _) rfl 4 (by decide) hf_89 rfl rfl dX6_bound_55 ?_
      refine lv_iload_n hx hb dX6_bound_58 rfl (lv_at hl 1 rfl) ?_
      refine lv_iconst (v := 2) hx hb dX6_bound_59 (by decide +kernel) ?_
      refine lv_imul hx hb dX6_bound_60 ?_
      refine lv_iload_n hx hb dX6_bound_61 rfl (lv_at hl 2 rfl) ?_
      refine lv_iadd hx hb dX6_bound_62 ?_
      refine lv_iload_n hx hb dX6_bound_63 rfl (lv_at hl 3 rfl) ?_
      obtain ⟨b8, h⟩ := tf_gin h
      obtain ⟨s9, es9, h⟩ := tf_glet h
      refine tf_iast hx hb hK hI 20 0 (tf_xat_20 ad cI cZ _) (tf_xset_20 ad cI cZ _) rfl b8 es9 dX6_bound_64 (fun H locs hI => ?_)
      refine lv_iconst (v := 1) hx hb dX6_bound_65 (by decide +kernel) ?_
      exact tf_iret hx hb hr hI h dX6_bound_66 hlocks
    replace h := tf_neg c7 h
    refine lv_aload_n hx hb dX6_bound_26 rfl (lv_at hl 0 rfl) ?_
    refine tf_get (C := RX6) (T := TX6) (N := 5) hx hb hts hn_X6 hown hK hI 0 (tf_xat_0 ad cI cZ _) rfl 0 (by decide) hf_10 rfl rfl dX6_bound_27 ?_
    refine lv_iload_n hx hb dX6_bound_30 rfl (lv_at hl 3 rfl) ?_
    obtain ⟨u10, q11, h⟩ := tf_gbind h
    refine tf_callV (rest := []) ⟨hx, hb, hml, hown, hts⟩ hK hN hI (kX_X4_isClassType l D ad cI cZ _ _ _ q11) (cwV 1 hts gX6_bound_X4_isClassType rfl rfl rfl (by decide +kernel) ⟨Nat.le_of_ble_eq_true rfl, Nat.le_of_ble_eq_true rfl⟩) 1 4 (tf_xat_1 ad cI cZ _) rfl rfl hl.1 rfl (Nat.le_of_ble_eq_true rfl) dX6_bound_31 (fun H locs hI => ?_)
    refine lv_if_eq (tgt := 48) hx hb dX6_bound_34 (by decide) (fun c12 => ?_) (fun c12 => ?_)
    · replace h := tf_pos c12 h
      refine lv_bipush (v := -2) hx hb dX6_bound_48 (by decide +kernel) ?_
      exact tf_iret hx hb hr hI h dX6_bound_50 hlocks
    replace h := tf_neg c12 h
    refine lv_aload_n hx hb dX6_bound_37 rfl (lv_at hl 0 rfl) ?_
    refine tf_get (C := RX6) (T := TX6) (N := 5) hx hb hts hn_X6 hown hK hI 0 (tf_xat_0 ad cI cZ _) rfl 0 (by decide) hf_10 rfl rfl dX6_bound_38 ?_
    refine lv_iload_n hx hb dX6_bound_41 rfl (lv_at hl 3 rfl) ?_
    obtain ⟨u13, q14, h⟩ := tf_gbind h
    refine tf_callV (rest := []) ⟨hx, hb, hml, hown, hts⟩ hK hN hI (kX_X4_isClosed l D ad cI cZ _ _ _ q14) (cwV 1 hts gX6_bound_X4_isClosed rfl rfl rfl (by decide +kernel) ⟨Nat.le_of_ble_eq_true rfl, Nat.le_of_ble_eq_true rfl⟩) 1 4 (tf_xat_1 ad cI cZ _) rfl rfl hl.1 rfl (Nat.le_of_ble_eq_true rfl) dX6_bound_42 (fun H locs hI => ?_)
    refine lv_if_ne (tgt := 51) hx hb dX6_bound_45 (by decide) (fun c15 => ?_) (fun c15 => ?_)
    · replace h := tf_neg c15 h
      refine lv_aload_n hx hb dX6_bound_51 rfl (lv_at hl 0 rfl) ?_
      refine tf_get (C := RX6) (T := TX6) (N := 5) hx hb hts hn_X6 hown hK hI 0 (tf_xat_0 ad cI cZ _) rfl 2 (by decide) hf_26 rfl rfl dX6_bound_52 ?_
      refine tf_get (C := RX0) (T := TX0) (N := 5) hx hb hts hn_X0 hown hK hI 3 (tf_xat_3 ad cI cZ _) rfl 4 (by decide) hf_89 rfl rfl dX6_bound_55 ?_
      refine lv_iload_n hx hb dX6_bound_58 rfl (lv_at hl 1 rfl) ?_
      refine lv_iconst (v := 2) hx hb dX6_bound_59 (by decide +kernel) ?_
      refine lv_imul hx hb dX6_bound_60 ?_
      refine lv_iload_n hx hb dX6_bound_61 rfl (lv_at hl 2 rfl) ?_
      refine lv_iadd hx hb dX6_bound_62 ?_
      refine lv_iload_n hx hb dX6_bound_63 rfl (lv_at hl 3 rfl) ?_
      obtain ⟨b16, h⟩ := tf_gin h
      obtain ⟨s17, es17, h⟩ := tf_glet h
      refine tf_iast hx hb hK hI 20 0 (tf_xat_20 ad cI cZ _) (tf_xset_20 ad cI cZ _) rfl b16 es17 dX6_bound_64 (fun H locs hI => ?_)
      refine lv_iconst (v := 1) hx hb dX6_bound_65 (by decide +kernel) ?_
      exact tf_iret hx hb hr hI h dX6_bound_66 hlocks
    replace h := tf_pos c15 h
    refine lv_bipush (v := -2) hx hb dX6_bound_48 (by decide +kernel) ?_
    exact tf_iret hx hb hr hI h dX6_bound_50 hlocks
  replace h := tf_pos c6 h
  refine lv_bipush (v := -2) hx hb dX6_bound_18 (by decide +kernel) ?_
  exact tf_iret hx hb hr hI h dX6_bound_20 hlocks

set_option maxHeartbeats 4000000 in
set_option maxRecDepth 100000 in
theorem kX_X6_isAsTold (l : Launch) (D : va_G) (ad : Nat → Nat) (cI cZ : ClassId) (σ : tf_S) (x1 x2 x3 x4 x5 x6 : Int32) (z : Int32 × tf_S) (h : fX6_isAsTold σ x1 x2 x3 x4 x5 x6 = some z) : tf_C l D (tf_wx ad cI cZ) [(cI, .int), (cZ, .boolean)] tf_nest yX6_isAsTold wsX6_isAsTold ({ frames := 2, cells := 0, slots := 0, locals := 43 }) [.ref (ad 0), .int x1, .int x2, .int x3, .int x4, .int x5, .int x6] σ z := by
  intro sz
  refine Met.ofW (cc := cX6_isAsTold) (maxL := 7) (ret := (some .boolean)) (by decide) rfl ?_
  intro p e s m args below meth c s₁ B hml hv
  obtain ⟨rfl, hsz, hP, hK, hN, hD0⟩ := hv
  have hx := B.exec
  have hb := B.bytes
  have hr := B.returns
  have hts := atoms_spec (ws := wsX6_isAsTold) B.pre
  have hown : s.vm.findClass RX6 = some m.cls := findClass_of_methodNamed B.named
  have hlocks := B.notSynchronized
  subst hsz
  have hI := tf_start (D := D) (tf_x_ad ad cI cZ) hP hD0
  have hl := lv_entry ([.ref (ad 0), .int x1, .int x2, .int x3, .int x4, .int x5, .int x6]) (n := 7) (Nat.le_of_ble_eq_true rfl)
  rw [lg_entry_eq]
  generalize (lg_sl ([.ref (ad 0), .int x1, .int x2, .int x3, .int x4, .int x5, .int x6]) ++ List.replicate (7 - (lg_sl ([.ref (ad 0), .int x1, .int x2, .int x3, .int x4, .int x5, .int x6])).length) Slot.unset).toArray = ls at hl ⊢
  have hl : lv_has ls 7 [(0, .ref (ad 0)), (1, .int x1), (2, .int x2), (3, .int x3), (4, .int x4), (5, .int x5), (6, .int x6)] := hl
  have hn_X4 : ∀ w ∈ u_ws RX4 TX4 10, w ∈ wsX6_isAsTold := by decide +kernel
  have hn_X6 : ∀ w ∈ u_ws RX6 TX6 5, w ∈ wsX6_isAsTold := by decide +kernel
  have hf_10 := hts (.fieldLink RX6 10 "TypeFlow" "types" "LTypeFlow$Types;") (by decide +kernel)
  have hf_19 := hts (.fieldLink RX6 19 "TypeFlow" "members" "LTypeFlow$Members;") (by decide +kernel)
  have hf_26 := hts (.fieldLink RX6 26 "TypeFlow" "functions" "LTypeFlow$Functions;") (by decide +kernel)
  have hf_33 := hts (.fieldLink RX6 33 "TypeFlow" "operators" "LTypeFlow$Operators;") (by decide +kernel)
  have hf_61 := hts (.fieldLink RX6 61 "TypeFlow$Types" "variables" "[I") (by decide +kernel)
  unfold fX6_isAsTold at h
  refine lv_iload_n hx hb dX6_isAsTold_0 rfl (lv_at hl 1 rfl) ?_
  by_cases c1 : x1 = (0 : Int32)
  · replace h := tf_pos c1 h
    refine lv_tableIn (tgt := 48) (off := 47) hx hb dX6_isAsTold_1 (by rw [c1]; decide +kernel) (by rw [c1]; decide +kernel) (by rw [c1]; decide +kernel) (by decide) ?_
    refine lv_aload_n hx hb dX6_isAsTold_48 rfl (lv_at hl 0 rfl) ?_
    refine tf_get (C := RX6) (T := TX6) (N := 5) hx hb hts hn_X6 hown hK hI 0 (tf_xat_0 ad cI cZ _) rfl 0 (by decide) hf_10 rfl rfl dX6_isAsTold_49 ?_
    refine lv_iload hx hb dX6_isAsTold_52 (lv_at hl 4 rfl) ?_
    obtain ⟨u2, q3, h⟩ := tf_gbind h
    refine tf_callV (rest := []) ⟨hx, hb, hml, hown, hts⟩ hK hN hI (kX_X4_isClosed l D ad cI cZ _ _ _ q3) (cwV 1 hts gX6_isAsTold_X4_isClosed rfl rfl rfl (by decide +kernel) ⟨Nat.le_of_ble_eq_true rfl, Nat.le_of_ble_eq_true rfl⟩) 1 4 (tf_xat_1 ad cI cZ _) rfl rfl hl.1 rfl (Nat.le_of_ble_eq_true rfl) dX6_isAsTold_54 (fun H locs hI => ?_)
    obtain ⟨b4, h⟩ := tf_gbz h
    exact tf_zret hx hb hr b4 hI h dX6_isAsTold_57 hlocks
  replace h := tf_neg c1 h
  by_cases c5 : x1 = (1 : Int32)
  · replace h := tf_pos c5 h
    refine lv_tableIn (tgt := 58) (off := 57) hx hb dX6_isAsTold_1 (by rw [c5]; decide +kernel) (by rw [c5]; decide +kernel) (by rw [c5]; decide +kernel) (by decide) ?_
    refine lv_aload_n hx hb dX6_isAsTold_58 rfl (lv_at hl 0 rfl) ?_
    refine tf_get (C := RX6) (T := TX6) (N := 5) hx hb hts hn_X6 hown hK hI 0 (tf_xat_0 ad cI cZ _) rfl 3 (by decide) hf_33 rfl rfl dX6_isAsTold_59 ?_
    refine lv_iload_n hx hb dX6_isAsTold_62 rfl (lv_at hl 2 rfl) ?_
    obtain ⟨u6, q7, h⟩ := tf_gbind h
    refine tf_callV (rest := []) ⟨hx, hb, hml, hown, hts⟩ hK hN hI (kX_X2_has l D ad cI cZ _ _ _ q7) (cwV 1 hts gX6_isAsTold_X2_has rfl rfl rfl (by decide +kernel) ⟨Nat.le_of_ble_eq_true rfl, Nat.le_of_ble_eq_true rfl⟩) 4 2 (tf_xat_4 ad cI cZ _) rfl rfl hl.1 rfl (Nat.le_of_ble_eq_true rfl) dX6_isAsTold_63 (fun H locs hI => ?_)
    refine lv_if_eq (tgt := 86) hx hb dX6_isAsTold_66 (by decide) (fun c8 => ?_) (fun c8 => ?_)
    · replace h := tf_pos c8 h
      refine lv_iconst (v := 0) hx hb dX6_isAsTold_86 (by decide +kernel) ?_
      exact tf_zret hx hb hr (Or.inl rfl) hI h dX6_isAsTold_87 hlocks
    replace h := tf_neg c8 h
    refine lv_aload_n hx hb dX6_isAsTold_69 rfl (lv_at hl 0 rfl) ?_
    refine tf_get (C := RX6) (T := TX6) (N := 5) hx hb hts hn_X6 hown hK hI 0 (tf_xat_0 ad cI cZ _) rfl 2 (by decide) hf_26 rfl rfl dX6_isAsTold_70 ?_
    refine lv_iload hx hb dX6_isAsTold_73 (lv_at hl 4 rfl) ?_
    refine lv_iconst (v := 1) hx hb dX6_isAsTold_75 (by decide +kernel) ?_
    obtain ⟨u9, q10, h⟩ := tf_gbind h
    refine tf_callV (rest := []) ⟨hx, hb, hml, hown, hts⟩ hK hN hI (kX_X0_hasWith l D ad cI cZ _ _ _ _ q10) (cwV 2 hts gX6_isAsTold_X0_hasWith rfl rfl rfl (by decide +kernel) ⟨Nat.le_of_ble_eq_true rfl, Nat.le_of_ble_eq_true rfl⟩) 3 0 (tf_xat_3 ad cI cZ _) rfl rfl hl.1 rfl (Nat.le_of_ble_eq_true rfl) dX6_isAsTold_76 (fun H locs hI => ?_)
    refine lv_if_eq (tgt := 86) hx hb dX6_isAsTold_79 (by decide) (fun c11 => ?_) (fun c11 => ?_)
    · replace h := tf_pos c11 h
      refine lv_iconst (v := 0) hx hb dX6_isAsTold_86 (by decide +kernel) ?_
      exact tf_zret hx hb hr (Or.inl rfl) hI h dX6_isAsTold_87 hlocks
    replace h := tf_neg c11 h
    refine lv_iconst (v := 1) hx hb dX6_isAsTold_82 (by decide +kernel) ?_
    refine lv_goto (tgt := 87) hx hb dX6_isAsTold_83 (by decide) ?_
    exact tf_zret hx hb hr (Or.inr rfl) hI h dX6_isAsTold_87 hlocks
  replace h := tf_neg c5 h
  by_cases c12 : x1 = (2 : Int32)
  · replace h := tf_pos c12 h
    refine lv_tableIn (tgt := 58) (off := 57) hx hb dX6_isAsTold_1 (by rw [c12]; decide +kernel) (by rw [c12]; decide +kernel) (by rw [c12]; decide +kernel) (by decide) ?_
    refine lv_aload_n hx hb dX6_isAsTold_58 rfl (lv_at hl 0 rfl) ?_
    refine tf_get (C := RX6) (T := TX6) (N := 5) hx hb hts hn_X6 hown hK hI 0 (tf_xat_0 ad cI cZ _) rfl 3 (by decide) hf_33 rfl rfl dX6_isAsTold_59 ?_
    refine lv_iload_n hx hb dX6_isAsTold_62 rfl (lv_at hl 2 rfl) ?_
    obtain ⟨u13, q14, h⟩ := tf_gbind h
    refine tf_callV (rest := []) ⟨hx, hb, hml, hown, hts⟩ hK hN hI (kX_X2_has l D ad cI cZ _ _ _ q14) (cwV 1 hts gX6_isAsTold_X2_has rfl rfl rfl (by decide +kernel) ⟨Nat.le_of_ble_eq_true rfl, Nat.le_of_ble_eq_true rfl⟩) 4 2 (tf_xat_4 ad cI cZ _) rfl rfl hl.1 rfl (Nat.le_of_ble_eq_true rfl) dX6_isAsTold_63 (fun H locs hI => ?_)
    refine lv_if_eq (tgt := 86) hx hb dX6_isAsTold_66 (by decide) (fun c15 => ?_) (fun c15 => ?_)
    · replace h := tf_pos c15 h
      refine lv_iconst (v := 0) hx hb dX6_isAsTold_86 (by decide +kernel) ?_
      exact tf_zret hx hb hr (Or.inl rfl) hI h dX6_isAsTold_87 hlocks
    replace h := tf_neg c15 h
    refine lv_aload_n hx hb dX6_isAsTold_69 rfl (lv_at hl 0 rfl) ?_
    refine tf_get (C := RX6) (T := TX6) (N := 5) hx hb hts hn_X6 hown hK hI 0 (tf_xat_0 ad cI cZ _) rfl 2 (by decide) hf_26 rfl rfl dX6_isAsTold_70 ?_
    refine lv_iload hx hb dX6_isAsTold_73 (lv_at hl 4 rfl) ?_
    refine lv_iconst (v := 1) hx hb dX6_isAsTold_75 (by decide +kernel) ?_
    obtain ⟨u16, q17, h⟩ := tf_gbind h
    refine tf_callV (rest := []) ⟨hx, hb, hml, hown, hts⟩ hK hN hI (kX_X0_hasWith l D ad cI cZ _ _ _ _ q17) (cwV 2 hts gX6_isAsTold_X0_hasWith rfl rfl rfl (by decide +kernel) ⟨Nat.le_of_ble_eq_true rfl, Nat.le_of_ble_eq_true rfl⟩) 3 0 (tf_xat_3 ad cI cZ _) rfl rfl hl.1 rfl (Nat.le_of_ble_eq_true rfl) dX6_isAsTold_76 (fun H locs hI => ?_)
    refine lv_if_eq (tgt := 86) hx hb dX6_isAsTold_79 (by decide) (fun c18 => ?_) (fun c18 => ?_)
    · replace h := tf_pos c18 h
      refine lv_iconst (v := 0) hx hb dX6_isAsTold_86 (by decide +kernel) ?_
      exact tf_zret hx hb hr (Or.inl rfl) hI h dX6_isAsTold_87 hlocks
    replace h := tf_neg c18 h
    refine lv_iconst (v := 1) hx hb dX6_isAsTold_82 (by decide +kernel) ?_
    refine lv_goto (tgt := 87) hx hb dX6_isAsTold_83 (by decide) ?_
    exact tf_zret hx hb hr (Or.inr rfl) hI h dX6_isAsTold_87 hlocks
  replace h := tf_neg c12 h
  by_cases c19 : x1 = (3 : Int32)
  · replace h := tf_pos c19 h
    refine lv_tableIn (tgt := 88) (off := 87) hx hb dX6_isAsTold_1 (by rw [c19]; decide +kernel) (by rw [c19]; decide +kernel) (by rw [c19]; decide +kernel) (by decide) ?_
    refine lv_aload_n hx hb dX6_isAsTold_88 rfl (lv_at hl 0 rfl) ?_
    refine tf_get (C := RX6) (T := TX6) (N := 5) hx hb hts hn_X6 hown hK hI 0 (tf_xat_0 ad cI cZ _) rfl 3 (by decide) hf_33 rfl rfl dX6_isAsTold_89 ?_
    refine lv_iload_n hx hb dX6_isAsTold_92 rfl (lv_at hl 2 rfl) ?_
    obtain ⟨u20, q21, h⟩ := tf_gbind h
    refine tf_callV (rest := []) ⟨hx, hb, hml, hown, hts⟩ hK hN hI (kX_X2_has l D ad cI cZ _ _ _ q21) (cwV 1 hts gX6_isAsTold_X2_has rfl rfl rfl (by decide +kernel) ⟨Nat.le_of_ble_eq_true rfl, Nat.le_of_ble_eq_true rfl⟩) 4 2 (tf_xat_4 ad cI cZ _) rfl rfl hl.1 rfl (Nat.le_of_ble_eq_true rfl) dX6_isAsTold_93 (fun H locs hI => ?_)
    refine lv_if_eq (tgt := 115) hx hb dX6_isAsTold_96 (by decide) (fun c22 => ?_) (fun c22 => ?_)
    · replace h := tf_pos c22 h
      refine lv_iconst (v := 0) hx hb dX6_isAsTold_115 (by decide +kernel) ?_
      exact tf_zret hx hb hr (Or.inl rfl) hI h dX6_isAsTold_116 hlocks
    replace h := tf_neg c22 h
    refine lv_aload_n hx hb dX6_isAsTold_99 rfl (lv_at hl 0 rfl) ?_
    refine tf_get (C := RX6) (T := TX6) (N := 5) hx hb hts hn_X6 hown hK hI 0 (tf_xat_0 ad cI cZ _) rfl 1 (by decide) hf_19 rfl rfl dX6_isAsTold_100 ?_
    refine lv_iload hx hb dX6_isAsTold_103 (lv_at hl 4 rfl) ?_
    obtain ⟨u23, q24, h⟩ := tf_gbind h
    refine tf_callV (rest := []) ⟨hx, hb, hml, hown, hts⟩ hK hN hI (kX_X1_has l D ad cI cZ _ _ _ q24) (cwV 1 hts gX6_isAsTold_X1_has rfl rfl rfl (by decide +kernel) ⟨Nat.le_of_ble_eq_true rfl, Nat.le_of_ble_eq_true rfl⟩) 2 1 (tf_xat_2 ad cI cZ _) rfl rfl hl.1 rfl (Nat.le_of_ble_eq_true rfl) dX6_isAsTold_105 (fun H locs hI => ?_)
    refine lv_if_eq (tgt := 115) hx hb dX6_isAsTold_108 (by decide) (fun c25 => ?_) (fun c25 => ?_)
    · replace h := tf_pos c25 h
      refine lv_iconst (v := 0) hx hb dX6_isAsTold_115 (by decide +kernel) ?_
      exact tf_zret hx hb hr (Or.inl rfl) hI h dX6_isAsTold_116 hlocks
    replace h := tf_neg c25 h
    refine lv_iconst (v := 1) hx hb dX6_isAsTold_111 (by decide +kernel) ?_
    refine lv_goto (tgt := 116) hx hb dX6_isAsTold_112 (by decide) ?_
    exact tf_zret hx hb hr (Or.inr rfl) hI h dX6_isAsTold_116 hlocks
  replace h := tf_neg c19 h
  by_cases c26 : x1 = (4 : Int32)
  · replace h := tf_pos c26 h
    refine lv_tableIn (tgt := 117) (off := 116) hx hb dX6_isAsTold_1 (by rw [c26]; decide +kernel) (by rw [c26]; decide +kernel) (by rw [c26]; decide +kernel) (by decide) ?_
    refine lv_aload_n hx hb dX6_isAsTold_117 rfl (lv_at hl 0 rfl) ?_
    refine tf_get (C := RX6) (T := TX6) (N := 5) hx hb hts hn_X6 hown hK hI 0 (tf_xat_0 ad cI cZ _) rfl 3 (by decide) hf_33 rfl rfl dX6_isAsTold_118 ?_
    refine lv_iload_n hx hb dX6_isAsTold_121 rfl (lv_at hl 2 rfl) ?_
    obtain ⟨u27, q28, h⟩ := tf_gbind h
    refine tf_callV (rest := []) ⟨hx, hb, hml, hown, hts⟩ hK hN hI (kX_X2_has l D ad cI cZ _ _ _ q28) (cwV 1 hts gX6_isAsTold_X2_has rfl rfl rfl (by decide +kernel) ⟨Nat.le_of_ble_eq_true rfl, Nat.le_of_ble_eq_true rfl⟩) 4 2 (tf_xat_4 ad cI cZ _) rfl rfl hl.1 rfl (Nat.le_of_ble_eq_true rfl) dX6_isAsTold_122 (fun H locs hI => ?_)
    refine lv_if_eq (tgt := 143) hx hb dX6_isAsTold_125 (by decide) (fun c29 => ?_) (fun c29 => ?_)
    · replace h := tf_pos c29 h
      refine lv_iconst (v := 0) hx hb dX6_isAsTold_143 (by decide +kernel) ?_
      exact tf_zret hx hb hr (Or.inl rfl) hI h dX6_isAsTold_144 hlocks
    replace h := tf_neg c29 h
    refine lv_aload_n hx hb dX6_isAsTold_128 rfl (lv_at hl 0 rfl) ?_
    refine tf_get (C := RX6) (T := TX6) (N := 5) hx hb hts hn_X6 hown hK hI 0 (tf_xat_0 ad cI cZ _) rfl 3 (by decide) hf_33 rfl rfl dX6_isAsTold_129 ?_
    refine lv_iload_n hx hb dX6_isAsTold_132 rfl (lv_at hl 3 rfl) ?_
    obtain ⟨u30, q31, h⟩ := tf_gbind h
    refine tf_callV (rest := []) ⟨hx, hb, hml, hown, hts⟩ hK hN hI (kX_X2_has l D ad cI cZ _ _ _ q31) (cwV 1 hts gX6_isAsTold_X2_has rfl rfl rfl (by decide +kernel) ⟨Nat.le_of_ble_eq_true rfl, Nat.le_of_ble_eq_true rfl⟩) 4 2 (tf_xat_4 ad cI cZ _) rfl rfl hl.1 rfl (Nat.le_of_ble_eq_true rfl) dX6_isAsTold_133 (fun H locs hI => ?_)
    refine lv_if_eq (tgt := 143) hx hb dX6_isAsTold_136 (by decide) (fun c32 => ?_) (fun c32 => ?_)
    · replace h := tf_pos c32 h
      refine lv_iconst (v := 0) hx hb dX6_isAsTold_143 (by decide +kernel) ?_
      exact tf_zret hx hb hr (Or.inl rfl) hI h dX6_isAsTold_144 hlocks
    replace h := tf_neg c32 h
    refine lv_iconst (v := 1) hx hb dX6_isAsTold_139 (by decide +kernel) ?_
    refine lv_goto (tgt := 144) hx hb dX6_isAsTold_140 (by decide) ?_
    exact tf_zret hx hb hr (Or.inr rfl) hI h dX6_isAsTold_144 hlocks
  replace h := tf_neg c26 h
  by_cases c33 : x1 = (5 : Int32)
  · replace h := tf_pos c33 h
    refine lv_tableIn (tgt := 145) (off := 144) hx hb dX6_isAsTold_1 (by rw [c33]; decide +kernel) (by rw [c33]; decide +kernel) (by rw [c33]; decide +kernel) (by decide) ?_
    refine lv_aload_n hx hb dX6_isAsTold_145 rfl (lv_at hl 0 rfl) ?_
    refine tf_get (C := RX6) (T := TX6) (N := 5) hx hb hts hn_X6 hown hK hI 0 (tf_xat_0 ad cI cZ _) rfl 3 (by decide) hf_33 rfl rfl dX6_isAsTold_146 ?_
    refine lv_iload_n hx hb dX6_isAsTold_149 rfl (lv_at hl 2 rfl) ?_
    obtain ⟨u34, q35, h⟩ := tf_gbind h
    refine tf_callV (rest := []) ⟨hx, hb, hml, hown, hts⟩ hK hN hI (kX_X2_has l D ad cI cZ _ _ _ q35) (cwV 1 hts gX6_isAsTold_X2_has rfl rfl rfl (by decide +kernel) ⟨Nat.le_of_ble_eq_true rfl, Nat.le_of_ble_eq_true rfl⟩) 4 2 (tf_xat_4 ad cI cZ _) rfl rfl hl.1 rfl (Nat.le_of_ble_eq_true rfl) dX6_isAsTold_150 (fun H locs hI => ?_)
    refine lv_if_eq (tgt := 184) hx hb dX6_isAsTold_153 (by decide) (fun c36 => ?_) (fun c36 => ?_)
    · replace h := tf_pos c36 h
      refine lv_iconst (v := 0) hx hb dX6_isAsTold_184 (by decide +kernel) ?_
      exact tf_zret hx hb hr (Or.inl rfl) hI h dX6_isAsTold_185 hlocks
    replace h := tf_neg c36 h
    refine lv_aload_n hx hb dX6_isAsTold_156 rfl (lv_at hl 0 rfl) ?_
    refine tf_get (C := RX6) (T := TX6) (N := 5) hx hb hts hn_X6 hown hK hI 0 (tf_xat_0 ad cI cZ _) rfl 3 (by decide) hf_33 rfl rfl dX6_isAsTold_157 ?_
    refine lv_iload_n hx hb dX6_isAsTold_160 rfl (lv_at hl 3 rfl) ?_
    obtain ⟨u37, q38, h⟩ := tf_gbind h
    refine tf_callV (rest := []) ⟨hx, hb, hml, hown, hts⟩ hK hN hI (kX_X2_has l D ad cI cZ _ _ _ q38) (cwV 1 hts gX6_isAsTold_X2_has rfl rfl rfl (by decide +kernel) ⟨Nat.le_of_ble_eq_true rfl, Nat.le_of_ble_eq_true rfl⟩) 4 2 (tf_xat_4 ad cI cZ _) rfl rfl hl.1 rfl (Nat.le_of_ble_eq_true rfl) dX6_isAsTold_161 (fun H locs hI => ?_)
    refine lv_if_eq (tgt := 184) hx hb dX6_isAsTold_164 (by decide) (fun c39 => ?_) (fun c39 => ?_)
    · replace h := tf_pos c39 h
      refine lv_iconst (v := 0) hx hb dX6_isAsTold_184 (by decide +kernel) ?_
      exact tf_zret hx hb hr (Or.inl rfl) hI h dX6_isAsTold_185 hlocks
    replace h := tf_neg c39 h
    refine lv_aload_n hx hb dX6_isAsTold_167 rfl (lv_at hl 0 rfl) ?_
    refine tf_get (C := RX6) (T := TX6) (N := 5) hx hb hts hn_X6 hown hK hI 0 (tf_xat_0 ad cI cZ _) rfl 2 (by decide) hf_26 rfl rfl dX6_isAsTold_168 ?_
    refine lv_iload hx hb dX6_isAsTold_171 (lv_at hl 4 rfl) ?_
    refine lv_iconst (v := 2) hx hb dX6_isAsTold_173 (by decide +kernel) ?_
    obtain ⟨u40, q41, h⟩ := tf_gbind h
    refine tf_callV (rest := []) ⟨hx, hb, hml, hown, hts⟩ hK hN hI (kX_X0_hasWith l D ad cI cZ _ _ _ _ q41) (cwV 2 hts gX6_isAsTold_X0_hasWith rfl rfl rfl (by decide +kernel) ⟨Nat.le_of_ble_eq_true rfl, Nat.le_of_ble_eq_true rfl⟩) 3 0 (tf_xat_3 ad cI cZ _) rfl rfl hl.1 rfl (Nat.le_of_ble_eq_true rfl) dX6_isAsTold_174 (fun H locs hI => ?_)
    refine lv_if_eq (tgt := 184) hx hb dX6_isAsTold_177 (by decide) (fun c42 => ?_) (fun c42 => ?_)
    · replace h := tf_pos c42 h
      refine lv_iconst (v := 0) hx hb dX6_isAsTold_184 (by decide +kernel) ?_
      exact tf_zret hx hb hr (Or.inl rfl) hI h dX6_isAsTold_185 hlocks
    replace h := tf_neg c42 h
    refine lv_iconst (v := 1) hx hb dX6_isAsTold_180 (by decide +kernel) ?_
    refine lv_goto (tgt := 185) hx hb dX6_isAsTold_181 (by decide) ?_
    exact tf_zret hx hb hr (Or.inr rfl) hI h dX6_isAsTold_185 hlocks
  replace h := tf_neg c33 h
  by_cases c43 : x1 = (6 : Int32)
  · replace h := tf_pos c43 h
    refine lv_tableIn (tgt := 186) (off := 185) hx hb dX6_isAsTold_1 (by rw [c43]; decide +kernel) (by rw [c43]; decide +kernel) (by rw [c43]; decide +kernel) (by decide) ?_
    refine lv_aload_n hx hb dX6_isAsTold_186 rfl (lv_at hl 0 rfl) ?_
    refine tf_get (C := RX6) (T := TX6) (N := 5) hx hb hts hn_X6 hown hK hI 0 (tf_xat_0 ad cI cZ _) rfl 3 (by decide) hf_33 rfl rfl dX6_isAsTold_187 ?_
    refine lv_iload_n hx hb dX6_isAsTold_190 rfl (lv_at hl 2 rfl) ?_
    obtain ⟨u44, q45, h⟩ := tf_gbind h
    refine tf_callV (rest := []) ⟨hx, hb, hml, hown, hts⟩ hK hN hI (kX_X2_has l D ad cI cZ _ _ _ q45) (cwV 1 hts gX6_isAsTold_X2_has rfl rfl rfl (by decide +kernel) ⟨Nat.le_of_ble_eq_true rfl, Nat.le_of_ble_eq_true rfl⟩) 4 2 (tf_xat_4 ad cI cZ _) rfl rfl hl.1 rfl (Nat.le_of_ble_eq_true rfl) dX6_isAsTold_191 (fun H locs hI => ?_)
    refine lv_if_eq (tgt := 262) hx hb dX6_isAsTold_194 (by decide) (fun c46 => ?_) (fun c46 => ?_)
    · replace h := tf_pos c46 h
      refine lv_iconst (v := 0) hx hb dX6_isAsTold_262 (by decide +kernel) ?_
      exact tf_zret hx hb hr (Or.inl rfl) hI h dX6_isAsTold_263 hlocks
    replace h := tf_neg c46 h
    refine lv_aload_n hx hb dX6_isAsTold_197 rfl (lv_at hl 0 rfl) ?_
    refine tf_get (C := RX6) (T := TX6) (N := 5) hx hb hts hn_X6 hown hK hI 0 (tf_xat_0 ad cI cZ _) rfl 3 (by decide) hf_33 rfl rfl dX6_isAsTold_198 ?_
    refine lv_iload_n hx hb dX6_isAsTold_201 rfl (lv_at hl 3 rfl) ?_
    obtain ⟨u47, q48, h⟩ := tf_gbind h
    refine tf_callV (rest := []) ⟨hx, hb, hml, hown, hts⟩ hK hN hI (kX_X2_has l D ad cI cZ _ _ _ q48) (cwV 1 hts gX6_isAsTold_X2_has rfl rfl rfl (by decide +kernel) ⟨Nat.le_of_ble_eq_true rfl, Nat.le_of_ble_eq_true rfl⟩) 4 2 (tf_xat_4 ad cI cZ _) rfl rfl hl.1 rfl (Nat.le_of_ble_eq_true rfl) dX6_isAsTold_202 (fun H locs hI => ?_)
    refine lv_if_eq (tgt := 262) hx hb dX6_isAsTold_205 (by decide) (fun c49 => ?_) (fun c49 => ?_)
    · replace h := tf_pos c49 h
      refine lv_iconst (v := 0) hx hb dX6_isAsTold_262 (by decide +kernel) ?_
      exact tf_zret hx hb hr (Or.inl rfl) hI h dX6_isAsTold_263 hlocks
    replace h := tf_neg c49 h
    refine lv_aload_n hx hb dX6_isAsTold_208 rfl (lv_at hl 0 rfl) ?_
    refine tf_get (C := RX6) (T := TX6) (N := 5) hx hb hts hn_X6 hown hK hI 0 (tf_xat_0 ad cI cZ _) rfl 1 (by decide) hf_19 rfl rfl dX6_isAsTold_209 ?_
    refine lv_iload hx hb dX6_isAsTold_212 (lv_at hl 4 rfl) ?_
    obtain ⟨u50, q51, h⟩ := tf_gbind h
    refine tf_callV (rest := []) ⟨hx, hb, hml, hown, hts⟩ hK hN hI (kX_X1_has l D ad cI cZ _ _ _ q51) (cwV 1 hts gX6_isAsTold_X1_has rfl rfl rfl (by decide +kernel) ⟨Nat.le_of_ble_eq_true rfl, Nat.le_of_ble_eq_true rfl⟩) 2 1 (tf_xat_2 ad cI cZ _) rfl rfl hl.1 rfl (Nat.le_of_ble_eq_true rfl) dX6_isAsTold_214 (fun H locs hI => ?_)
    refine lv_if_eq (tgt := 262) hx hb dX6_isAsTold_217 (by decide) (fun c52 => ?_) (fun c52 => ?_)
    · replace h := tf_pos c52 h
      refine lv_iconst (v := 0) hx hb dX6_isAsTold_262 (by decide +kernel) ?_
      exact tf_zret hx hb hr (Or.inl rfl) hI h dX6_isAsTold_263 hlocks
    replace h := tf_neg c52 h
    refine lv_aload_n hx hb dX6_isAsTold_220 rfl (lv_at hl 0 rfl) ?_
    refine tf_get (C := RX6) (T := TX6) (N := 5) hx hb hts hn_X6 hown hK hI 0 (tf_xat_0 ad cI cZ _) rfl 1 (by decide) hf_19 rfl rfl dX6_isAsTold_221 ?_
    refine lv_iload hx hb dX6_isAsTold_224 (lv_at hl 5 rfl) ?_
    obtain ⟨u53, q54, h⟩ := tf_gbind h
    refine tf_callV (rest := []) ⟨hx, hb, hml, hown, hts⟩ hK hN hI (kX_X1_has l D ad cI cZ _ _ _ q54) (cwV 1 hts gX6_isAsTold_X1_has rfl rfl rfl (by decide +kernel) ⟨Nat.le_of_ble_eq_true rfl, Nat.le_of_ble_eq_true rfl⟩) 2 1 (tf_xat_2 ad cI cZ _) rfl rfl hl.1 rfl (Nat.le_of_ble_eq_true rfl) dX6_isAsTold_226 (fun H locs hI => ?_)
    refine lv_if_eq (tgt := 262) hx hb dX6_isAsTold_229 (by decide) (fun c55 => ?_) (fun c55 => ?_)
    · replace h := tf_pos c55 h
      refine lv_iconst (v := 0) hx hb dX6_isAsTold_262 (by decide +kernel) ?_
      exact tf_zret hx hb hr (Or.inl rfl) hI h dX6_isAsTold_263 hlocks
    replace h := tf_neg c55 h
    refine lv_aload_n hx hb dX6_isAsTold_232 rfl (lv_at hl 0 rfl) ?_
    refine tf_get (C := RX6) (T := TX6) (N := 5) hx hb hts hn_X6 hown hK hI 0 (tf_xat_0 ad cI cZ _) rfl 0 (by decide) hf_10 rfl rfl dX6_isAsTold_233 ?_
    refine lv_iload hx hb dX6_isAsTold_236 (lv_at hl 6 rfl) ?_
    obtain ⟨u56, q57, h⟩ := tf_gbind h
    refine tf_callV (rest := []) ⟨hx, hb, hml, hown, hts⟩ hK hN hI (kX_X4_isClass l D ad cI cZ _ _ _ q57) (cwV 1 hts gX6_isAsTold_X4_isClass rfl rfl rfl (by decide +kernel) ⟨Nat.le_of_ble_eq_true rfl, Nat.le_of_ble_eq_true rfl⟩) 1 4 (tf_xat_1 ad cI cZ _) rfl rfl hl.1 rfl (Nat.le_of_ble_eq_true rfl) dX6_isAsTold_238 (fun H locs hI => ?_)
    refine lv_if_eq (tgt := 262) hx hb dX6_isAsTold_241 (by decide) (fun c58 => ?_) (fun c58 => ?_)
    · replace h := tf_pos c58 h
      refine lv_iconst (v := 0) hx hb dX6_isAsTold_262 (by decide +kernel) ?_
      exact tf_zret hx hb hr (Or.inl rfl) hI h dX6_isAsTold_263 hlocks
    replace h := tf_neg c58 h
    refine lv_aload_n hx hb dX6_isAsTold_244 rfl (lv_at hl 0 rfl) ?_
    refine tf_get (C := RX6) (T := TX6) (N := 5) hx hb hts hn_X6 hown hK hI 0 (tf_xat_0 ad cI cZ _) rfl 0 (by decide) hf_10 rfl rfl dX6_isAsTold_245 ?_
    refine tf_get (C := RX4) (T := TX4) (N := 10) hx hb hts hn_X4 hown hK hI 1 (tf_xat_1 ad cI cZ _) rfl 1 (by decide) hf_61 rfl rfl dX6_isAsTold_248 ?_
    refine lv_iload hx hb dX6_isAsTold_251 (lv_at hl 6 rfl) ?_
    obtain ⟨b59, h⟩ := tf_gin h
    refine va_iald hx hb hK hI.1 7 0 (tf_xat_7 ad cI cZ _) rfl b59 dX6_isAsTold_253 ?_
    refine lv_iconst (v := 2) hx hb dX6_isAsTold_254 (by decide +kernel) ?_
    refine lv_icmp_ne (tgt := 262) hx hb dX6_isAsTold_255 (by decide) (fun c60 => ?_) (fun c60 => ?_)
    · replace h := tf_neg c60 h
      refine lv_iconst (v := 0) hx hb dX6_isAsTold_262 (by decide +kernel) ?_
      exact tf_zret hx hb hr (Or.inl rfl) hI h dX6_isAsTold_263 hlocks
    replace h := tf_pos c60 h
    refine lv_iconst (v := 1) hx hb dX6_isAsTold_258 (by decide +kernel) ?_
    refine lv_goto (tgt := 263) hx hb dX6_isAsTold_259 (by decide) ?_
    exact tf_zret hx hb hr (Or.inr rfl) hI h dX6_isAsTold_263 hlocks
  replace h := tf_neg c43 h
  by_cases c61 : x1 = (7 : Int32)
  · replace h := tf_pos c61 h
    refine lv_tableIn (tgt := 264) (off := 263) hx hb dX6_isAsTold_1 (by rw [c61]; decide +kernel) (by rw [c61]; decide +kernel) (by rw [c61]; decide +kernel) (by decide) ?_
    refine lv_aload_n hx hb dX6_isAsTold_264 rfl (lv_at hl 0 rfl) ?_
    refine tf_get (C := RX6) (T := TX6) (N := 5) hx hb hts hn_X6 hown hK hI 0 (tf_xat_0 ad cI cZ _) rfl 3 (by decide) hf_33 rfl rfl dX6_isAsTold_265 ?_
    refine lv_iload_n hx hb dX6_isAsTold_268 rfl (lv_at hl 2 rfl) ?_
    obtain ⟨u62, q63, h⟩ := tf_gbind h
    refine tf_callV (rest := []) ⟨hx, hb, hml, hown, hts⟩ hK hN hI (kX_X2_has l D ad cI cZ _ _ _ q63) (cwV 1 hts gX6_isAsTold_X2_has rfl rfl rfl (by decide +kernel) ⟨Nat.le_of_ble_eq_true rfl, Nat.le_of_ble_eq_true rfl⟩) 4 2 (tf_xat_4 ad cI cZ _) rfl rfl hl.1 rfl (Nat.le_of_ble_eq_true rfl) dX6_isAsTold_269 (fun H locs hI => ?_)
    refine lv_if_eq (tgt := 291) hx hb dX6_isAsTold_272 (by decide) (fun c64 => ?_) (fun c64 => ?_)
    · replace h := tf_pos c64 h
      refine lv_iconst (v := 0) hx hb dX6_isAsTold_291 (by decide +kernel) ?_
      exact tf_zret hx hb hr (Or.inl rfl) hI h dX6_isAsTold_292 hlocks
    replace h := tf_neg c64 h
    refine lv_aload_n hx hb dX6_isAsTold_275 rfl (lv_at hl 0 rfl) ?_
    refine tf_get (C := RX6) (T := TX6) (N := 5) hx hb hts hn_X6 hown hK hI 0 (tf_xat_0 ad cI cZ _) rfl 0 (by decide) hf_10 rfl rfl dX6_isAsTold_276 ?_
    refine lv_iload hx hb dX6_isAsTold_279 (lv_at hl 4 rfl) ?_
    obtain ⟨u65, q66, h⟩ := tf_gbind h
    refine tf_callV (rest := []) ⟨hx, hb, hml, hown, hts⟩ hK hN hI (kX_X4_isClosed l D ad cI cZ _ _ _ q66) (cwV 1 hts gX6_isAsTold_X4_isClosed rfl rfl rfl (by decide +kernel) ⟨Nat.le_of_ble_eq_true rfl, Nat.le_of_ble_eq_true rfl⟩) 1 4 (tf_xat_1 ad cI cZ _) rfl rfl hl.1 rfl (Nat.le_of_ble_eq_true rfl) dX6_isAsTold_281 (fun H locs hI => ?_)
    refine lv_if_eq (tgt := 291) hx hb dX6_isAsTold_284 (by decide) (fun c67 => ?_) (fun c67 => ?_)
    · replace h := tf_pos c67 h
      refine lv_iconst (v := 0) hx hb dX6_isAsTold_291 (by decide +kernel) ?_
      exact tf_zret hx hb hr (Or.inl rfl) hI h dX6_isAsTold_292 hlocks
    replace h := tf_neg c67 h
    refine lv_iconst (v := 1) hx hb dX6_isAsTold_287 (by decide +kernel) ?_
    refine lv_goto (tgt := 292) hx hb dX6_isAsTold_288 (by decide) ?_
    exact tf_zret hx hb hr (Or.inr rfl) hI h dX6_isAsTold_292 hlocks
  replace h := tf_neg c61 h
  refine lv_tableOut (tgt := 293) hx hb dX6_isAsTold_1 (by have ac1 := lv_neT c1 (a := 0) (by decide +kernel); have ac5 := lv_neT c5 (a := 1) (by decide +kernel); have ac12 := lv_neT c12 (a := 2) (by decide +kernel); have ac19 := lv_neT c19 (a := 3) (by decide +kernel); have ac26 := lv_neT c26 (a := 4) (by decide +kernel); have ac33 := lv_neT c33 (a := 5) (by decide +kernel); have ac43 := lv_neT c43 (a := 6) (by decide +kernel); have ac61 := lv_neT c61 (a := 7) (by decide +kernel); omega) (by decide) ?_
  refine lv_iconst (v := 0) hx hb dX6_isAsTold_293 (by decide +kernel) ?_
  exact tf_zret hx hb hr (Or.inl rfl) hI h dX6_isAsTold_294 hlocks

set_option maxHeartbeats 4000000 in
set_option maxRecDepth 100000 in
theorem kX_X6_operator (l : Launch) (D : va_G) (ad : Nat → Nat) (cI cZ : ClassId) (σ : tf_S) (x1 x2 x3 x4 x5 x6 : Int32) (z : Int32 × tf_S) (h : fX6_operator σ x1 x2 x3 x4 x5 x6 = some z) : tf_C l D (tf_wx ad cI cZ) [(cI, .int), (cZ, .boolean)] tf_nest yX6_operator wsX6_operator ({ frames := 3, cells := 0, slots := 0, locals := 69 }) [.ref (ad 0), .int x1, .int x2, .int x3, .int x4, .int x5, .int x6] σ z := by
  intro sz
  refine Met.ofW (cc := cX6_operator) (maxL := 7) (ret := (some .int)) (by decide) rfl ?_
  intro p e s m args below meth c s₁ B hml hv
  obtain ⟨rfl, hsz, hP, hK, hN, hD0⟩ := hv
  have hx := B.exec
  have hb := B.bytes
  have hr := B.returns
  have hts := atoms_spec (ws := wsX6_operator) B.pre
  have hown : s.vm.findClass RX6 = some m.cls := findClass_of_methodNamed B.named
  have hlocks := B.notSynchronized
  subst hsz
  have hI := tf_start (D := D) (tf_x_ad ad cI cZ) hP hD0
  have hl := lv_entry ([.ref (ad 0), .int x1, .int x2, .int x3, .int x4, .int x5, .int x6]) (n := 7) (Nat.le_of_ble_eq_true rfl)
  rw [lg_entry_eq]
  generalize (lg_sl ([.ref (ad 0), .int x1, .int x2, .int x3, .int x4, .int x5, .int x6]) ++ List.replicate (7 - (lg_sl ([.ref (ad 0), .int x1, .int x2, .int x3, .int x4, .int x5, .int x6])).length) Slot.unset).toArray = ls at hl ⊢
  have hl : lv_has ls 7 [(0, .ref (ad 0)), (1, .int x1), (2, .int x2), (3, .int x3), (4, .int x4), (5, .int x5), (6, .int x6)] := hl
  have hn_X6 : ∀ w ∈ u_ws RX6 TX6 5, w ∈ wsX6_operator := by decide +kernel
  have hf_33 := hts (.fieldLink RX6 33 "TypeFlow" "operators" "LTypeFlow$Operators;") (by decide +kernel)
  unfold fX6_operator at h
  refine lv_aload_n hx hb dX6_operator_0 rfl (lv_at hl 0 rfl) ?_
  refine lv_iload_n hx hb dX6_operator_1 rfl (lv_at hl 1 rfl) ?_
  refine lv_iload_n hx hb dX6_operator_2 rfl (lv_at hl 2 rfl) ?_
  refine lv_iload_n hx hb dX6_operator_3 rfl (lv_at hl 3 rfl) ?_
  refine lv_iload hx hb dX6_operator_4 (lv_at hl 4 rfl) ?_
  refine lv_iload hx hb dX6_operator_6 (lv_at hl 5 rfl) ?_
  refine lv_iload hx hb dX6_operator_8 (lv_at hl 6 rfl) ?_
  obtain ⟨u1, q2, h⟩ := tf_gbind h
  refine tf_callV (rest := []) ⟨hx, hb, hml, hown, hts⟩ hK hN hI (kX_X6_isAsTold l D ad cI cZ _ _ _ _ _ _ _ _ q2) (cwV 6 hts gX6_operator_X6_isAsTold rfl rfl rfl (by decide +kernel) ⟨Nat.le_of_ble_eq_true rfl, Nat.le_of_ble_eq_true rfl⟩) 0 6 (tf_xat_0 ad cI cZ _) rfl rfl hl.1 rfl (Nat.le_of_ble_eq_true rfl) dX6_operator_10 (fun H locs hI => ?_)
  refine lv_if_ne (tgt := 19) hx hb dX6_operator_13 (by decide) (fun c3 => ?_) (fun c3 => ?_)
  · replace h := tf_neg c3 h
    refine lv_aload_n hx hb dX6_operator_19 rfl (lv_at hl 0 rfl) ?_
    refine tf_get (C := RX6) (T := TX6) (N := 5) hx hb hts hn_X6 hown hK hI 0 (tf_xat_0 ad cI cZ _) rfl 3 (by decide) hf_33 rfl rfl dX6_operator_20 ?_
    refine lv_iload_n hx hb dX6_operator_23 rfl (lv_at hl 1 rfl) ?_
    refine lv_iload_n hx hb dX6_operator_24 rfl (lv_at hl 2 rfl) ?_
    refine lv_iload_n hx hb dX6_operator_25 rfl (lv_at hl 3 rfl) ?_
    refine lv_iload hx hb dX6_operator_26 (lv_at hl 4 rfl) ?_
    refine lv_iload hx hb dX6_operator_28 (lv_at hl 5 rfl) ?_
    refine lv_iload hx hb dX6_operator_30 (lv_at hl 6 rfl) ?_
    obtain ⟨u4, q5, h⟩ := tf_gbind h
    refine tf_callV (rest := []) ⟨hx, hb, hml, hown, hts⟩ hK hN hI (kX_X2_add l D ad cI cZ _ _ _ _ _ _ _ _ q5) (cwV 6 hts gX6_operator_X2_add rfl rfl rfl (by decide +kernel) ⟨Nat.le_of_ble_eq_true rfl, Nat.le_of_ble_eq_true rfl⟩) 4 2 (tf_xat_4 ad cI cZ _) rfl rfl hl.1 rfl (Nat.le_of_ble_eq_true rfl) dX6_operator_32 (fun H locs hI => ?_)
    exact tf_iret hx hb hr hI h dX6_operator_35 hlocks
  replace h := tf_pos c3 h
  refine lv_bipush (v := -2) hx hb dX6_operator_16 (by decide +kernel) ?_
  exact tf_iret hx hb hr hI h dX6_operator_18 hlocks

set_option maxHeartbeats 4000000 in
set_option maxRecDepth 100000 in
theorem kX_X6_clear (l : Launch) (D : va_G) (ad : Nat → Nat) (cI cZ : ClassId) (σ : tf_S) (z : Int32 × tf_S) (h : fX6_clear σ = some z) : tf_C l D (tf_wx ad cI cZ) [(cI, .int), (cZ, .boolean)] tf_nest yX6_clear wsX6_clear ({ frames := 0, cells := 0, slots := 0, locals := 0 }) [.ref (ad 0)] σ z := by
  intro sz
  refine Met.ofW (cc := cX6_clear) (maxL := 2) (ret := (some .int)) (by decide) rfl ?_
  intro p e s m args below meth c s₁ B hml hv
  obtain ⟨rfl, hsz, hP, hK, hN, hD0⟩ := hv
  have hx := B.exec
  have hb := B.bytes
  have hr := B.returns
  have hts := atoms_spec (ws := wsX6_clear) B.pre
  have hown : s.vm.findClass RX6 = some m.cls := findClass_of_methodNamed B.named
  have hlocks := B.notSynchronized
  subst hsz
  have hI := tf_start (D := D) (tf_x_ad ad cI cZ) hP hD0
  have hl := lv_entry ([.ref (ad 0)]) (n := 2) (Nat.le_of_ble_eq_true rfl)
  rw [lg_entry_eq]
  generalize (lg_sl ([.ref (ad 0)]) ++ List.replicate (2 - (lg_sl ([.ref (ad 0)])).length) Slot.unset).toArray = ls at hl ⊢
  have hl : lv_has ls 2 [(0, .ref (ad 0))] := hl
  have hn_X2 : ∀ w ∈ u_ws RX2 TX2 11, w ∈ wsX6_clear := by decide +kernel
  have hn_X6 : ∀ w ∈ u_ws RX6 TX6 5, w ∈ wsX6_clear := by decide +kernel
  have hf_33 := hts (.fieldLink RX6 33 "TypeFlow" "operators" "LTypeFlow$Operators;") (by decide +kernel)
  have hf_99 := hts (.fieldLink RX6 99 "TypeFlow$Operators" "size" "I") (by decide +kernel)
  unfold fX6_clear at h
  refine lv_aload_n hx hb dX6_clear_0 rfl (lv_at hl 0 rfl) ?_
  refine tf_get (C := RX6) (T := TX6) (N := 5) hx hb hts hn_X6 hown hK hI 0 (tf_xat_0 ad cI cZ _) rfl 3 (by decide) hf_33 rfl rfl dX6_clear_1 ?_
  refine tf_get (C := RX2) (T := TX2) (N := 11) hx hb hts hn_X2 hown hK hI 4 (tf_xat_4 ad cI cZ _) rfl 0 (by decide) hf_99 rfl rfl dX6_clear_4 ?_
  obtain ⟨v1, ev1, h⟩ := tf_glet h
  refine tf_top ev1 ?_
  refine lv_istore_n (lv' := [(1, .int v1), (0, .ref (ad 0))]) hx hb dX6_clear_7 rfl hl (by decide) rfl (fun ls hl => ?_)
  refine lv_aload_n hx hb dX6_clear_8 rfl (lv_at hl 1 rfl) ?_
  refine tf_get (C := RX6) (T := TX6) (N := 5) hx hb hts hn_X6 hown hK hI 0 (tf_xat_0 ad cI cZ _) rfl 3 (by decide) hf_33 rfl rfl dX6_clear_9 ?_
  refine lv_iconst (v := 0) hx hb dX6_clear_12 (by decide +kernel) ?_
  obtain ⟨s2, es2, h⟩ := tf_glet h
  refine tf_put (C := RX2) (T := TX2) (N := 11) (ty := .int) hx hb hts hn_X2 tyX2 tyX2_ok nmX2 hown hK hI 4 (tf_xat_4 ad cI cZ _) rfl 0 (by decide) hf_99 rfl rfl (by decide +kernel) rfl rfl (Nat.le_of_ble_eq_true rfl) (tf_xput_4_0 ad cI cZ _ _) es2 dX6_clear_13 (fun H locs hI => ?_)
  refine lv_iload_n hx hb dX6_clear_16 rfl (lv_at hl 0 rfl) ?_
  exact tf_iret hx hb hr hI h dX6_clear_17 hlocks

set_option maxHeartbeats 4000000 in
set_option maxRecDepth 100000 in
theorem kX_X6_flow (l : Launch) (D : va_G) (ad : Nat → Nat) (cI cZ : ClassId) (σ : tf_S) (z : Int32 × tf_S) (h : fX6_flow σ = some z) : tf_C l D (tf_wx ad cI cZ) [(cI, .int), (cZ, .boolean)] tf_nest yX6_flow wsX6_flow ({ frames := 7, cells := 0, slots := 0, locals := 173 }) [.ref (ad 0)] σ z := by
  intro sz
  refine Met.ofW (cc := cX6_flow) (maxL := 4) (ret := (some .int)) (by decide) rfl ?_
  intro p e s m args below meth c s₁ B hml hv
  obtain ⟨rfl, hsz, hP, hK, hN, hD0⟩ := hv
  have hx := B.exec
  have hb := B.bytes
  have hr := B.returns
  have hts := atoms_spec (ws := wsX6_flow) B.pre
  have hown : s.vm.findClass RX6 = some m.cls := findClass_of_methodNamed B.named
  have hlocks := B.notSynchronized
  subst hsz
  have hI := tf_start (D := D) (tf_x_ad ad cI cZ) hP hD0
  have hl := lv_entry ([.ref (ad 0)]) (n := 4) (Nat.le_of_ble_eq_true rfl)
  rw [lg_entry_eq]
  generalize (lg_sl ([.ref (ad 0)]) ++ List.replicate (4 - (lg_sl ([.ref (ad 0)])).length) Slot.unset).toArray = ls at hl ⊢
  have hl : lv_has ls 4 [(0, .ref (ad 0))] := hl
  have hn_X2 : ∀ w ∈ u_ws RX2 TX2 11, w ∈ wsX6_flow := by decide +kernel
  have hn_X6 : ∀ w ∈ u_ws RX6 TX6 5, w ∈ wsX6_flow := by decide +kernel
  have hf_33 := hts (.fieldLink RX6 33 "TypeFlow" "operators" "LTypeFlow$Operators;") (by decide +kernel)
  have hf_42 := hts (.fieldLink RX6 42 "TypeFlow" "worker" "LTypeFlow$Worker;") (by decide +kernel)
  have hf_99 := hts (.fieldLink RX6 99 "TypeFlow$Operators" "size" "I") (by decide +kernel)
  have j4 : ∀ n : Nat, ∀ (σ : tf_S) (y1 y2 : Int32) (H : Heap) (locs : List Loc) (ls : Array Slot), fX6_flow_4 n σ y1 y2 = some z → tf_I D (tf_wx ad cI cZ) s.heap σ H locs → lv_has ls 4 [(0, .ref (ad 0)), (1, .int y1), (2, .int y2)] → W p l e (headSpec wsX6_flow ({ frames := 7, cells := 0, slots := 0, locals := 173 })).room s m ([.ref (ad 0)] : List Value).toArray below meth c H locs 0 0 (tf_Q below D (tf_wx ad cI cZ) z ([.ref (ad 0)] : List Value).toArray s) (F0 m 4 ls []) := by
    intro n
    induction n with
    | zero =>
      intro σ y1 y2 H locs ls h
      rw [fX6_flow_4] at h
      cases h
    | succ n ih =>
      intro σ y1 y2 H locs ls h hI hl
      rw [fX6_flow_4] at h
      refine lv_iload_n hx hb dX6_flow_4 rfl (lv_at hl 2 rfl) ?_
      refine lv_aload_n hx hb dX6_flow_5 rfl (lv_at hl 0 rfl) ?_
      refine tf_get (C := RX6) (T := TX6) (N := 5) hx hb hts hn_X6 hown hK hI 0 (tf_xat_0 ad cI cZ _) rfl 3 (by decide) hf_33 rfl rfl dX6_flow_6 ?_
      refine tf_get (C := RX2) (T := TX2) (N := 11) hx hb hts hn_X2 hown hK hI 4 (tf_xat_4 ad cI cZ _) rfl 0 (by decide) hf_99 rfl rfl dX6_flow_9 ?_
      refine lv_icmp_ge (tgt := 47) hx hb dX6_flow_12 (by decide) (fun c1 => ?_) (fun c1 => ?_)
      · replace h := tf_pos c1 h
        refine lv_iload_n hx hb dX6_flow_47 rfl (lv_at hl 1 rfl) ?_
        exact tf_iret hx hb hr hI h dX6_flow_48 hlocks
      replace h := tf_neg c1 h
      refine lv_aload_n hx hb dX6_flow_15 rfl (lv_at hl 0 rfl) ?_
      refine tf_get (C := RX6) (T := TX6) (N := 5) hx hb hts hn_X6 hown hK hI 0 (tf_xat_0 ad cI cZ _) rfl 4 (by decide) hf_42 rfl rfl dX6_flow_16 ?_
      refine lv_iload_n hx hb dX6_flow_19 rfl (lv_at hl 2 rfl) ?_
      obtain ⟨u2, q3, h⟩ := tf_gbind h
      refine tf_callV (rest := []) ⟨hx, hb, hml, hown, hts⟩ hK hN hI (kX_X5_whatComes l D ad cI cZ _ _ _ q3) (cwV 1 hts gX6_flow_X5_whatComes rfl rfl rfl (by decide +kernel) ⟨Nat.le_of_ble_eq_true rfl, Nat.le_of_ble_eq_true rfl⟩) 5 5 (tf_xat_5 ad cI cZ _) rfl rfl hl.1 rfl (Nat.le_of_ble_eq_true rfl) dX6_flow_20 (fun H locs hI => ?_)
      obtain ⟨v4, ev4, h⟩ := tf_glet h
      refine tf_top ev4 ?_
      refine lv_istore_n (lv' := [(3, .int v4), (0, .ref (ad 0)), (1, .int y1), (2, .int y2)]) hx hb dX6_flow_23 rfl hl (by decide) rfl (fun ls hl => ?_)
      refine lv_aload_n hx hb dX6_flow_24 rfl (lv_at hl 1 rfl) ?_
      refine tf_get (C := RX6) (T := TX6) (N := 5) hx hb hts hn_X6 hown hK hI 0 (tf_xat_0 ad cI cZ _) rfl 4 (by decide) hf_42 rfl rfl dX6_flow_25 ?_
      refine lv_iload_n hx hb dX6_flow_28 rfl (lv_at hl 3 rfl) ?_
      refine lv_iload_n hx hb dX6_flow_29 rfl (lv_at hl 0 rfl) ?_
      obtain ⟨u5, q6, h⟩ := tf_gbind h
      refine tf_callVv (rest := []) ⟨hx, hb, hml, hown, hts⟩ hK hN hI (kX_X5_keep l D ad cI cZ _ _ _ _ q6) (cwV 2 hts gX6_flow_X5_keep rfl rfl rfl (by decide +kernel) ⟨Nat.le_of_ble_eq_true rfl, Nat.le_of_ble_eq_true rfl⟩) 5 5 (tf_xat_5 ad cI cZ _) rfl rfl hl.1 rfl (Nat.le_of_ble_eq_true rfl) dX6_flow_30 (fun H locs hI => ?_)
      refine lv_iload_n hx hb dX6_flow_33 rfl (lv_at hl 0 rfl) ?_
      refine lv_iconst (v := -1) hx hb dX6_flow_34 (by decide +kernel) ?_
      refine lv_icmp_eq (tgt := 41) hx hb dX6_flow_35 (by decide) (fun c7 => ?_) (fun c7 => ?_)
      · replace h := tf_pos c7 h
        obtain ⟨v8, ev8, h⟩ := tf_glet h
        refine lv_iinc (v := v8) (lv' := [(2, .int v8), (3, .int v4), (0, .ref (ad 0)), (1, .int y1)]) hx hb dX6_flow_41 hl (k := 3) rfl (by rw [ev8]; rfl) (by decide) rfl (fun ls hl => ?_)
        refine lv_goto (tgt := 4) hx hb dX6_flow_44 (by decide) ?_
        exact ih _ _ _ _ _ _ h hI (lv_sub hl [2, 3, 0] rfl)
      replace h := tf_neg c7 h
      obtain ⟨v9, ev9, h⟩ := tf_glet h
      refine lv_iinc (v := v9) (lv' := [(1, .int v9), (3, .int v4), (0, .ref (ad 0)), (2, .int y2)]) hx hb dX6_flow_38 hl (k := 2) rfl (by rw [ev9]; rfl) (by decide) rfl (fun ls hl => ?_)
      obtain ⟨v10, ev10, h⟩ := tf_glet h
      refine lv_iinc (v := v10) (lv' := [(2, .int v10), (1, .int v9), (3, .int v4), (0, .ref (ad 0))]) hx hb dX6_flow_41 hl (k := 3) rfl (by rw [ev10]; rfl) (by decide) rfl (fun ls hl => ?_)
      refine lv_goto (tgt := 4) hx hb dX6_flow_44 (by decide) ?_
      exact ih _ _ _ _ _ _ h hI (lv_sub hl [3, 1, 0] rfl)
  unfold fX6_flow at h
  refine lv_iconst (v := 0) hx hb dX6_flow_0 (by decide +kernel) ?_
  refine lv_istore_n (lv' := [(1, .int (0 : Int32)), (0, .ref (ad 0))]) hx hb dX6_flow_1 rfl hl (by decide) rfl (fun ls hl => ?_)
  refine lv_iconst (v := 0) hx hb dX6_flow_2 (by decide +kernel) ?_
  refine lv_istore_n (lv' := [(2, .int (0 : Int32)), (1, .int (0 : Int32)), (0, .ref (ad 0))]) hx hb dX6_flow_3 rfl hl (by decide) rfl (fun ls hl => ?_)
  exact j4  _ _ _ _ _ _ _ h hI (lv_sub hl [2, 1, 0] rfl)

set_option maxHeartbeats 4000000 in
set_option maxRecDepth 100000 in
theorem kX_X6_comes (l : Launch) (D : va_G) (ad : Nat → Nat) (cI cZ : ClassId) (σ : tf_S) (x1 : Int32) (z : Int32 × tf_S) (h : fX6_comes σ x1 = some z) : tf_C l D (tf_wx ad cI cZ) [(cI, .int), (cZ, .boolean)] tf_nest yX6_comes wsX6_comes ({ frames := 1, cells := 0, slots := 0, locals := 21 }) [.ref (ad 0), .int x1] σ z := by
  intro sz
  refine Met.ofW (cc := cX6_comes) (maxL := 2) (ret := (some .int)) (by decide) rfl ?_
  intro p e s m args below meth c s₁ B hml hv
  obtain ⟨rfl, hsz, hP, hK, hN, hD0⟩ := hv
  have hx := B.exec
  have hb := B.bytes
  have hr := B.returns
  have hts := atoms_spec (ws := wsX6_comes) B.pre
  have hown : s.vm.findClass RX6 = some m.cls := findClass_of_methodNamed B.named
  have hlocks := B.notSynchronized
  subst hsz
  have hI := tf_start (D := D) (tf_x_ad ad cI cZ) hP hD0
  have hl := lv_entry ([.ref (ad 0), .int x1]) (n := 2) (Nat.le_of_ble_eq_true rfl)
  rw [lg_entry_eq]
  generalize (lg_sl ([.ref (ad 0), .int x1]) ++ List.replicate (2 - (lg_sl ([.ref (ad 0), .int x1])).length) Slot.unset).toArray = ls at hl ⊢
  have hl : lv_has ls 2 [(0, .ref (ad 0)), (1, .int x1)] := hl
  have hn_X2 : ∀ w ∈ u_ws RX2 TX2 11, w ∈ wsX6_comes := by decide +kernel
  have hn_X6 : ∀ w ∈ u_ws RX6 TX6 5, w ∈ wsX6_comes := by decide +kernel
  have hf_33 := hts (.fieldLink RX6 33 "TypeFlow" "operators" "LTypeFlow$Operators;") (by decide +kernel)
  have hf_112 := hts (.fieldLink RX6 112 "TypeFlow$Operators" "type" "[I") (by decide +kernel)
  unfold fX6_comes at h
  refine lv_aload_n hx hb dX6_comes_0 rfl (lv_at hl 0 rfl) ?_
  refine tf_get (C := RX6) (T := TX6) (N := 5) hx hb hts hn_X6 hown hK hI 0 (tf_xat_0 ad cI cZ _) rfl 3 (by decide) hf_33 rfl rfl dX6_comes_1 ?_
  refine lv_iload_n hx hb dX6_comes_4 rfl (lv_at hl 1 rfl) ?_
  obtain ⟨u1, q2, h⟩ := tf_gbind h
  refine tf_callV (rest := []) ⟨hx, hb, hml, hown, hts⟩ hK hN hI (kX_X2_has l D ad cI cZ _ _ _ q2) (cwV 1 hts gX6_comes_X2_has rfl rfl rfl (by decide +kernel) ⟨Nat.le_of_ble_eq_true rfl, Nat.le_of_ble_eq_true rfl⟩) 4 2 (tf_xat_4 ad cI cZ _) rfl rfl hl.1 rfl (Nat.le_of_ble_eq_true rfl) dX6_comes_5 (fun H locs hI => ?_)
  refine lv_if_eq (tgt := 23) hx hb dX6_comes_8 (by decide) (fun c3 => ?_) (fun c3 => ?_)
  · replace h := tf_pos c3 h
    refine lv_bipush (v := -2) hx hb dX6_comes_23 (by decide +kernel) ?_
    exact tf_iret hx hb hr hI h dX6_comes_25 hlocks
  replace h := tf_neg c3 h
  refine lv_aload_n hx hb dX6_comes_11 rfl (lv_at hl 0 rfl) ?_
  refine tf_get (C := RX6) (T := TX6) (N := 5) hx hb hts hn_X6 hown hK hI 0 (tf_xat_0 ad cI cZ _) rfl 3 (by decide) hf_33 rfl rfl dX6_comes_12 ?_
  refine tf_get (C := RX2) (T := TX2) (N := 11) hx hb hts hn_X2 hown hK hI 4 (tf_xat_4 ad cI cZ _) rfl 7 (by decide) hf_112 rfl rfl dX6_comes_15 ?_
  refine lv_iload_n hx hb dX6_comes_18 rfl (lv_at hl 1 rfl) ?_
  obtain ⟨b4, h⟩ := tf_gin h
  refine va_iald hx hb hK hI.1 27 0 (tf_xat_27 ad cI cZ _) rfl b4 dX6_comes_19 ?_
  refine lv_goto (tgt := 25) hx hb dX6_comes_20 (by decide) ?_
  exact tf_iret hx hb hr hI h dX6_comes_25 hlocks

set_option maxHeartbeats 4000000 in
set_option maxRecDepth 100000 in
theorem kX_X6_reason (l : Launch) (D : va_G) (ad : Nat → Nat) (cI cZ : ClassId) (σ : tf_S) (x1 : Int32) (z : Int32 × tf_S) (h : fX6_reason σ x1 = some z) : tf_C l D (tf_wx ad cI cZ) [(cI, .int), (cZ, .boolean)] tf_nest yX6_reason wsX6_reason ({ frames := 1, cells := 0, slots := 0, locals := 21 }) [.ref (ad 0), .int x1] σ z := by
  intro sz
  refine Met.ofW (cc := cX6_reason) (maxL := 2) (ret := (some .int)) (by decide) rfl ?_
  intro p e s m args below meth c s₁ B hml hv
  obtain ⟨rfl, hsz, hP, hK, hN, hD0⟩ := hv
  have hx := B.exec
  have hb := B.bytes
  have hr := B.returns
  have hts := atoms_spec (ws := wsX6_reason) B.pre
  have hown : s.vm.findClass RX6 = some m.cls := findClass_of_methodNamed B.named
  have hlocks := B.notSynchronized
  subst hsz
  have hI := tf_start (D := D) (tf_x_ad ad cI cZ) hP hD0
  have hl := lv_entry ([.ref (ad 0), .int x1]) (n := 2) (Nat.le_of_ble_eq_true rfl)
  rw [lg_entry_eq]
  generalize (lg_sl ([.ref (ad 0), .int x1]) ++ List.replicate (2 - (lg_sl ([.ref (ad 0), .int x1])).length) Slot.unset).toArray = ls at hl ⊢
  have hl : lv_has ls 2 [(0, .ref (ad 0)), (1, .int x1)] := hl
  have hn_X2 : ∀ w ∈ u_ws RX2 TX2 11, w ∈ wsX6_reason := by decide +kernel
  have hn_X6 : ∀ w ∈ u_ws RX6 TX6 5, w ∈ wsX6_reason := by decide +kernel
  have hf_33 := hts (.fieldLink RX6 33 "TypeFlow" "operators" "LTypeFlow$Operators;") (by decide +kernel)
  have hf_115 := hts (.fieldLink RX6 115 "TypeFlow$Operators" "fault" "[I") (by decide +kernel)
  unfold fX6_reason at h
  refine lv_aload_n hx hb dX6_reason_0 rfl (lv_at hl 0 rfl) ?_
  refine tf_get (C := RX6) (T := TX6) (N := 5) hx hb hts hn_X6 hown hK hI 0 (tf_xat_0 ad cI cZ _) rfl 3 (by decide) hf_33 rfl rfl dX6_reason_1 ?_
  refine lv_iload_n hx hb dX6_reason_4 rfl (lv_at hl 1 rfl) ?_
  obtain ⟨u1, q2, h⟩ := tf_gbind h
  refine tf_callV (rest := []) ⟨hx, hb, hml, hown, hts⟩ hK hN hI (kX_X2_has l D ad cI cZ _ _ _ q2) (cwV 1 hts gX6_reason_X2_has rfl rfl rfl (by decide +kernel) ⟨Nat.le_of_ble_eq_true rfl, Nat.le_of_ble_eq_true rfl⟩) 4 2 (tf_xat_4 ad cI cZ _) rfl rfl hl.1 rfl (Nat.le_of_ble_eq_true rfl) dX6_reason_5 (fun H locs hI => ?_)
  refine lv_if_eq (tgt := 23) hx hb dX6_reason_8 (by decide) (fun c3 => ?_) (fun c3 => ?_)
  · replace h := tf_pos c3 h
    refine lv_bipush (v := -2) hx hb dX6_reason_23 (by decide +kernel) ?_
    exact tf_iret hx hb hr hI h dX6_reason_25 hlocks
  replace h := tf_neg c3 h
  refine lv_aload_n hx hb dX6_reason_11 rfl (lv_at hl 0 rfl) ?_
  refine tf_get (C := RX6) (T := TX6) (N := 5) hx hb hts hn_X6 hown hK hI 0 (tf_xat_0 ad cI cZ _) rfl 3 (by decide) hf_33 rfl rfl dX6_reason_12 ?_
  refine tf_get (C := RX2) (T := TX2) (N := 11) hx hb hts hn_X2 hown hK hI 4 (tf_xat_4 ad cI cZ _) rfl 8 (by decide) hf_115 rfl rfl dX6_reason_15 ?_
  refine lv_iload_n hx hb dX6_reason_18 rfl (lv_at hl 1 rfl) ?_
  obtain ⟨b4, h⟩ := tf_gin h
  refine va_iald hx hb hK hI.1 28 0 (tf_xat_28 ad cI cZ _) rfl b4 dX6_reason_19 ?_
  refine lv_goto (tgt := 25) hx hb dX6_reason_20 (by decide) ?_
  exact tf_iret hx hb hr hI h dX6_reason_25 hlocks

set_option maxHeartbeats 4000000 in
set_option maxRecDepth 100000 in
theorem kX_X6_mayFail (l : Launch) (D : va_G) (ad : Nat → Nat) (cI cZ : ClassId) (σ : tf_S) (x1 : Int32) (z : Int32 × tf_S) (h : fX6_mayFail σ x1 = some z) : tf_C l D (tf_wx ad cI cZ) [(cI, .int), (cZ, .boolean)] tf_nest yX6_mayFail wsX6_mayFail ({ frames := 1, cells := 0, slots := 0, locals := 21 }) [.ref (ad 0), .int x1] σ z := by
  intro sz
  refine Met.ofW (cc := cX6_mayFail) (maxL := 2) (ret := (some .int)) (by decide) rfl ?_
  intro p e s m args below meth c s₁ B hml hv
  obtain ⟨rfl, hsz, hP, hK, hN, hD0⟩ := hv
  have hx := B.exec
  have hb := B.bytes
  have hr := B.returns
  have hts := atoms_spec (ws := wsX6_mayFail) B.pre
  have hown : s.vm.findClass RX6 = some m.cls := findClass_of_methodNamed B.named
  have hlocks := B.notSynchronized
  subst hsz
  have hI := tf_start (D := D) (tf_x_ad ad cI cZ) hP hD0
  have hl := lv_entry ([.ref (ad 0), .int x1]) (n := 2) (Nat.le_of_ble_eq_true rfl)
  rw [lg_entry_eq]
  generalize (lg_sl ([.ref (ad 0), .int x1]) ++ List.replicate (2 - (lg_sl ([.ref (ad 0), .int x1])).length) Slot.unset).toArray = ls at hl ⊢
  have hl : lv_has ls 2 [(0, .ref (ad 0)), (1, .int x1)] := hl
  have hn_X2 : ∀ w ∈ u_ws RX2 TX2 11, w ∈ wsX6_mayFail := by decide +kernel
  have hn_X6 : ∀ w ∈ u_ws RX6 TX6 5, w ∈ wsX6_mayFail := by decide +kernel
  have hf_33 := hts (.fieldLink RX6 33 "TypeFlow" "operators" "LTypeFlow$Operators;") (by decide +kernel)
  have hf_118 := hts (.fieldLink RX6 118 "TypeFlow$Operators" "risky" "[Z") (by decide +kernel)
  unfold fX6_mayFail at h
  refine lv_aload_n hx hb dX6_mayFail_0 rfl (lv_at hl 0 rfl) ?_
  refine tf_get (C := RX6) (T := TX6) (N := 5) hx hb hts hn_X6 hown hK hI 0 (tf_xat_0 ad cI cZ _) rfl 3 (by decide) hf_33 rfl rfl dX6_mayFail_1 ?_
  refine lv_iload_n hx hb dX6_mayFail_4 rfl (lv_at hl 1 rfl) ?_
  obtain ⟨u1, q2, h⟩ := tf_gbind h
  refine tf_callV (rest := []) ⟨hx, hb, hml, hown, hts⟩ hK hN hI (kX_X2_has l D ad cI cZ _ _ _ q2) (cwV 1 hts gX6_mayFail_X2_has rfl rfl rfl (by decide +kernel) ⟨Nat.le_of_ble_eq_true rfl, Nat.le_of_ble_eq_true rfl⟩) 4 2 (tf_xat_4 ad cI cZ _) rfl rfl hl.1 rfl (Nat.le_of_ble_eq_true rfl) dX6_mayFail_5 (fun H locs hI => ?_)
  refine lv_if_ne (tgt := 14) hx hb dX6_mayFail_8 (by decide) (fun c3 => ?_) (fun c3 => ?_)
  · replace h := tf_neg c3 h
    refine lv_aload_n hx hb dX6_mayFail_14 rfl (lv_at hl 0 rfl) ?_
    refine tf_get (C := RX6) (T := TX6) (N := 5) hx hb hts hn_X6 hown hK hI 0 (tf_xat_0 ad cI cZ _) rfl 3 (by decide) hf_33 rfl rfl dX6_mayFail_15 ?_
    refine tf_get (C := RX2) (T := TX2) (N := 11) hx hb hts hn_X2 hown hK hI 4 (tf_xat_4 ad cI cZ _) rfl 9 (by decide) hf_118 rfl rfl dX6_mayFail_18 ?_
    refine lv_iload_n hx hb dX6_mayFail_21 rfl (lv_at hl 1 rfl) ?_
    obtain ⟨b4, h⟩ := tf_gin h
    refine va_zald hx hb hK hI.1 29 1 (tf_xat_29 ad cI cZ _) rfl b4 dX6_mayFail_22 ?_
    refine lv_if_eq (tgt := 30) hx hb dX6_mayFail_23 (by decide) (fun c5 => ?_) (fun c5 => ?_)
    · replace h := tf_pos c5 h
      refine lv_iconst (v := 0) hx hb dX6_mayFail_30 (by decide +kernel) ?_
      exact tf_iret hx hb hr hI h dX6_mayFail_31 hlocks
    replace h := tf_neg c5 h
    refine lv_iconst (v := 1) hx hb dX6_mayFail_26 (by decide +kernel) ?_
    refine lv_goto (tgt := 31) hx hb dX6_mayFail_27 (by decide) ?_
    exact tf_iret hx hb hr hI h dX6_mayFail_31 hlocks
  replace h := tf_pos c3 h
  refine lv_bipush (v := -2) hx hb dX6_mayFail_11 (by decide +kernel) ?_
  exact tf_iret hx hb hr hI h dX6_mayFail_13 hlocks

set_option maxHeartbeats 4000000 in
set_option maxRecDepth 100000 in
theorem kX_X6_cast (l : Launch) (D : va_G) (ad : Nat → Nat) (cI cZ : ClassId) (σ : tf_S) (x1 : Int32) (z : Int32 × tf_S) (h : fX6_cast σ x1 = some z) : tf_C l D (tf_wx ad cI cZ) [(cI, .int), (cZ, .boolean)] tf_nest yX6_cast wsX6_cast ({ frames := 0, cells := 0, slots := 0, locals := 0 }) [.ref (ad 0), .int x1] σ z := by
  intro sz
  refine Met.ofW (cc := cX6_cast) (maxL := 4) (ret := (some .int)) (by decide) rfl ?_
  intro p e s m args below meth c s₁ B hml hv
  obtain ⟨rfl, hsz, hP, hK, hN, hD0⟩ := hv
  have hx := B.exec
  have hb := B.bytes
  have hr := B.returns
  have hts := atoms_spec (ws := wsX6_cast) B.pre
  have hown : s.vm.findClass RX6 = some m.cls := findClass_of_methodNamed B.named
  have hlocks := B.notSynchronized
  subst hsz
  have hI := tf_start (D := D) (tf_x_ad ad cI cZ) hP hD0
  have hl := lv_entry ([.ref (ad 0), .int x1]) (n := 4) (Nat.le_of_ble_eq_true rfl)
  rw [lg_entry_eq]
  generalize (lg_sl ([.ref (ad 0), .int x1]) ++ List.replicate (4 - (lg_sl ([.ref (ad 0), .int x1])).length) Slot.unset).toArray = ls at hl ⊢
  have hl : lv_has ls 4 [(0, .ref (ad 0)), (1, .int x1)] := hl
  have hn_X2 : ∀ w ∈ u_ws RX2 TX2 11, w ∈ wsX6_cast := by decide +kernel
  have hn_X6 : ∀ w ∈ u_ws RX6 TX6 5, w ∈ wsX6_cast := by decide +kernel
  have hf_33 := hts (.fieldLink RX6 33 "TypeFlow" "operators" "LTypeFlow$Operators;") (by decide +kernel)
  have hf_99 := hts (.fieldLink RX6 99 "TypeFlow$Operators" "size" "I") (by decide +kernel)
  have hf_118 := hts (.fieldLink RX6 118 "TypeFlow$Operators" "risky" "[Z") (by decide +kernel)
  have j4 : ∀ n : Nat, ∀ (σ : tf_S) (y2 y3 : Int32) (H : Heap) (locs : List Loc) (ls : Array Slot), fX6_cast_4 x1 n σ y2 y3 = some z → tf_I D (tf_wx ad cI cZ) s.heap σ H locs → lv_has ls 4 [(0, .ref (ad 0)), (1, .int x1), (2, .int y2), (3, .int y3)] → W p l e (headSpec wsX6_cast ({ frames := 0, cells := 0, slots := 0, locals := 0 })).room s m ([.ref (ad 0), .int x1] : List Value).toArray below meth c H locs 0 0 (tf_Q below D (tf_wx ad cI cZ) z ([.ref (ad 0), .int x1] : List Value).toArray s) (F0 m 4 ls []) := by
    intro n
    induction n with
    | zero =>
      intro σ y2 y3 H locs ls h
      rw [fX6_cast_4] at h
      cases h
    | succ n ih =>
      intro σ y2 y3 H locs ls h hI hl
      rw [fX6_cast_4] at h
      refine lv_iload_n hx hb dX6_cast_4 rfl (lv_at hl 3 rfl) ?_
      refine lv_aload_n hx hb dX6_cast_5 rfl (lv_at hl 0 rfl) ?_
      refine tf_get (C := RX6) (T := TX6) (N := 5) hx hb hts hn_X6 hown hK hI 0 (tf_xat_0 ad cI cZ _) rfl 3 (by decide) hf_33 rfl rfl dX6_cast_6 ?_
      refine tf_get (C := RX2) (T := TX2) (N := 11) hx hb hts hn_X2 hown hK hI 4 (tf_xat_4 ad cI cZ _) rfl 0 (by decide) hf_99 rfl rfl dX6_cast_9 ?_
      refine lv_icmp_ge (tgt := 43) hx hb dX6_cast_12 (by decide) (fun c1 => ?_) (fun c1 => ?_)
      · replace h := tf_pos c1 h
        refine lv_iconst (v := -1) hx hb dX6_cast_43 (by decide +kernel) ?_
        exact tf_iret hx hb hr hI h dX6_cast_44 hlocks
      replace h := tf_neg c1 h
      refine lv_aload_n hx hb dX6_cast_15 rfl (lv_at hl 0 rfl) ?_
      refine tf_get (C := RX6) (T := TX6) (N := 5) hx hb hts hn_X6 hown hK hI 0 (tf_xat_0 ad cI cZ _) rfl 3 (by decide) hf_33 rfl rfl dX6_cast_16 ?_
      refine tf_get (C := RX2) (T := TX2) (N := 11) hx hb hts hn_X2 hown hK hI 4 (tf_xat_4 ad cI cZ _) rfl 9 (by decide) hf_118 rfl rfl dX6_cast_19 ?_
      refine lv_iload_n hx hb dX6_cast_22 rfl (lv_at hl 3 rfl) ?_
      obtain ⟨b2, h⟩ := tf_gin h
      refine va_zald hx hb hK hI.1 29 1 (tf_xat_29 ad cI cZ _) rfl b2 dX6_cast_23 ?_
      refine lv_if_eq (tgt := 37) hx hb dX6_cast_24 (by decide) (fun c3 => ?_) (fun c3 => ?_)
      · replace h := tf_pos c3 h
        obtain ⟨v4, ev4, h⟩ := tf_glet h
        refine lv_iinc (v := v4) (lv' := [(3, .int v4), (0, .ref (ad 0)), (1, .int x1), (2, .int y2)]) hx hb dX6_cast_37 hl (k := 3) rfl (by rw [ev4]; rfl) (by decide) rfl (fun ls hl => ?_)
        refine lv_goto (tgt := 4) hx hb dX6_cast_40 (by decide) ?_
        exact ih _ _ _ _ _ _ h hI (lv_sub hl [1, 2, 3, 0] rfl)
      replace h := tf_neg c3 h
      refine lv_iload_n hx hb dX6_cast_27 rfl (lv_at hl 2 rfl) ?_
      refine lv_iload_n hx hb dX6_cast_28 rfl (lv_at hl 1 rfl) ?_
      refine lv_icmp_ne (tgt := 34) hx hb dX6_cast_29 (by decide) (fun c5 => ?_) (fun c5 => ?_)
      · replace h := tf_neg c5 h
        obtain ⟨v6, ev6, h⟩ := tf_glet h
        refine lv_iinc (v := v6) (lv' := [(2, .int v6), (0, .ref (ad 0)), (1, .int x1), (3, .int y3)]) hx hb dX6_cast_34 hl (k := 2) rfl (by rw [ev6]; rfl) (by decide) rfl (fun ls hl => ?_)
        obtain ⟨v7, ev7, h⟩ := tf_glet h
        refine lv_iinc (v := v7) (lv' := [(3, .int v7), (2, .int v6), (0, .ref (ad 0)), (1, .int x1)]) hx hb dX6_cast_37 hl (k := 3) rfl (by rw [ev7]; rfl) (by decide) rfl (fun ls hl => ?_)
        refine lv_goto (tgt := 4) hx hb dX6_cast_40 (by decide) ?_
        exact ih _ _ _ _ _ _ h hI (lv_sub hl [2, 3, 1, 0] rfl)
      replace h := tf_pos c5 h
      refine lv_iload_n hx hb dX6_cast_32 rfl (lv_at hl 3 rfl) ?_
      exact tf_iret hx hb hr hI h dX6_cast_33 hlocks
  unfold fX6_cast at h
  refine lv_iconst (v := 0) hx hb dX6_cast_0 (by decide +kernel) ?_
  refine lv_istore_n (lv' := [(2, .int (0 : Int32)), (0, .ref (ad 0)), (1, .int x1)]) hx hb dX6_cast_1 rfl hl (by decide) rfl (fun ls hl => ?_)
  refine lv_iconst (v := 0) hx hb dX6_cast_2 (by decide +kernel) ?_
  refine lv_istore_n (lv' := [(3, .int (0 : Int32)), (2, .int (0 : Int32)), (0, .ref (ad 0)), (1, .int x1)]) hx hb dX6_cast_3 rfl hl (by decide) rfl (fun ls hl => ?_)
  exact j4  _ _ _ _ _ _ _ h hI (lv_sub hl [2, 3, 1, 0] rfl)

set_option maxHeartbeats 4000000 in
set_option maxRecDepth 100000 in
theorem kX_X6_boundTo (l : Launch) (D : va_G) (ad : Nat → Nat) (cI cZ : ClassId) (σ : tf_S) (x1 x2 : Int32) (z : Int32 × tf_S) (h : fX6_boundTo σ x1 x2 = some z) : tf_C l D (tf_wx ad cI cZ) [(cI, .int), (cZ, .boolean)] tf_nest yX6_boundTo wsX6_boundTo ({ frames := 1, cells := 0, slots := 0, locals := 21 }) [.ref (ad 0), .int x1, .int x2] σ z := by
  intro sz
  refine Met.ofW (cc := cX6_boundTo) (maxL := 3) (ret := (some .int)) (by decide) rfl ?_
  intro p e s m args below meth c s₁ B hml hv
  obtain ⟨rfl, hsz, hP, hK, hN, hD0⟩ := hv
  have hx := B.exec
  have hb := B.bytes
  have hr := B.returns
  have hts := atoms_spec (ws := wsX6_boundTo) B.pre
  have hown : s.vm.findClass RX6 = some m.cls := findClass_of_methodNamed B.named
  have hlocks := B.notSynchronized
  subst hsz
  have hI := tf_start (D := D) (tf_x_ad ad cI cZ) hP hD0
  have hl := lv_entry ([.ref (ad 0), .int x1, .int x2]) (n := 3) (Nat.le_of_ble_eq_true rfl)
  rw [lg_entry_eq]
  generalize (lg_sl ([.ref (ad 0), .int x1, .int x2]) ++ List.replicate (3 - (lg_sl ([.ref (ad 0), .int x1, .int x2])).length) Slot.unset).toArray = ls at hl ⊢
  have hl : lv_has ls 3 [(0, .ref (ad 0)), (1, .int x1), (2, .int x2)] := hl
  have hn_X2 : ∀ w ∈ u_ws RX2 TX2 11, w ∈ wsX6_boundTo := by decide +kernel
  have hn_X6 : ∀ w ∈ u_ws RX6 TX6 5, w ∈ wsX6_boundTo := by decide +kernel
  have hf_33 := hts (.fieldLink RX6 33 "TypeFlow" "operators" "LTypeFlow$Operators;") (by decide +kernel)
  have hf_122 := hts (.fieldLink RX6 122 "TypeFlow$Operators" "bindings" "[I") (by decide +kernel)
  unfold fX6_boundTo at h
  refine lv_aload_n hx hb dX6_boundTo_0 rfl (lv_at hl 0 rfl) ?_
  refine tf_get (C := RX6) (T := TX6) (N := 5) hx hb hts hn_X6 hown hK hI 0 (tf_xat_0 ad cI cZ _) rfl 3 (by decide) hf_33 rfl rfl dX6_boundTo_1 ?_
  refine lv_iload_n hx hb dX6_boundTo_4 rfl (lv_at hl 1 rfl) ?_
  obtain ⟨u1, q2, h⟩ := tf_gbind h
  refine tf_callV (rest := []) ⟨hx, hb, hml, hown, hts⟩ hK hN hI (kX_X2_has l D ad cI cZ _ _ _ q2) (cwV 1 hts gX6_boundTo_X2_has rfl rfl rfl (by decide +kernel) ⟨Nat.le_of_ble_eq_true rfl, Nat.le_of_ble_eq_true rfl⟩) 4 2 (tf_xat_4 ad cI cZ _) rfl rfl hl.1 rfl (Nat.le_of_ble_eq_true rfl) dX6_boundTo_5 (fun H locs hI => ?_)
  refine lv_if_eq (tgt := 18) hx hb dX6_boundTo_8 (by decide) (fun c3 => ?_) (fun c3 => ?_)
  · replace h := tf_pos c3 h
    refine lv_bipush (v := -2) hx hb dX6_boundTo_18 (by decide +kernel) ?_
    exact tf_iret hx hb hr hI h dX6_boundTo_20 hlocks
  replace h := tf_neg c3 h
  refine lv_iload_n hx hb dX6_boundTo_11 rfl (lv_at hl 2 rfl) ?_
  obtain ⟨u4, q5, h⟩ := tf_gbind h
  refine tf_callS (rest := []) ⟨hx, hb, hml, hown, hts⟩ hK hN hI (kX_X6_isVariableNumber l D ad cI cZ _ _ _ q5) (va_cwS 1 hts gX6_boundTo_X6_isVariableNumber rfl rfl rfl (by decide +kernel) ⟨Nat.le_of_ble_eq_true rfl, Nat.le_of_ble_eq_true rfl⟩) rfl hl.1 rfl (Nat.le_of_ble_eq_true rfl) dX6_boundTo_12 (fun H locs hI => ?_)
  refine lv_if_ne (tgt := 21) hx hb dX6_boundTo_15 (by decide) (fun c6 => ?_) (fun c6 => ?_)
  · replace h := tf_neg c6 h
    refine lv_aload_n hx hb dX6_boundTo_21 rfl (lv_at hl 0 rfl) ?_
    refine tf_get (C := RX6) (T := TX6) (N := 5) hx hb hts hn_X6 hown hK hI 0 (tf_xat_0 ad cI cZ _) rfl 3 (by decide) hf_33 rfl rfl dX6_boundTo_22 ?_
    refine tf_get (C := RX2) (T := TX2) (N := 11) hx hb hts hn_X2 hown hK hI 4 (tf_xat_4 ad cI cZ _) rfl 10 (by decide) hf_122 rfl rfl dX6_boundTo_25 ?_
    refine lv_iload_n hx hb dX6_boundTo_28 rfl (lv_at hl 1 rfl) ?_
    refine lv_iconst (v := 2) hx hb dX6_boundTo_29 (by decide +kernel) ?_
    refine lv_imul hx hb dX6_boundTo_30 ?_
    refine lv_iload_n hx hb dX6_boundTo_31 rfl (lv_at hl 2 rfl) ?_
    refine lv_iadd hx hb dX6_boundTo_32 ?_
    obtain ⟨b7, h⟩ := tf_gin h
    refine va_iald hx hb hK hI.1 30 0 (tf_xat_30 ad cI cZ _) rfl b7 dX6_boundTo_33 ?_
    exact tf_iret hx hb hr hI h dX6_boundTo_34 hlocks
  replace h := tf_pos c6 h
  refine lv_bipush (v := -2) hx hb dX6_boundTo_18 (by decide +kernel) ?_
  exact tf_iret hx hb hr hI h dX6_boundTo_20 hlocks

set_option maxHeartbeats 4000000 in
set_option maxRecDepth 100000 in
theorem kX_X6_goes (l : Launch) (D : va_G) (ad : Nat → Nat) (cI cZ : ClassId) (σ : tf_S) (x1 x2 : Int32) (z : Int32 × tf_S) (h : fX6_goes σ x1 x2 = some z) : tf_C l D (tf_wx ad cI cZ) [(cI, .int), (cZ, .boolean)] tf_nest yX6_goes wsX6_goes ({ frames := 4, cells := 0, slots := 0, locals := 99 }) [.ref (ad 0), .int x1, .int x2] σ z := by
  intro sz
  refine Met.ofW (cc := cX6_goes) (maxL := 3) (ret := (some .int)) (by decide) rfl ?_
  intro p e s m args below meth c s₁ B hml hv
  obtain ⟨rfl, hsz, hP, hK, hN, hD0⟩ := hv
  have hx := B.exec
  have hb := B.bytes
  have hr := B.returns
  have hts := atoms_spec (ws := wsX6_goes) B.pre
  have hown : s.vm.findClass RX6 = some m.cls := findClass_of_methodNamed B.named
  have hlocks := B.notSynchronized
  subst hsz
  have hI := tf_start (D := D) (tf_x_ad ad cI cZ) hP hD0
  have hl := lv_entry ([.ref (ad 0), .int x1, .int x2]) (n := 3) (Nat.le_of_ble_eq_true rfl)
  rw [lg_entry_eq]
  generalize (lg_sl ([.ref (ad 0), .int x1, .int x2]) ++ List.replicate (3 - (lg_sl ([.ref (ad 0), .int x1, .int x2])).length) Slot.unset).toArray = ls at hl ⊢
  have hl : lv_has ls 3 [(0, .ref (ad 0)), (1, .int x1), (2, .int x2)] := hl
  have hn_X6 : ∀ w ∈ u_ws RX6 TX6 5, w ∈ wsX6_goes := by decide +kernel
  have hf_10 := hts (.fieldLink RX6 10 "TypeFlow" "types" "LTypeFlow$Types;") (by decide +kernel)
  unfold fX6_goes at h
  refine lv_aload_n hx hb dX6_goes_0 rfl (lv_at hl 0 rfl) ?_
  refine tf_get (C := RX6) (T := TX6) (N := 5) hx hb hts hn_X6 hown hK hI 0 (tf_xat_0 ad cI cZ _) rfl 0 (by decide) hf_10 rfl rfl dX6_goes_1 ?_
  refine lv_iload_n hx hb dX6_goes_4 rfl (lv_at hl 1 rfl) ?_
  obtain ⟨u1, q2, h⟩ := tf_gbind h
  refine tf_callV (rest := []) ⟨hx, hb, hml, hown, hts⟩ hK hN hI (kX_X4_isClosed l D ad cI cZ _ _ _ q2) (cwV 1 hts gX6_goes_X4_isClosed rfl rfl rfl (by decide +kernel) ⟨Nat.le_of_ble_eq_true rfl, Nat.le_of_ble_eq_true rfl⟩) 1 4 (tf_xat_1 ad cI cZ _) rfl rfl hl.1 rfl (Nat.le_of_ble_eq_true rfl) dX6_goes_5 (fun H locs hI => ?_)
  refine lv_if_eq (tgt := 22) hx hb dX6_goes_8 (by decide) (fun c3 => ?_) (fun c3 => ?_)
  · replace h := tf_pos c3 h
    refine lv_bipush (v := -2) hx hb dX6_goes_22 (by decide +kernel) ?_
    exact tf_iret hx hb hr hI h dX6_goes_24 hlocks
  replace h := tf_neg c3 h
  refine lv_aload_n hx hb dX6_goes_11 rfl (lv_at hl 0 rfl) ?_
  refine tf_get (C := RX6) (T := TX6) (N := 5) hx hb hts hn_X6 hown hK hI 0 (tf_xat_0 ad cI cZ _) rfl 0 (by decide) hf_10 rfl rfl dX6_goes_12 ?_
  refine lv_iload_n hx hb dX6_goes_15 rfl (lv_at hl 2 rfl) ?_
  obtain ⟨u4, q5, h⟩ := tf_gbind h
  refine tf_callV (rest := []) ⟨hx, hb, hml, hown, hts⟩ hK hN hI (kX_X4_isClosed l D ad cI cZ _ _ _ q5) (cwV 1 hts gX6_goes_X4_isClosed rfl rfl rfl (by decide +kernel) ⟨Nat.le_of_ble_eq_true rfl, Nat.le_of_ble_eq_true rfl⟩) 1 4 (tf_xat_1 ad cI cZ _) rfl rfl hl.1 rfl (Nat.le_of_ble_eq_true rfl) dX6_goes_16 (fun H locs hI => ?_)
  refine lv_if_ne (tgt := 25) hx hb dX6_goes_19 (by decide) (fun c6 => ?_) (fun c6 => ?_)
  · replace h := tf_neg c6 h
    refine lv_aload_n hx hb dX6_goes_25 rfl (lv_at hl 0 rfl) ?_
    refine tf_get (C := RX6) (T := TX6) (N := 5) hx hb hts hn_X6 hown hK hI 0 (tf_xat_0 ad cI cZ _) rfl 0 (by decide) hf_10 rfl rfl dX6_goes_26 ?_
    refine lv_iload_n hx hb dX6_goes_29 rfl (lv_at hl 1 rfl) ?_
    refine lv_iload_n hx hb dX6_goes_30 rfl (lv_at hl 2 rfl) ?_
    obtain ⟨u7, q8, h⟩ := tf_gbind h
    refine tf_callV (rest := []) ⟨hx, hb, hml, hown, hts⟩ hK hN hI (kX_X4_goesFor l D ad cI cZ _ _ _ _ q8) (cwV 2 hts gX6_goes_X4_goesFor rfl rfl rfl (by decide +kernel) ⟨Nat.le_of_ble_eq_true rfl, Nat.le_of_ble_eq_true rfl⟩) 1 4 (tf_xat_1 ad cI cZ _) rfl rfl hl.1 rfl (Nat.le_of_ble_eq_true rfl) dX6_goes_31 (fun H locs hI => ?_)
    exact tf_iret hx hb hr hI h dX6_goes_34 hlocks
  replace h := tf_pos c6 h
  refine lv_bipush (v := -2) hx hb dX6_goes_22 (by decide +kernel) ?_
  exact tf_iret hx hb hr hI h dX6_goes_24 hlocks

set_option maxHeartbeats 4000000 in
set_option maxRecDepth 100000 in
theorem kX_X6_common (l : Launch) (D : va_G) (ad : Nat → Nat) (cI cZ : ClassId) (σ : tf_S) (x1 x2 : Int32) (z : Int32 × tf_S) (h : fX6_common σ x1 x2 = some z) : tf_C l D (tf_wx ad cI cZ) [(cI, .int), (cZ, .boolean)] tf_nest yX6_common wsX6_common ({ frames := 4, cells := 0, slots := 0, locals := 102 }) [.ref (ad 0), .int x1, .int x2] σ z := by
  intro sz
  refine Met.ofW (cc := cX6_common) (maxL := 3) (ret := (some .int)) (by decide) rfl ?_
  intro p e s m args below meth c s₁ B hml hv
  obtain ⟨rfl, hsz, hP, hK, hN, hD0⟩ := hv
  have hx := B.exec
  have hb := B.bytes
  have hr := B.returns
  have hts := atoms_spec (ws := wsX6_common) B.pre
  have hown : s.vm.findClass RX6 = some m.cls := findClass_of_methodNamed B.named
  have hlocks := B.notSynchronized
  subst hsz
  have hI := tf_start (D := D) (tf_x_ad ad cI cZ) hP hD0
  have hl := lv_entry ([.ref (ad 0), .int x1, .int x2]) (n := 3) (Nat.le_of_ble_eq_true rfl)
  rw [lg_entry_eq]
  generalize (lg_sl ([.ref (ad 0), .int x1, .int x2]) ++ List.replicate (3 - (lg_sl ([.ref (ad 0), .int x1, .int x2])).length) Slot.unset).toArray = ls at hl ⊢
  have hl : lv_has ls 3 [(0, .ref (ad 0)), (1, .int x1), (2, .int x2)] := hl
  have hn_X6 : ∀ w ∈ u_ws RX6 TX6 5, w ∈ wsX6_common := by decide +kernel
  have hf_10 := hts (.fieldLink RX6 10 "TypeFlow" "types" "LTypeFlow$Types;") (by decide +kernel)
  unfold fX6_common at h
  refine lv_aload_n hx hb dX6_common_0 rfl (lv_at hl 0 rfl) ?_
  refine tf_get (C := RX6) (T := TX6) (N := 5) hx hb hts hn_X6 hown hK hI 0 (tf_xat_0 ad cI cZ _) rfl 0 (by decide) hf_10 rfl rfl dX6_common_1 ?_
  refine lv_iload_n hx hb dX6_common_4 rfl (lv_at hl 1 rfl) ?_
  obtain ⟨u1, q2, h⟩ := tf_gbind h
  refine tf_callV (rest := []) ⟨hx, hb, hml, hown, hts⟩ hK hN hI (kX_X4_isClosed l D ad cI cZ _ _ _ q2) (cwV 1 hts gX6_common_X4_isClosed rfl rfl rfl (by decide +kernel) ⟨Nat.le_of_ble_eq_true rfl, Nat.le_of_ble_eq_true rfl⟩) 1 4 (tf_xat_1 ad cI cZ _) rfl rfl hl.1 rfl (Nat.le_of_ble_eq_true rfl) dX6_common_5 (fun H locs hI => ?_)
  refine lv_if_eq (tgt := 22) hx hb dX6_common_8 (by decide) (fun c3 => ?_) (fun c3 => ?_)
  · replace h := tf_pos c3 h
    refine lv_bipush (v := -2) hx hb dX6_common_22 (by decide +kernel) ?_
    exact tf_iret hx hb hr hI h dX6_common_24 hlocks
  replace h := tf_neg c3 h
  refine lv_aload_n hx hb dX6_common_11 rfl (lv_at hl 0 rfl) ?_
  refine tf_get (C := RX6) (T := TX6) (N := 5) hx hb hts hn_X6 hown hK hI 0 (tf_xat_0 ad cI cZ _) rfl 0 (by decide) hf_10 rfl rfl dX6_common_12 ?_
  refine lv_iload_n hx hb dX6_common_15 rfl (lv_at hl 2 rfl) ?_
  obtain ⟨u4, q5, h⟩ := tf_gbind h
  refine tf_callV (rest := []) ⟨hx, hb, hml, hown, hts⟩ hK hN hI (kX_X4_isClosed l D ad cI cZ _ _ _ q5) (cwV 1 hts gX6_common_X4_isClosed rfl rfl rfl (by decide +kernel) ⟨Nat.le_of_ble_eq_true rfl, Nat.le_of_ble_eq_true rfl⟩) 1 4 (tf_xat_1 ad cI cZ _) rfl rfl hl.1 rfl (Nat.le_of_ble_eq_true rfl) dX6_common_16 (fun H locs hI => ?_)
  refine lv_if_ne (tgt := 25) hx hb dX6_common_19 (by decide) (fun c6 => ?_) (fun c6 => ?_)
  · replace h := tf_neg c6 h
    refine lv_aload_n hx hb dX6_common_25 rfl (lv_at hl 0 rfl) ?_
    refine tf_get (C := RX6) (T := TX6) (N := 5) hx hb hts hn_X6 hown hK hI 0 (tf_xat_0 ad cI cZ _) rfl 0 (by decide) hf_10 rfl rfl dX6_common_26 ?_
    refine lv_iload_n hx hb dX6_common_29 rfl (lv_at hl 1 rfl) ?_
    refine lv_iload_n hx hb dX6_common_30 rfl (lv_at hl 2 rfl) ?_
    obtain ⟨u7, q8, h⟩ := tf_gbind h
    refine tf_callV (rest := []) ⟨hx, hb, hml, hown, hts⟩ hK hN hI (kX_X4_commonOf l D ad cI cZ _ _ _ _ q8) (cwV 2 hts gX6_common_X4_commonOf rfl rfl rfl (by decide +kernel) ⟨Nat.le_of_ble_eq_true rfl, Nat.le_of_ble_eq_true rfl⟩) 1 4 (tf_xat_1 ad cI cZ _) rfl rfl hl.1 rfl (Nat.le_of_ble_eq_true rfl) dX6_common_31 (fun H locs hI => ?_)
    exact tf_iret hx hb hr hI h dX6_common_34 hlocks
  replace h := tf_pos c6 h
  refine lv_bipush (v := -2) hx hb dX6_common_22 (by decide +kernel) ?_
  exact tf_iret hx hb hr hI h dX6_common_24 hlocks

set_option maxHeartbeats 4000000 in
set_option maxRecDepth 100000 in
theorem kX_X6_seen (l : Launch) (D : va_G) (ad : Nat → Nat) (cI cZ : ClassId) (σ : tf_S) (x1 x2 : Int32) (z : Int32 × tf_S) (h : fX6_seen σ x1 x2 = some z) : tf_C l D (tf_wx ad cI cZ) [(cI, .int), (cZ, .boolean)] tf_nest yX6_seen wsX6_seen ({ frames := 3, cells := 0, slots := 0, locals := 76 }) [.ref (ad 0), .int x1, .int x2] σ z := by
  intro sz
  refine Met.ofW (cc := cX6_seen) (maxL := 3) (ret := (some .int)) (by decide) rfl ?_
  intro p e s m args below meth c s₁ B hml hv
  obtain ⟨rfl, hsz, hP, hK, hN, hD0⟩ := hv
  have hx := B.exec
  have hb := B.bytes
  have hr := B.returns
  have hts := atoms_spec (ws := wsX6_seen) B.pre
  have hown : s.vm.findClass RX6 = some m.cls := findClass_of_methodNamed B.named
  have hlocks := B.notSynchronized
  subst hsz
  have hI := tf_start (D := D) (tf_x_ad ad cI cZ) hP hD0
  have hl := lv_entry ([.ref (ad 0), .int x1, .int x2]) (n := 3) (Nat.le_of_ble_eq_true rfl)
  rw [lg_entry_eq]
  generalize (lg_sl ([.ref (ad 0), .int x1, .int x2]) ++ List.replicate (3 - (lg_sl ([.ref (ad 0), .int x1, .int x2])).length) Slot.unset).toArray = ls at hl ⊢
  have hl : lv_has ls 3 [(0, .ref (ad 0)), (1, .int x1), (2, .int x2)] := hl
  have hn_X6 : ∀ w ∈ u_ws RX6 TX6 5, w ∈ wsX6_seen := by decide +kernel
  have hf_10 := hts (.fieldLink RX6 10 "TypeFlow" "types" "LTypeFlow$Types;") (by decide +kernel)
  unfold fX6_seen at h
  refine lv_aload_n hx hb dX6_seen_0 rfl (lv_at hl 0 rfl) ?_
  refine tf_get (C := RX6) (T := TX6) (N := 5) hx hb hts hn_X6 hown hK hI 0 (tf_xat_0 ad cI cZ _) rfl 0 (by decide) hf_10 rfl rfl dX6_seen_1 ?_
  refine lv_iload_n hx hb dX6_seen_4 rfl (lv_at hl 1 rfl) ?_
  obtain ⟨u1, q2, h⟩ := tf_gbind h
  refine tf_callV (rest := []) ⟨hx, hb, hml, hown, hts⟩ hK hN hI (kX_X4_isClassType l D ad cI cZ _ _ _ q2) (cwV 1 hts gX6_seen_X4_isClassType rfl rfl rfl (by decide +kernel) ⟨Nat.le_of_ble_eq_true rfl, Nat.le_of_ble_eq_true rfl⟩) 1 4 (tf_xat_1 ad cI cZ _) rfl rfl hl.1 rfl (Nat.le_of_ble_eq_true rfl) dX6_seen_5 (fun H locs hI => ?_)
  refine lv_if_eq (tgt := 22) hx hb dX6_seen_8 (by decide) (fun c3 => ?_) (fun c3 => ?_)
  · replace h := tf_pos c3 h
    refine lv_bipush (v := -2) hx hb dX6_seen_22 (by decide +kernel) ?_
    exact tf_iret hx hb hr hI h dX6_seen_24 hlocks
  replace h := tf_neg c3 h
  refine lv_aload_n hx hb dX6_seen_11 rfl (lv_at hl 0 rfl) ?_
  refine tf_get (C := RX6) (T := TX6) (N := 5) hx hb hts hn_X6 hown hK hI 0 (tf_xat_0 ad cI cZ _) rfl 0 (by decide) hf_10 rfl rfl dX6_seen_12 ?_
  refine lv_iload_n hx hb dX6_seen_15 rfl (lv_at hl 2 rfl) ?_
  obtain ⟨u4, q5, h⟩ := tf_gbind h
  refine tf_callV (rest := []) ⟨hx, hb, hml, hown, hts⟩ hK hN hI (kX_X4_isClass l D ad cI cZ _ _ _ q5) (cwV 1 hts gX6_seen_X4_isClass rfl rfl rfl (by decide +kernel) ⟨Nat.le_of_ble_eq_true rfl, Nat.le_of_ble_eq_true rfl⟩) 1 4 (tf_xat_1 ad cI cZ _) rfl rfl hl.1 rfl (Nat.le_of_ble_eq_true rfl) dX6_seen_16 (fun H locs hI => ?_)
  refine lv_if_ne (tgt := 25) hx hb dX6_seen_19 (by decide) (fun c6 => ?_) (fun c6 => ?_)
  · replace h := tf_neg c6 h
    refine lv_aload_n hx hb dX6_seen_25 rfl (lv_at hl 0 rfl) ?_
    refine tf_get (C := RX6) (T := TX6) (N := 5) hx hb hts hn_X6 hown hK hI 0 (tf_xat_0 ad cI cZ _) rfl 0 (by decide) hf_10 rfl rfl dX6_seen_26 ?_
    refine lv_iload_n hx hb dX6_seen_29 rfl (lv_at hl 1 rfl) ?_
    refine lv_iload_n hx hb dX6_seen_30 rfl (lv_at hl 2 rfl) ?_
    obtain ⟨u7, q8, h⟩ := tf_gbind h
    refine tf_callV (rest := []) ⟨hx, hb, hml, hown, hts⟩ hK hN hI (kX_X4_seenAs l D ad cI cZ _ _ _ _ q8) (cwV 2 hts gX6_seen_X4_seenAs rfl rfl rfl (by decide +kernel) ⟨Nat.le_of_ble_eq_true rfl, Nat.le_of_ble_eq_true rfl⟩) 1 4 (tf_xat_1 ad cI cZ _) rfl rfl hl.1 rfl (Nat.le_of_ble_eq_true rfl) dX6_seen_31 (fun H locs hI => ?_)
    exact tf_iret hx hb hr hI h dX6_seen_34 hlocks
  replace h := tf_pos c6 h
  refine lv_bipush (v := -2) hx hb dX6_seen_22 (by decide +kernel) ?_
  exact tf_iret hx hb hr hI h dX6_seen_24 hlocks

set_option maxHeartbeats 4000000 in
set_option maxRecDepth 100000 in
theorem kX_X6_about (l : Launch) (D : va_G) (ad : Nat → Nat) (cI cZ : ClassId) (σ : tf_S) (x1 x2 : Int32) (z : Int32 × tf_S) (h : fX6_about σ x1 x2 = some z) : tf_C l D (tf_wx ad cI cZ) [(cI, .int), (cZ, .boolean)] tf_nest yX6_about wsX6_about ({ frames := 2, cells := 0, slots := 0, locals := 42 }) [.ref (ad 0), .int x1, .int x2] σ z := by
  intro sz
  refine Met.ofW (cc := cX6_about) (maxL := 3) (ret := (some .int)) (by decide) rfl ?_
  intro p e s m args below meth c s₁ B hml hv
  obtain ⟨rfl, hsz, hP, hK, hN, hD0⟩ := hv
  have hx := B.exec
  have hb := B.bytes
  have hr := B.returns
  have hts := atoms_spec (ws := wsX6_about) B.pre
  have hown : s.vm.findClass RX6 = some m.cls := findClass_of_methodNamed B.named
  have hlocks := B.notSynchronized
  subst hsz
  have hI := tf_start (D := D) (tf_x_ad ad cI cZ) hP hD0
  have hl := lv_entry ([.ref (ad 0), .int x1, .int x2]) (n := 3) (Nat.le_of_ble_eq_true rfl)
  rw [lg_entry_eq]
  generalize (lg_sl ([.ref (ad 0), .int x1, .int x2]) ++ List.replicate (3 - (lg_sl ([.ref (ad 0), .int x1, .int x2])).length) Slot.unset).toArray = ls at hl ⊢
  have hl : lv_has ls 3 [(0, .ref (ad 0)), (1, .int x1), (2, .int x2)] := hl
  have hn_X4 : ∀ w ∈ u_ws RX4 TX4 10, w ∈ wsX6_about := by decide +kernel
  have hn_X6 : ∀ w ∈ u_ws RX6 TX6 5, w ∈ wsX6_about := by decide +kernel
  have hf_10 := hts (.fieldLink RX6 10 "TypeFlow" "types" "LTypeFlow$Types;") (by decide +kernel)
  have hf_134 := hts (.fieldLink RX6 134 "TypeFlow$Types" "ofClass" "[I") (by decide +kernel)
  have hf_137 := hts (.fieldLink RX6 137 "TypeFlow$Types" "first" "[I") (by decide +kernel)
  have hf_140 := hts (.fieldLink RX6 140 "TypeFlow$Types" "second" "[I") (by decide +kernel)
  unfold fX6_about at h
  refine lv_aload_n hx hb dX6_about_0 rfl (lv_at hl 0 rfl) ?_
  refine tf_get (C := RX6) (T := TX6) (N := 5) hx hb hts hn_X6 hown hK hI 0 (tf_xat_0 ad cI cZ _) rfl 0 (by decide) hf_10 rfl rfl dX6_about_1 ?_
  refine lv_iload_n hx hb dX6_about_4 rfl (lv_at hl 1 rfl) ?_
  obtain ⟨u1, q2, h⟩ := tf_gbind h
  refine tf_callV (rest := []) ⟨hx, hb, hml, hown, hts⟩ hK hN hI (kX_X4_isType l D ad cI cZ _ _ _ q2) (cwV 1 hts gX6_about_X4_isType rfl rfl rfl (by decide +kernel) ⟨Nat.le_of_ble_eq_true rfl, Nat.le_of_ble_eq_true rfl⟩) 1 4 (tf_xat_1 ad cI cZ _) rfl rfl hl.1 rfl (Nat.le_of_ble_eq_true rfl) dX6_about_5 (fun H locs hI => ?_)
  refine lv_if_ne (tgt := 14) hx hb dX6_about_8 (by decide) (fun c3 => ?_) (fun c3 => ?_)
  · replace h := tf_neg c3 h
    refine lv_iload_n hx hb dX6_about_14 rfl (lv_at hl 2 rfl) ?_
    by_cases c4 : x2 = (0 : Int32)
    · replace h := tf_pos c4 h
      refine lv_tableIn (tgt := 44) (off := 29) hx hb dX6_about_15 (by rw [c4]; decide +kernel) (by rw [c4]; decide +kernel) (by rw [c4]; decide +kernel) (by decide) ?_
      refine lv_aload_n hx hb dX6_about_44 rfl (lv_at hl 0 rfl) ?_
      refine tf_get (C := RX6) (T := TX6) (N := 5) hx hb hts hn_X6 hown hK hI 0 (tf_xat_0 ad cI cZ _) rfl 0 (by decide) hf_10 rfl rfl dX6_about_45 ?_
      refine tf_get (C := RX4) (T := TX4) (N := 10) hx hb hts hn_X4 hown hK hI 1 (tf_xat_1 ad cI cZ _) rfl 4 (by decide) hf_134 rfl rfl dX6_about_48 ?_
      refine lv_iload_n hx hb dX6_about_51 rfl (lv_at hl 1 rfl) ?_
      obtain ⟨b5, h⟩ := tf_gin h
      refine va_iald hx hb hK hI.1 9 0 (tf_xat_9 ad cI cZ _) rfl b5 dX6_about_52 ?_
      exact tf_iret hx hb hr hI h dX6_about_53 hlocks
    replace h := tf_neg c4 h
    by_cases c6 : x2 = (1 : Int32)
    · replace h := tf_pos c6 h
      refine lv_tableIn (tgt := 54) (off := 39) hx hb dX6_about_15 (by rw [c6]; decide +kernel) (by rw [c6]; decide +kernel) (by rw [c6]; decide +kernel) (by decide) ?_
      refine lv_aload_n hx hb dX6_about_54 rfl (lv_at hl 0 rfl) ?_
      refine tf_get (C := RX6) (T := TX6) (N := 5) hx hb hts hn_X6 hown hK hI 0 (tf_xat_0 ad cI cZ _) rfl 0 (by decide) hf_10 rfl rfl dX6_about_55 ?_
      refine tf_get (C := RX4) (T := TX4) (N := 10) hx hb hts hn_X4 hown hK hI 1 (tf_xat_1 ad cI cZ _) rfl 5 (by decide) hf_137 rfl rfl dX6_about_58 ?_
      refine lv_iload_n hx hb dX6_about_61 rfl (lv_at hl 1 rfl) ?_
      obtain ⟨b7, h⟩ := tf_gin h
      refine va_iald hx hb hK hI.1 10 0 (tf_xat_10 ad cI cZ _) rfl b7 dX6_about_62 ?_
      exact tf_iret hx hb hr hI h dX6_about_63 hlocks
    replace h := tf_neg c6 h
    by_cases c8 : x2 = (2 : Int32)
    · replace h := tf_pos c8 h
      refine lv_tableIn (tgt := 64) (off := 49) hx hb dX6_about_15 (by rw [c8]; decide +kernel) (by rw [c8]; decide +kernel) (by rw [c8]; decide +kernel) (by decide) ?_
      refine lv_aload_n hx hb dX6_about_64 rfl (lv_at hl 0 rfl) ?_
      refine tf_get (C := RX6) (T := TX6) (N := 5) hx hb hts hn_X6 hown hK hI 0 (tf_xat_0 ad cI cZ _) rfl 0 (by decide) hf_10 rfl rfl dX6_about_65 ?_
      refine tf_get (C := RX4) (T := TX4) (N := 10) hx hb hts hn_X4 hown hK hI 1 (tf_xat_1 ad cI cZ _) rfl 6 (by decide) hf_140 rfl rfl dX6_about_68 ?_
      refine lv_iload_n hx hb dX6_about_71 rfl (lv_at hl 1 rfl) ?_
      obtain ⟨b9, h⟩ := tf_gin h
      refine va_iald hx hb hK hI.1 11 0 (tf_xat_11 ad cI cZ _) rfl b9 dX6_about_72 ?_
      exact tf_iret hx hb hr hI h dX6_about_73 hlocks
    replace h := tf_neg c8 h
    by_cases c10 : x2 = (3 : Int32)
    · replace h := tf_pos c10 h
      refine lv_tableIn (tgt := 74) (off := 59) hx hb dX6_about_15 (by rw [c10]; decide +kernel) (by rw [c10]; decide +kernel) (by rw [c10]; decide +kernel) (by decide) ?_
      refine lv_aload_n hx hb dX6_about_74 rfl (lv_at hl 0 rfl) ?_
      refine tf_get (C := RX6) (T := TX6) (N := 5) hx hb hts hn_X6 hown hK hI 0 (tf_xat_0 ad cI cZ _) rfl 0 (by decide) hf_10 rfl rfl dX6_about_75 ?_
      refine lv_iload_n hx hb dX6_about_78 rfl (lv_at hl 1 rfl) ?_
      obtain ⟨u11, q12, h⟩ := tf_gbind h
      refine tf_callV (rest := []) ⟨hx, hb, hml, hown, hts⟩ hK hN hI (kX_X4_isClosed l D ad cI cZ _ _ _ q12) (cwV 1 hts gX6_about_X4_isClosed rfl rfl rfl (by decide +kernel) ⟨Nat.le_of_ble_eq_true rfl, Nat.le_of_ble_eq_true rfl⟩) 1 4 (tf_xat_1 ad cI cZ _) rfl rfl hl.1 rfl (Nat.le_of_ble_eq_true rfl) dX6_about_79 (fun H locs hI => ?_)
      refine lv_if_eq (tgt := 89) hx hb dX6_about_82 (by decide) (fun c13 => ?_) (fun c13 => ?_)
      · replace h := tf_pos c13 h
        refine lv_iconst (v := 0) hx hb dX6_about_89 (by decide +kernel) ?_
        exact tf_iret hx hb hr hI h dX6_about_90 hlocks
      replace h := tf_neg c13 h
      refine lv_iconst (v := 1) hx hb dX6_about_85 (by decide +kernel) ?_
      refine lv_goto (tgt := 90) hx hb dX6_about_86 (by decide) ?_
      exact tf_iret hx hb hr hI h dX6_about_90 hlocks
    replace h := tf_neg c10 h
    refine lv_tableOut (tgt := 91) hx hb dX6_about_15 (by have ac4 := lv_neT c4 (a := 0) (by decide +kernel); have ac6 := lv_neT c6 (a := 1) (by decide +kernel); have ac8 := lv_neT c8 (a := 2) (by decide +kernel); have ac10 := lv_neT c10 (a := 3) (by decide +kernel); omega) (by decide) ?_
    refine lv_bipush (v := -2) hx hb dX6_about_91 (by decide +kernel) ?_
    exact tf_iret hx hb hr hI h dX6_about_93 hlocks
  replace h := tf_pos c3 h
  refine lv_bipush (v := -2) hx hb dX6_about_11 (by decide +kernel) ?_
  exact tf_iret hx hb hr hI h dX6_about_13 hlocks
