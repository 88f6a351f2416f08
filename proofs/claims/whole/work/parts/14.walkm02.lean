set_option maxHeartbeats 4000000 in
set_option maxRecDepth 100000 in
theorem kM_X7_function (l : Launch) (D : va_G) (ad : Nat → Nat) (cI cZ : ClassId) (σ : tf_S) (x1 x2 x3 : Int32) (z : Int32 × tf_S) (h : fX7_function σ x1 x2 x3 = some z) : tf_C l D (tf_wm ad cI cZ) [(cI, .int), (cZ, .boolean)] [] yX7_function wsX7_function ({ frames := 2, cells := 0, slots := 0, locals := 43 }) [.ref (ad 0), .int x1, .int x2, .int x3] σ z := by
  intro sz
  refine Met.ofW (cc := cX7_function) (maxL := 4) (ret := (some .int)) (by decide) rfl ?_
  intro p e s m args below meth c s₁ B hml hv
  obtain ⟨rfl, hsz, hP, hK, hN, hD0⟩ := hv
  have hx := B.exec
  have hb := B.bytes
  have hr := B.returns
  have hts := atoms_spec (ws := wsX7_function) B.pre
  have hown : s.vm.findClass RX7 = some m.cls := findClass_of_methodNamed B.named
  have hlocks := B.notSynchronized
  subst hsz
  have hI := tf_start (D := D) (tf_m_ad ad cI cZ) hP hD0
  have hl := lv_entry ([.ref (ad 0), .int x1, .int x2, .int x3]) (n := 4) (Nat.le_of_ble_eq_true rfl)
  rw [lg_entry_eq]
  generalize (lg_sl ([.ref (ad 0), .int x1, .int x2, .int x3]) ++ List.replicate (4 - (lg_sl ([.ref (ad 0), .int x1, .int x2, .int x3])).length) Slot.unset).toArray = ls at hl ⊢
  have hl : lv_has ls 4 [(0, .ref (ad 0)), (1, .int x1), (2, .int x2), (3, .int x3)] := hl
  have hn_X7 : ∀ w ∈ u_ws RX7 TX7 35, w ∈ wsX7_function := by decide +kernel
  have hf_47 := hts (.fieldLink RX7 47 "TypeFlowModel" "one" "[I") (by decide +kernel)
  have hf_50 := hts (.fieldLink RX7 50 "TypeFlowModel" "two" "[I") (by decide +kernel)
  have hf_53 := hts (.fieldLink RX7 53 "TypeFlowModel" "result" "[I") (by decide +kernel)
  have hf_56 := hts (.fieldLink RX7 56 "TypeFlowModel" "bounds" "[I") (by decide +kernel)
  have hf_156 := hts (.fieldLink RX7 156 "TypeFlowModel" "functions" "I") (by decide +kernel)
  have j21 : ∀ (σ : tf_S) (H : Heap) (locs : List Loc) (ls : Array Slot), fX7_function_21 x1 x2 x3 σ = some z → tf_I D (tf_wm ad cI cZ) s.heap σ H locs → lv_has ls 4 [(0, .ref (ad 0)), (1, .int x1), (2, .int x2), (3, .int x3)] → W p l e (headSpec wsX7_function ({ frames := 2, cells := 0, slots := 0, locals := 43 })).room s m ([.ref (ad 0), .int x1, .int x2, .int x3] : List Value).toArray below meth c H locs 0 0 (tf_Q below D (tf_wm ad cI cZ) z ([.ref (ad 0), .int x1, .int x2, .int x3] : List Value).toArray s) (F0 m 21 ls []) := by
    intro σ H locs ls h hI hl
    unfold fX7_function_21 at h
    refine lv_aload_n hx hb dX7_function_21 rfl (lv_at hl 0 rfl) ?_
    refine lv_iload_n hx hb dX7_function_22 rfl (lv_at hl 3 rfl) ?_
    obtain ⟨u5, q6, h⟩ := tf_gbind h
    refine tf_callV (rest := []) ⟨hx, hb, hml, hown, hts⟩ hK hN hI (kM_X7_isType l D ad cI cZ _ _ _ q6) (cwV 1 hts gX7_function_X7_isType rfl rfl rfl (by decide +kernel) ⟨Nat.le_of_ble_eq_true rfl, Nat.le_of_ble_eq_true rfl⟩) 0 7 (tf_mat_0 ad cI cZ _) rfl rfl hl.1 rfl (Nat.le_of_ble_eq_true rfl) dX7_function_23 (fun H locs hI => ?_)
    refine lv_if_ne (tgt := 32) hx hb dX7_function_26 (by decide) (fun c7 => ?_) (fun c7 => ?_)
    · replace h := tf_neg c7 h
      refine lv_aload_n hx hb dX7_function_32 rfl (lv_at hl 0 rfl) ?_
      refine tf_get (C := RX7) (T := TX7) (N := 35) hx hb hts hn_X7 hown hK hI 0 (tf_mat_0 ad cI cZ _) rfl 14 (by decide) hf_156 rfl rfl dX7_function_33 ?_
      refine lv_bipush (v := 16) hx hb dX7_function_36 (by decide +kernel) ?_
      refine lv_icmp_ne (tgt := 44) hx hb dX7_function_38 (by decide) (fun c8 => ?_) (fun c8 => ?_)
      · replace h := tf_neg c8 h
        refine lv_aload_n hx hb dX7_function_44 rfl (lv_at hl 0 rfl) ?_
        refine tf_get (C := RX7) (T := TX7) (N := 35) hx hb hts hn_X7 hown hK hI 0 (tf_mat_0 ad cI cZ _) rfl 15 (by decide) hf_47 rfl rfl dX7_function_45 ?_
        refine lv_aload_n hx hb dX7_function_48 rfl (lv_at hl 0 rfl) ?_
        refine tf_get (C := RX7) (T := TX7) (N := 35) hx hb hts hn_X7 hown hK hI 0 (tf_mat_0 ad cI cZ _) rfl 14 (by decide) hf_156 rfl rfl dX7_function_49 ?_
        refine lv_iload_n hx hb dX7_function_52 rfl (lv_at hl 1 rfl) ?_
        obtain ⟨b9, h⟩ := tf_gin h
        obtain ⟨s10, es10, h⟩ := tf_glet h
        refine tf_iast hx hb hK hI 11 0 (tf_mat_11 ad cI cZ _) (tf_mset_11 ad cI cZ _) rfl b9 es10 dX7_function_53 (fun H locs hI => ?_)
        refine lv_aload_n hx hb dX7_function_54 rfl (lv_at hl 0 rfl) ?_
        refine tf_get (C := RX7) (T := TX7) (N := 35) hx hb hts hn_X7 hown hK hI 0 (tf_mat_0 ad cI cZ _) rfl 16 (by decide) hf_50 rfl rfl dX7_function_55 ?_
        refine lv_aload_n hx hb dX7_function_58 rfl (lv_at hl 0 rfl) ?_
        refine tf_get (C := RX7) (T := TX7) (N := 35) hx hb hts hn_X7 hown hK hI 0 (tf_mat_0 ad cI cZ _) rfl 14 (by decide) hf_156 rfl rfl dX7_function_59 ?_
        refine lv_iload_n hx hb dX7_function_62 rfl (lv_at hl 2 rfl) ?_
        obtain ⟨b11, h⟩ := tf_gin h
        obtain ⟨s12, es12, h⟩ := tf_glet h
        refine tf_iast hx hb hK hI 12 0 (tf_mat_12 ad cI cZ _) (tf_mset_12 ad cI cZ _) rfl b11 es12 dX7_function_63 (fun H locs hI => ?_)
        refine lv_aload_n hx hb dX7_function_64 rfl (lv_at hl 0 rfl) ?_
        refine tf_get (C := RX7) (T := TX7) (N := 35) hx hb hts hn_X7 hown hK hI 0 (tf_mat_0 ad cI cZ _) rfl 17 (by decide) hf_53 rfl rfl dX7_function_65 ?_
        refine lv_aload_n hx hb dX7_function_68 rfl (lv_at hl 0 rfl) ?_
        refine tf_get (C := RX7) (T := TX7) (N := 35) hx hb hts hn_X7 hown hK hI 0 (tf_mat_0 ad cI cZ _) rfl 14 (by decide) hf_156 rfl rfl dX7_function_69 ?_
        refine lv_iload_n hx hb dX7_function_72 rfl (lv_at hl 3 rfl) ?_
        obtain ⟨b13, h⟩ := tf_gin h
        obtain ⟨s14, es14, h⟩ := tf_glet h
        refine tf_iast hx hb hK hI 13 0 (tf_mat_13 ad cI cZ _) (tf_mset_13 ad cI cZ _) rfl b13 es14 dX7_function_73 (fun H locs hI => ?_)
        refine lv_aload_n hx hb dX7_function_74 rfl (lv_at hl 0 rfl) ?_
        refine tf_get (C := RX7) (T := TX7) (N := 35) hx hb hts hn_X7 hown hK hI 0 (tf_mat_0 ad cI cZ _) rfl 18 (by decide) hf_56 rfl rfl dX7_function_75 ?_
        refine lv_iconst (v := 2) hx hb dX7_function_78 (by decide +kernel) ?_
        refine lv_aload_n hx hb dX7_function_79 rfl (lv_at hl 0 rfl) ?_
        refine tf_get (C := RX7) (T := TX7) (N := 35) hx hb hts hn_X7 hown hK hI 0 (tf_mat_0 ad cI cZ _) rfl 14 (by decide) hf_156 rfl rfl dX7_function_80 ?_
        refine lv_imul hx hb dX7_function_83 ?_
        refine lv_iconst (v := -1) hx hb dX7_function_84 (by decide +kernel) ?_
        obtain ⟨b15, h⟩ := tf_gin h
        obtain ⟨s16, es16, h⟩ := tf_glet h
        refine tf_iast hx hb hK hI 14 0 (tf_mat_14 ad cI cZ _) (tf_mset_14 ad cI cZ _) rfl b15 es16 dX7_function_85 (fun H locs hI => ?_)
        refine lv_aload_n hx hb dX7_function_86 rfl (lv_at hl 0 rfl) ?_
        refine tf_get (C := RX7) (T := TX7) (N := 35) hx hb hts hn_X7 hown hK hI 0 (tf_mat_0 ad cI cZ _) rfl 18 (by decide) hf_56 rfl rfl dX7_function_87 ?_
        refine lv_iconst (v := 2) hx hb dX7_function_90 (by decide +kernel) ?_
        refine lv_aload_n hx hb dX7_function_91 rfl (lv_at hl 0 rfl) ?_
        refine tf_get (C := RX7) (T := TX7) (N := 35) hx hb hts hn_X7 hown hK hI 0 (tf_mat_0 ad cI cZ _) rfl 14 (by decide) hf_156 rfl rfl dX7_function_92 ?_
        refine lv_imul hx hb dX7_function_95 ?_
        refine lv_iconst (v := 1) hx hb dX7_function_96 (by decide +kernel) ?_
        refine lv_iadd hx hb dX7_function_97 ?_
        refine lv_iconst (v := -1) hx hb dX7_function_98 (by decide +kernel) ?_
        obtain ⟨b17, h⟩ := tf_gin h
        obtain ⟨s18, es18, h⟩ := tf_glet h
        refine tf_iast hx hb hK hI 14 0 (tf_mat_14 ad cI cZ _) (tf_mset_14 ad cI cZ _) rfl b17 es18 dX7_function_99 (fun H locs hI => ?_)
        refine lv_aload_n hx hb dX7_function_100 rfl (lv_at hl 0 rfl) ?_
        refine lv_dup hx hb dX7_function_101 rfl ?_
        refine tf_get (C := RX7) (T := TX7) (N := 35) hx hb hts hn_X7 hown hK hI 0 (tf_mat_0 ad cI cZ _) rfl 14 (by decide) hf_156 rfl rfl dX7_function_102 ?_
        refine lv_iconst (v := 1) hx hb dX7_function_105 (by decide +kernel) ?_
        refine lv_iadd hx hb dX7_function_106 ?_
        obtain ⟨s19, es19, h⟩ := tf_glet h
        refine tf_put (C := RX7) (T := TX7) (N := 35) (ty := .int) hx hb hts hn_X7 tyX7 tyX7_ok nmX7 hown hK hI 0 (tf_mat_0 ad cI cZ _) rfl 14 (by decide) hf_156 rfl rfl (by decide +kernel) rfl rfl (Nat.le_of_ble_eq_true rfl) (tf_mput_0_14 ad cI cZ _ _) es19 dX7_function_107 (fun H locs hI => ?_)
        refine lv_aload_n hx hb dX7_function_110 rfl (lv_at hl 0 rfl) ?_
        refine tf_get (C := RX7) (T := TX7) (N := 35) hx hb hts hn_X7 hown hK hI 0 (tf_mat_0 ad cI cZ _) rfl 14 (by decide) hf_156 rfl rfl dX7_function_111 ?_
        refine lv_iconst (v := 1) hx hb dX7_function_114 (by decide +kernel) ?_
        refine lv_isub hx hb dX7_function_115 ?_
        exact tf_iret hx hb hr hI h dX7_function_116 hlocks
      replace h := tf_pos c8 h
      refine lv_bipush (v := -3) hx hb dX7_function_41 (by decide +kernel) ?_
      exact tf_iret hx hb hr hI h dX7_function_43 hlocks
    replace h := tf_pos c7 h
    refine lv_bipush (v := -2) hx hb dX7_function_29 (by decide +kernel) ?_
    exact tf_iret hx hb hr hI h dX7_function_31 hlocks
  unfold fX7_function at h
  refine lv_aload_n hx hb dX7_function_0 rfl (lv_at hl 0 rfl) ?_
  refine lv_iload_n hx hb dX7_function_1 rfl (lv_at hl 1 rfl) ?_
  obtain ⟨u1, q2, h⟩ := tf_gbind h
  refine tf_callV (rest := []) ⟨hx, hb, hml, hown, hts⟩ hK hN hI (kM_X7_isType l D ad cI cZ _ _ _ q2) (cwV 1 hts gX7_function_X7_isType rfl rfl rfl (by decide +kernel) ⟨Nat.le_of_ble_eq_true rfl, Nat.le_of_ble_eq_true rfl⟩) 0 7 (tf_mat_0 ad cI cZ _) rfl rfl hl.1 rfl (Nat.le_of_ble_eq_true rfl) dX7_function_2 (fun H locs hI => ?_)
  refine lv_if_eq (tgt := 29) hx hb dX7_function_5 (by decide) (fun c3 => ?_) (fun c3 => ?_)
  · replace h := tf_pos c3 h
    refine lv_bipush (v := -2) hx hb dX7_function_29 (by decide +kernel) ?_
    exact tf_iret hx hb hr hI h dX7_function_31 hlocks
  replace h := tf_neg c3 h
  refine lv_iload_n hx hb dX7_function_8 rfl (lv_at hl 2 rfl) ?_
  refine lv_iconst (v := -1) hx hb dX7_function_9 (by decide +kernel) ?_
  refine lv_icmp_eq (tgt := 21) hx hb dX7_function_10 (by decide) (fun c4 => ?_) (fun c4 => ?_)
  · replace h := tf_pos c4 h
    exact j21  _ _ _ _ h hI (lv_sub hl [0, 1, 2, 3] rfl)
  replace h := tf_neg c4 h
  refine lv_aload_n hx hb dX7_function_13 rfl (lv_at hl 0 rfl) ?_
  refine lv_iload_n hx hb dX7_function_14 rfl (lv_at hl 2 rfl) ?_
  obtain ⟨u20, q21, h⟩ := tf_gbind h
  refine tf_callV (rest := []) ⟨hx, hb, hml, hown, hts⟩ hK hN hI (kM_X7_isType l D ad cI cZ _ _ _ q21) (cwV 1 hts gX7_function_X7_isType rfl rfl rfl (by decide +kernel) ⟨Nat.le_of_ble_eq_true rfl, Nat.le_of_ble_eq_true rfl⟩) 0 7 (tf_mat_0 ad cI cZ _) rfl rfl hl.1 rfl (Nat.le_of_ble_eq_true rfl) dX7_function_15 (fun H locs hI => ?_)
  refine lv_if_eq (tgt := 29) hx hb dX7_function_18 (by decide) (fun c22 => ?_) (fun c22 => ?_)
  · replace h := tf_pos c22 h
    refine lv_bipush (v := -2) hx hb dX7_function_29 (by decide +kernel) ?_
    exact tf_iret hx hb hr hI h dX7_function_31 hlocks
  replace h := tf_neg c22 h
  exact j21  _ _ _ _ h hI (lv_sub hl [0, 1, 2, 3] rfl)

set_option maxHeartbeats 4000000 in
set_option maxRecDepth 100000 in
theorem kM_X7_bound (l : Launch) (D : va_G) (ad : Nat → Nat) (cI cZ : ClassId) (σ : tf_S) (x1 x2 x3 : Int32) (z : Int32 × tf_S) (h : fX7_bound σ x1 x2 x3 = some z) : tf_C l D (tf_wm ad cI cZ) [(cI, .int), (cZ, .boolean)] [] yX7_bound wsX7_bound ({ frames := 3, cells := 0, slots := 0, locals := 64 }) [.ref (ad 0), .int x1, .int x2, .int x3] σ z := by
  intro sz
  refine Met.ofW (cc := cX7_bound) (maxL := 4) (ret := (some .int)) (by decide) rfl ?_
  intro p e s m args below meth c s₁ B hml hv
  obtain ⟨rfl, hsz, hP, hK, hN, hD0⟩ := hv
  have hx := B.exec
  have hb := B.bytes
  have hr := B.returns
  have hts := atoms_spec (ws := wsX7_bound) B.pre
  have hown : s.vm.findClass RX7 = some m.cls := findClass_of_methodNamed B.named
  have hlocks := B.notSynchronized
  subst hsz
  have hI := tf_start (D := D) (tf_m_ad ad cI cZ) hP hD0
  have hl := lv_entry ([.ref (ad 0), .int x1, .int x2, .int x3]) (n := 4) (Nat.le_of_ble_eq_true rfl)
  rw [lg_entry_eq]
  generalize (lg_sl ([.ref (ad 0), .int x1, .int x2, .int x3]) ++ List.replicate (4 - (lg_sl ([.ref (ad 0), .int x1, .int x2, .int x3])).length) Slot.unset).toArray = ls at hl ⊢
  have hl : lv_has ls 4 [(0, .ref (ad 0)), (1, .int x1), (2, .int x2), (3, .int x3)] := hl
  have hn_X7 : ∀ w ∈ u_ws RX7 TX7 35, w ∈ wsX7_bound := by decide +kernel
  have hf_56 := hts (.fieldLink RX7 56 "TypeFlowModel" "bounds" "[I") (by decide +kernel)
  have hf_156 := hts (.fieldLink RX7 156 "TypeFlowModel" "functions" "I") (by decide +kernel)
  unfold fX7_bound at h
  refine lv_iload_n hx hb dX7_bound_0 rfl (lv_at hl 1 rfl) ?_
  refine lv_iconst (v := 0) hx hb dX7_bound_1 (by decide +kernel) ?_
  refine lv_aload_n hx hb dX7_bound_2 rfl (lv_at hl 0 rfl) ?_
  refine tf_get (C := RX7) (T := TX7) (N := 35) hx hb hts hn_X7 hown hK hI 0 (tf_mat_0 ad cI cZ _) rfl 14 (by decide) hf_156 rfl rfl dX7_bound_3 ?_
  refine lv_iconst (v := 1) hx hb dX7_bound_6 (by decide +kernel) ?_
  refine lv_isub hx hb dX7_bound_7 ?_
  obtain ⟨u1, q2, h⟩ := tf_gbind h
  refine tf_callS (rest := []) ⟨hx, hb, hml, hown, hts⟩ hK hN hI (kM_X7_isIn l D ad cI cZ _ _ _ _ _ q2) (va_cwS 3 hts gX7_bound_X7_isIn rfl rfl rfl (by decide +kernel) ⟨Nat.le_of_ble_eq_true rfl, Nat.le_of_ble_eq_true rfl⟩) rfl hl.1 rfl (Nat.le_of_ble_eq_true rfl) dX7_bound_8 (fun H locs hI => ?_)
  refine lv_if_eq (tgt := 44) hx hb dX7_bound_11 (by decide) (fun c3 => ?_) (fun c3 => ?_)
  · replace h := tf_pos c3 h
    refine lv_bipush (v := -2) hx hb dX7_bound_44 (by decide +kernel) ?_
    exact tf_iret hx hb hr hI h dX7_bound_46 hlocks
  replace h := tf_neg c3 h
  refine lv_iload_n hx hb dX7_bound_14 rfl (lv_at hl 2 rfl) ?_
  refine lv_iconst (v := 0) hx hb dX7_bound_15 (by decide +kernel) ?_
  refine lv_iconst (v := 1) hx hb dX7_bound_16 (by decide +kernel) ?_
  obtain ⟨u4, q5, h⟩ := tf_gbind h
  refine tf_callS (rest := []) ⟨hx, hb, hml, hown, hts⟩ hK hN hI (kM_X7_isIn l D ad cI cZ _ _ _ _ _ q5) (va_cwS 3 hts gX7_bound_X7_isIn rfl rfl rfl (by decide +kernel) ⟨Nat.le_of_ble_eq_true rfl, Nat.le_of_ble_eq_true rfl⟩) rfl hl.1 rfl (Nat.le_of_ble_eq_true rfl) dX7_bound_17 (fun H locs hI => ?_)
  refine lv_if_eq (tgt := 44) hx hb dX7_bound_20 (by decide) (fun c6 => ?_) (fun c6 => ?_)
  · replace h := tf_pos c6 h
    refine lv_bipush (v := -2) hx hb dX7_bound_44 (by decide +kernel) ?_
    exact tf_iret hx hb hr hI h dX7_bound_46 hlocks
  replace h := tf_neg c6 h
  refine lv_iload_n hx hb dX7_bound_23 rfl (lv_at hl 3 rfl) ?_
  refine lv_iconst (v := -1) hx hb dX7_bound_24 (by decide +kernel) ?_
  refine lv_icmp_eq (tgt := 47) hx hb dX7_bound_25 (by decide) (fun c7 => ?_) (fun c7 => ?_)
  · replace h := tf_pos c7 h
    refine lv_aload_n hx hb dX7_bound_47 rfl (lv_at hl 0 rfl) ?_
    refine tf_get (C := RX7) (T := TX7) (N := 35) hx hb hts hn_X7 hown hK hI 0 (tf_mat_0 ad cI cZ _) rfl 18 (by decide) hf_56 rfl rfl dX7_bound_48 ?_
    refine lv_iconst (v := 2) hx hb dX7_bound_51 (by decide +kernel) ?_
    refine lv_iload_n hx hb dX7_bound_52 rfl (lv_at hl 1 rfl) ?_
    refine lv_imul hx hb dX7_bound_53 ?_
    refine lv_iload_n hx hb dX7_bound_54 rfl (lv_at hl 2 rfl) ?_
    refine lv_iadd hx hb dX7_bound_55 ?_
    refine lv_iload_n hx hb dX7_bound_56 rfl (lv_at hl 3 rfl) ?_
    obtain ⟨b8, h⟩ := tf_gin h
    obtain ⟨s9, es9, h⟩ := tf_glet h
    refine tf_iast hx hb hK hI 14 0 (tf_mat_14 ad cI cZ _) (tf_mset_14 ad cI cZ _) rfl b8 es9 dX7_bound_57 (fun H locs hI => ?_)
    refine lv_iconst (v := 1) hx hb dX7_bound_58 (by decide +kernel) ?_
    exact tf_iret hx hb hr hI h dX7_bound_59 hlocks
  replace h := tf_neg c7 h
  refine lv_aload_n hx hb dX7_bound_28 rfl (lv_at hl 0 rfl) ?_
  refine lv_iload_n hx hb dX7_bound_29 rfl (lv_at hl 3 rfl) ?_
  obtain ⟨u10, q11, h⟩ := tf_gbind h
  refine tf_callV (rest := []) ⟨hx, hb, hml, hown, hts⟩ hK hN hI (kM_X7_isClassType l D ad cI cZ _ _ _ q11) (cwV 1 hts gX7_bound_X7_isClassType rfl rfl rfl (by decide +kernel) ⟨Nat.le_of_ble_eq_true rfl, Nat.le_of_ble_eq_true rfl⟩) 0 7 (tf_mat_0 ad cI cZ _) rfl rfl hl.1 rfl (Nat.le_of_ble_eq_true rfl) dX7_bound_30 (fun H locs hI => ?_)
  refine lv_if_eq (tgt := 44) hx hb dX7_bound_33 (by decide) (fun c12 => ?_) (fun c12 => ?_)
  · replace h := tf_pos c12 h
    refine lv_bipush (v := -2) hx hb dX7_bound_44 (by decide +kernel) ?_
    exact tf_iret hx hb hr hI h dX7_bound_46 hlocks
  replace h := tf_neg c12 h
  refine lv_aload_n hx hb dX7_bound_36 rfl (lv_at hl 0 rfl) ?_
  refine lv_iload_n hx hb dX7_bound_37 rfl (lv_at hl 3 rfl) ?_
  obtain ⟨u13, q14, h⟩ := tf_gbind h
  refine tf_callV (rest := []) ⟨hx, hb, hml, hown, hts⟩ hK hN hI (kM_X7_isClosed l D ad cI cZ _ _ _ q14) (cwV 1 hts gX7_bound_X7_isClosed rfl rfl rfl (by decide +kernel) ⟨Nat.le_of_ble_eq_true rfl, Nat.le_of_ble_eq_true rfl⟩) 0 7 (tf_mat_0 ad cI cZ _) rfl rfl hl.1 rfl (Nat.le_of_ble_eq_true rfl) dX7_bound_38 (fun H locs hI => ?_)
  refine lv_if_ne (tgt := 47) hx hb dX7_bound_41 (by decide) (fun c15 => ?_) (fun c15 => ?_)
  · replace h := tf_neg c15 h
    refine lv_aload_n hx hb dX7_bound_47 rfl (lv_at hl 0 rfl) ?_
    refine tf_get (C := RX7) (T := TX7) (N := 35) hx hb hts hn_X7 hown hK hI 0 (tf_mat_0 ad cI cZ _) rfl 18 (by decide) hf_56 rfl rfl dX7_bound_48 ?_
    refine lv_iconst (v := 2) hx hb dX7_bound_51 (by decide +kernel) ?_
    refine lv_iload_n hx hb dX7_bound_52 rfl (lv_at hl 1 rfl) ?_
    refine lv_imul hx hb dX7_bound_53 ?_
    refine lv_iload_n hx hb dX7_bound_54 rfl (lv_at hl 2 rfl) ?_
    refine lv_iadd hx hb dX7_bound_55 ?_
    refine lv_iload_n hx hb dX7_bound_56 rfl (lv_at hl 3 rfl) ?_
    obtain ⟨b16, h⟩ := tf_gin h
    obtain ⟨s17, es17, h⟩ := tf_glet h
    refine tf_iast hx hb hK hI 14 0 (tf_mat_14 ad cI cZ _) (tf_mset_14 ad cI cZ _) rfl b16 es17 dX7_bound_57 (fun H locs hI => ?_)
    refine lv_iconst (v := 1) hx hb dX7_bound_58 (by decide +kernel) ?_
    exact tf_iret hx hb hr hI h dX7_bound_59 hlocks
  replace h := tf_pos c15 h
  refine lv_bipush (v := -2) hx hb dX7_bound_44 (by decide +kernel) ?_
  exact tf_iret hx hb hr hI h dX7_bound_46 hlocks

set_option maxHeartbeats 4000000 in
set_option maxRecDepth 100000 in
theorem kM_X7_fails (l : Launch) (D : va_G) (ad : Nat → Nat) (cI cZ : ClassId) (σ : tf_S) (x1 : Int32) (z : Int32 × tf_S) (h : fX7_fails σ x1 = some z) : tf_C l D (tf_wm ad cI cZ) [(cI, .int), (cZ, .boolean)] [] yX7_fails wsX7_fails ({ frames := 0, cells := 0, slots := 0, locals := 0 }) [.ref (ad 0), .int x1] σ z := by
  intro sz
  refine Met.ofW (cc := cX7_fails) (maxL := 2) (ret := (some .boolean)) (by decide) rfl ?_
  intro p e s m args below meth c s₁ B hml hv
  obtain ⟨rfl, hsz, hP, hK, hN, hD0⟩ := hv
  have hx := B.exec
  have hb := B.bytes
  have hr := B.returns
  have hts := atoms_spec (ws := wsX7_fails) B.pre
  have hown : s.vm.findClass RX7 = some m.cls := findClass_of_methodNamed B.named
  have hlocks := B.notSynchronized
  subst hsz
  have hI := tf_start (D := D) (tf_m_ad ad cI cZ) hP hD0
  have hl := lv_entry ([.ref (ad 0), .int x1]) (n := 2) (Nat.le_of_ble_eq_true rfl)
  rw [lg_entry_eq]
  generalize (lg_sl ([.ref (ad 0), .int x1]) ++ List.replicate (2 - (lg_sl ([.ref (ad 0), .int x1])).length) Slot.unset).toArray = ls at hl ⊢
  have hl : lv_has ls 2 [(0, .ref (ad 0)), (1, .int x1)] := hl
  have hn_X7 : ∀ w ∈ u_ws RX7 TX7 35, w ∈ wsX7_fails := by decide +kernel
  have hf_159 := hts (.fieldLink RX7 159 "TypeFlowModel" "reason" "I") (by decide +kernel)
  unfold fX7_fails at h
  refine lv_aload_n hx hb dX7_fails_0 rfl (lv_at hl 0 rfl) ?_
  refine lv_iload_n hx hb dX7_fails_1 rfl (lv_at hl 1 rfl) ?_
  obtain ⟨s1, es1, h⟩ := tf_glet h
  refine tf_put (C := RX7) (T := TX7) (N := 35) (ty := .int) hx hb hts hn_X7 tyX7 tyX7_ok nmX7 hown hK hI 0 (tf_mat_0 ad cI cZ _) rfl 20 (by decide) hf_159 rfl rfl (by decide +kernel) rfl rfl (Nat.le_of_ble_eq_true rfl) (tf_mput_0_20 ad cI cZ _ _) es1 dX7_fails_2 (fun H locs hI => ?_)
  refine lv_iconst (v := 0) hx hb dX7_fails_5 (by decide +kernel) ?_
  exact tf_zret hx hb hr (Or.inl rfl) hI h dX7_fails_6 hlocks

set_option maxHeartbeats 4000000 in
set_option maxRecDepth 100000 in
theorem kM_X7_binds (l : Launch) (D : va_G) (ad : Nat → Nat) (cI cZ : ClassId) (σ : tf_S) (x1 x2 : Int32) (z : Int32 × tf_S) (h : fX7_binds σ x1 x2 = some z) : tf_C l D (tf_wm ad cI cZ) [(cI, .int), (cZ, .boolean)] [] yX7_binds wsX7_binds ({ frames := 1, cells := 0, slots := 0, locals := 21 }) [.ref (ad 0), .int x1, .int x2] σ z := by
  intro sz
  refine Met.ofW (cc := cX7_binds) (maxL := 3) (ret := (some .boolean)) (by decide) rfl ?_
  intro p e s m args below meth c s₁ B hml hv
  obtain ⟨rfl, hsz, hP, hK, hN, hD0⟩ := hv
  have hx := B.exec
  have hb := B.bytes
  have hr := B.returns
  have hts := atoms_spec (ws := wsX7_binds) B.pre
  have hown : s.vm.findClass RX7 = some m.cls := findClass_of_methodNamed B.named
  have hlocks := B.notSynchronized
  subst hsz
  have hI := tf_start (D := D) (tf_m_ad ad cI cZ) hP hD0
  have hl := lv_entry ([.ref (ad 0), .int x1, .int x2]) (n := 3) (Nat.le_of_ble_eq_true rfl)
  rw [lg_entry_eq]
  generalize (lg_sl ([.ref (ad 0), .int x1, .int x2]) ++ List.replicate (3 - (lg_sl ([.ref (ad 0), .int x1, .int x2])).length) Slot.unset).toArray = ls at hl ⊢
  have hl : lv_has ls 3 [(0, .ref (ad 0)), (1, .int x1), (2, .int x2)] := hl
  have hn_X7 : ∀ w ∈ u_ws RX7 TX7 35, w ∈ wsX7_binds := by decide +kernel
  have hf_59 := hts (.fieldLink RX7 59 "TypeFlowModel" "bindings" "[I") (by decide +kernel)
  unfold fX7_binds at h
  refine lv_aload_n hx hb dX7_binds_0 rfl (lv_at hl 0 rfl) ?_
  refine tf_get (C := RX7) (T := TX7) (N := 35) hx hb hts hn_X7 hown hK hI 0 (tf_mat_0 ad cI cZ _) rfl 19 (by decide) hf_59 rfl rfl dX7_binds_1 ?_
  refine lv_iload_n hx hb dX7_binds_4 rfl (lv_at hl 1 rfl) ?_
  obtain ⟨b1, h⟩ := tf_gin h
  refine va_iald hx hb hK hI.1 15 0 (tf_mat_15 ad cI cZ _) rfl b1 dX7_binds_5 ?_
  refine lv_iconst (v := -1) hx hb dX7_binds_6 (by decide +kernel) ?_
  refine lv_icmp_eq (tgt := 26) hx hb dX7_binds_7 (by decide) (fun c2 => ?_) (fun c2 => ?_)
  · replace h := tf_pos c2 h
    refine lv_aload_n hx hb dX7_binds_26 rfl (lv_at hl 0 rfl) ?_
    refine tf_get (C := RX7) (T := TX7) (N := 35) hx hb hts hn_X7 hown hK hI 0 (tf_mat_0 ad cI cZ _) rfl 19 (by decide) hf_59 rfl rfl dX7_binds_27 ?_
    refine lv_iload_n hx hb dX7_binds_30 rfl (lv_at hl 1 rfl) ?_
    refine lv_iload_n hx hb dX7_binds_31 rfl (lv_at hl 2 rfl) ?_
    obtain ⟨b3, h⟩ := tf_gin h
    obtain ⟨s4, es4, h⟩ := tf_glet h
    refine tf_iast hx hb hK hI 15 0 (tf_mat_15 ad cI cZ _) (tf_mset_15 ad cI cZ _) rfl b3 es4 dX7_binds_32 (fun H locs hI => ?_)
    refine lv_iconst (v := 1) hx hb dX7_binds_33 (by decide +kernel) ?_
    exact tf_zret hx hb hr (Or.inr rfl) hI h dX7_binds_34 hlocks
  replace h := tf_neg c2 h
  refine lv_aload_n hx hb dX7_binds_10 rfl (lv_at hl 0 rfl) ?_
  refine tf_get (C := RX7) (T := TX7) (N := 35) hx hb hts hn_X7 hown hK hI 0 (tf_mat_0 ad cI cZ _) rfl 19 (by decide) hf_59 rfl rfl dX7_binds_11 ?_
  refine lv_iload_n hx hb dX7_binds_14 rfl (lv_at hl 1 rfl) ?_
  obtain ⟨b5, h⟩ := tf_gin h
  refine va_iald hx hb hK hI.1 15 0 (tf_mat_15 ad cI cZ _) rfl b5 dX7_binds_15 ?_
  refine lv_iload_n hx hb dX7_binds_16 rfl (lv_at hl 2 rfl) ?_
  refine lv_icmp_eq (tgt := 26) hx hb dX7_binds_17 (by decide) (fun c6 => ?_) (fun c6 => ?_)
  · replace h := tf_pos c6 h
    refine lv_aload_n hx hb dX7_binds_26 rfl (lv_at hl 0 rfl) ?_
    refine tf_get (C := RX7) (T := TX7) (N := 35) hx hb hts hn_X7 hown hK hI 0 (tf_mat_0 ad cI cZ _) rfl 19 (by decide) hf_59 rfl rfl dX7_binds_27 ?_
    refine lv_iload_n hx hb dX7_binds_30 rfl (lv_at hl 1 rfl) ?_
    refine lv_iload_n hx hb dX7_binds_31 rfl (lv_at hl 2 rfl) ?_
    obtain ⟨b7, h⟩ := tf_gin h
    obtain ⟨s8, es8, h⟩ := tf_glet h
    refine tf_iast hx hb hK hI 15 0 (tf_mat_15 ad cI cZ _) (tf_mset_15 ad cI cZ _) rfl b7 es8 dX7_binds_32 (fun H locs hI => ?_)
    refine lv_iconst (v := 1) hx hb dX7_binds_33 (by decide +kernel) ?_
    exact tf_zret hx hb hr (Or.inr rfl) hI h dX7_binds_34 hlocks
  replace h := tf_neg c6 h
  refine lv_aload_n hx hb dX7_binds_20 rfl (lv_at hl 0 rfl) ?_
  refine lv_iconst (v := 2) hx hb dX7_binds_21 (by decide +kernel) ?_
  obtain ⟨u9, q10, h⟩ := tf_gbind h
  refine tf_callV (rest := []) ⟨hx, hb, hml, hown, hts⟩ hK hN hI (kM_X7_fails l D ad cI cZ _ _ _ q10) (cwV 1 hts gX7_binds_X7_fails rfl rfl rfl (by decide +kernel) ⟨Nat.le_of_ble_eq_true rfl, Nat.le_of_ble_eq_true rfl⟩) 0 7 (tf_mat_0 ad cI cZ _) rfl rfl hl.1 rfl (Nat.le_of_ble_eq_true rfl) dX7_binds_22 (fun H locs hI => ?_)
  obtain ⟨b11, h⟩ := tf_gbz h
  exact tf_zret hx hb hr b11 hI h dX7_binds_25 hlocks

set_option maxHeartbeats 4000000 in
set_option maxRecDepth 100000 in
theorem kM_X7_holdPair (l : Launch) (D : va_G) (ad : Nat → Nat) (cI cZ : ClassId) (σ : tf_S) (x1 x2 : Int32) (z : tf_S) (h : fX7_holdPair σ x1 x2 = some z) : tf_Cv l D (tf_wm ad cI cZ) [(cI, .int), (cZ, .boolean)] [] yX7_holdPair wsX7_holdPair ({ frames := 0, cells := 0, slots := 0, locals := 0 }) [.ref (ad 0), .int x1, .int x2] σ z := by
  intro sz
  refine Met.ofW (cc := cX7_holdPair) (maxL := 3) (ret := none) (by decide) rfl ?_
  intro p e s m args below meth c s₁ B hml hv
  obtain ⟨rfl, hsz, hP, hK, hN, hD0⟩ := hv
  have hx := B.exec
  have hb := B.bytes
  have hr := B.returns
  have hts := atoms_spec (ws := wsX7_holdPair) B.pre
  have hown : s.vm.findClass RX7 = some m.cls := findClass_of_methodNamed B.named
  have hlocks := B.notSynchronized
  subst hsz
  have hI := tf_start (D := D) (tf_m_ad ad cI cZ) hP hD0
  have hl := lv_entry ([.ref (ad 0), .int x1, .int x2]) (n := 3) (Nat.le_of_ble_eq_true rfl)
  rw [lg_entry_eq]
  generalize (lg_sl ([.ref (ad 0), .int x1, .int x2]) ++ List.replicate (3 - (lg_sl ([.ref (ad 0), .int x1, .int x2])).length) Slot.unset).toArray = ls at hl ⊢
  have hl : lv_has ls 3 [(0, .ref (ad 0)), (1, .int x1), (2, .int x2)] := hl
  have hn_X7 : ∀ w ∈ u_ws RX7 TX7 35, w ∈ wsX7_holdPair := by decide +kernel
  have hf_62 := hts (.fieldLink RX7 62 "TypeFlowModel" "held" "[I") (by decide +kernel)
  have hf_165 := hts (.fieldLink RX7 165 "TypeFlowModel" "pairs" "I") (by decide +kernel)
  unfold fX7_holdPair at h
  refine lv_aload_n hx hb dX7_holdPair_0 rfl (lv_at hl 0 rfl) ?_
  refine tf_get (C := RX7) (T := TX7) (N := 35) hx hb hts hn_X7 hown hK hI 0 (tf_mat_0 ad cI cZ _) rfl 21 (by decide) hf_62 rfl rfl dX7_holdPair_1 ?_
  refine lv_iconst (v := 2) hx hb dX7_holdPair_4 (by decide +kernel) ?_
  refine lv_aload_n hx hb dX7_holdPair_5 rfl (lv_at hl 0 rfl) ?_
  refine tf_get (C := RX7) (T := TX7) (N := 35) hx hb hts hn_X7 hown hK hI 0 (tf_mat_0 ad cI cZ _) rfl 23 (by decide) hf_165 rfl rfl dX7_holdPair_6 ?_
  refine lv_imul hx hb dX7_holdPair_9 ?_
  refine lv_iload_n hx hb dX7_holdPair_10 rfl (lv_at hl 1 rfl) ?_
  obtain ⟨b1, h⟩ := tf_gin h
  obtain ⟨s2, es2, h⟩ := tf_glet h
  refine tf_iast hx hb hK hI 16 0 (tf_mat_16 ad cI cZ _) (tf_mset_16 ad cI cZ _) rfl b1 es2 dX7_holdPair_11 (fun H locs hI => ?_)
  refine lv_aload_n hx hb dX7_holdPair_12 rfl (lv_at hl 0 rfl) ?_
  refine tf_get (C := RX7) (T := TX7) (N := 35) hx hb hts hn_X7 hown hK hI 0 (tf_mat_0 ad cI cZ _) rfl 21 (by decide) hf_62 rfl rfl dX7_holdPair_13 ?_
  refine lv_iconst (v := 2) hx hb dX7_holdPair_16 (by decide +kernel) ?_
  refine lv_aload_n hx hb dX7_holdPair_17 rfl (lv_at hl 0 rfl) ?_
  refine tf_get (C := RX7) (T := TX7) (N := 35) hx hb hts hn_X7 hown hK hI 0 (tf_mat_0 ad cI cZ _) rfl 23 (by decide) hf_165 rfl rfl dX7_holdPair_18 ?_
  refine lv_imul hx hb dX7_holdPair_21 ?_
  refine lv_iconst (v := 1) hx hb dX7_holdPair_22 (by decide +kernel) ?_
  refine lv_iadd hx hb dX7_holdPair_23 ?_
  refine lv_iload_n hx hb dX7_holdPair_24 rfl (lv_at hl 2 rfl) ?_
  obtain ⟨b3, h⟩ := tf_gin h
  obtain ⟨s4, es4, h⟩ := tf_glet h
  refine tf_iast hx hb hK hI 16 0 (tf_mat_16 ad cI cZ _) (tf_mset_16 ad cI cZ _) rfl b3 es4 dX7_holdPair_25 (fun H locs hI => ?_)
  refine lv_aload_n hx hb dX7_holdPair_26 rfl (lv_at hl 0 rfl) ?_
  refine lv_dup hx hb dX7_holdPair_27 rfl ?_
  refine tf_get (C := RX7) (T := TX7) (N := 35) hx hb hts hn_X7 hown hK hI 0 (tf_mat_0 ad cI cZ _) rfl 23 (by decide) hf_165 rfl rfl dX7_holdPair_28 ?_
  refine lv_iconst (v := 1) hx hb dX7_holdPair_31 (by decide +kernel) ?_
  refine lv_iadd hx hb dX7_holdPair_32 ?_
  obtain ⟨s5, es5, h⟩ := tf_glet h
  refine tf_put (C := RX7) (T := TX7) (N := 35) (ty := .int) hx hb hts hn_X7 tyX7 tyX7_ok nmX7 hown hK hI 0 (tf_mat_0 ad cI cZ _) rfl 23 (by decide) hf_165 rfl rfl (by decide +kernel) rfl rfl (Nat.le_of_ble_eq_true rfl) (tf_mput_0_23 ad cI cZ _ _) es5 dX7_holdPair_33 (fun H locs hI => ?_)
  exact tf_vret hx hb hr hI h dX7_holdPair_36 hlocks

set_option maxHeartbeats 4000000 in
set_option maxRecDepth 100000 in
theorem kM_X7_holds (l : Launch) (D : va_G) (ad : Nat → Nat) (cI cZ : ClassId) (σ : tf_S) (x1 x2 : Int32) (z : Int32 × tf_S) (h : fX7_holds σ x1 x2 = some z) : tf_C l D (tf_wm ad cI cZ) [(cI, .int), (cZ, .boolean)] [] yX7_holds wsX7_holds ({ frames := 2, cells := 0, slots := 0, locals := 43 }) [.ref (ad 0), .int x1, .int x2] σ z := by
  intro sz
  refine Met.ofW (cc := cX7_holds) (maxL := 5) (ret := (some .boolean)) (by decide) rfl ?_
  intro p e s m args below meth c s₁ B hml hv
  obtain ⟨rfl, hsz, hP, hK, hN, hD0⟩ := hv
  have hx := B.exec
  have hb := B.bytes
  have hr := B.returns
  have hts := atoms_spec (ws := wsX7_holds) B.pre
  have hown : s.vm.findClass RX7 = some m.cls := findClass_of_methodNamed B.named
  have hlocks := B.notSynchronized
  subst hsz
  have hI := tf_start (D := D) (tf_m_ad ad cI cZ) hP hD0
  have hl := lv_entry ([.ref (ad 0), .int x1, .int x2]) (n := 5) (Nat.le_of_ble_eq_true rfl)
  rw [lg_entry_eq]
  generalize (lg_sl ([.ref (ad 0), .int x1, .int x2]) ++ List.replicate (5 - (lg_sl ([.ref (ad 0), .int x1, .int x2])).length) Slot.unset).toArray = ls at hl ⊢
  have hl : lv_has ls 5 [(0, .ref (ad 0)), (1, .int x1), (2, .int x2)] := hl
  have hn_X7 : ∀ w ∈ u_ws RX7 TX7 35, w ∈ wsX7_holds := by decide +kernel
  have hf_23 := hts (.fieldLink RX7 23 "TypeFlowModel" "classes0" "[I") (by decide +kernel)
  have hf_26 := hts (.fieldLink RX7 26 "TypeFlowModel" "first" "[I") (by decide +kernel)
  have hf_29 := hts (.fieldLink RX7 29 "TypeFlowModel" "second" "[I") (by decide +kernel)
  have hf_62 := hts (.fieldLink RX7 62 "TypeFlowModel" "held" "[I") (by decide +kernel)
  have hf_65 := hts (.fieldLink RX7 65 "TypeFlowModel" "wasHeld" "[Z") (by decide +kernel)
  have hf_165 := hts (.fieldLink RX7 165 "TypeFlowModel" "pairs" "I") (by decide +kernel)
  have j177 : ∀ (k33 : tf_S → Option (Int32 × tf_S)), (∀ (σ : tf_S) (H : Heap) (locs : List Loc) (ls : Array Slot), k33 σ = some z → tf_I D (tf_wm ad cI cZ) s.heap σ H locs → lv_has ls 5 [(0, .ref (ad 0))] → W p l e (headSpec wsX7_holds ({ frames := 2, cells := 0, slots := 0, locals := 43 })).room s m ([.ref (ad 0), .int x1, .int x2] : List Value).toArray below meth c H locs 0 0 (tf_Q below D (tf_wm ad cI cZ) z ([.ref (ad 0), .int x1, .int x2] : List Value).toArray s) (F0 m 33 ls [])) → ∀ (σ : tf_S) (y3 y4 : Int32) (H : Heap) (locs : List Loc) (ls : Array Slot), fX7_holds_177 x1 x2 k33 σ y3 y4 = some z → tf_I D (tf_wm ad cI cZ) s.heap σ H locs → lv_has ls 5 [(0, .ref (ad 0)), (3, .int y3), (4, .int y4)] → W p l e (headSpec wsX7_holds ({ frames := 2, cells := 0, slots := 0, locals := 43 })).room s m ([.ref (ad 0), .int x1, .int x2] : List Value).toArray below meth c H locs 0 0 (tf_Q below D (tf_wm ad cI cZ) z ([.ref (ad 0), .int x1, .int x2] : List Value).toArray s) (F0 m 177 ls []) := by
    intro k33 hk33 σ y3 y4 H locs ls h hI hl
    unfold fX7_holds_177 at h
    refine lv_aload_n hx hb dX7_holds_177 rfl (lv_at hl 0 rfl) ?_
    refine tf_get (C := RX7) (T := TX7) (N := 35) hx hb hts hn_X7 hown hK hI 0 (tf_mat_0 ad cI cZ _) rfl 5 (by decide) hf_26 rfl rfl dX7_holds_178 ?_
    refine lv_iload_n hx hb dX7_holds_181 rfl (lv_at hl 1 rfl) ?_
    obtain ⟨b25, h⟩ := tf_gin h
    refine va_iald hx hb hK hI.1 4 0 (tf_mat_4 ad cI cZ _) rfl b25 dX7_holds_182 ?_
    refine lv_if_lt (tgt := 203) hx hb dX7_holds_183 (by decide) (fun c26 => ?_) (fun c26 => ?_)
    · replace h := tf_pos c26 h
      refine lv_goto (tgt := 33) hx hb dX7_holds_203 (by decide) ?_
      exact hk33 _ _ _ _ h hI (lv_sub hl [0] rfl)
    replace h := tf_neg c26 h
    refine lv_aload_n hx hb dX7_holds_186 rfl (lv_at hl 0 rfl) ?_
    refine lv_aload_n hx hb dX7_holds_187 rfl (lv_at hl 0 rfl) ?_
    refine tf_get (C := RX7) (T := TX7) (N := 35) hx hb hts hn_X7 hown hK hI 0 (tf_mat_0 ad cI cZ _) rfl 5 (by decide) hf_26 rfl rfl dX7_holds_188 ?_
    refine lv_iload_n hx hb dX7_holds_191 rfl (lv_at hl 1 rfl) ?_
    obtain ⟨b27, h⟩ := tf_gin h
    refine va_iald hx hb hK hI.1 4 0 (tf_mat_4 ad cI cZ _) rfl b27 dX7_holds_192 ?_
    refine lv_aload_n hx hb dX7_holds_193 rfl (lv_at hl 0 rfl) ?_
    refine tf_get (C := RX7) (T := TX7) (N := 35) hx hb hts hn_X7 hown hK hI 0 (tf_mat_0 ad cI cZ _) rfl 5 (by decide) hf_26 rfl rfl dX7_holds_194 ?_
    refine lv_iload hx hb dX7_holds_197 (lv_at hl 2 rfl) ?_
    obtain ⟨b28, h⟩ := tf_gin h
    refine va_iald hx hb hK hI.1 4 0 (tf_mat_4 ad cI cZ _) rfl b28 dX7_holds_199 ?_
    obtain ⟨u29, q30, h⟩ := tf_gbind h
    refine tf_callVv (rest := []) ⟨hx, hb, hml, hown, hts⟩ hK hN hI (kM_X7_holdPair l D ad cI cZ _ _ _ _ q30) (cwV 2 hts gX7_holds_X7_holdPair rfl rfl rfl (by decide +kernel) ⟨Nat.le_of_ble_eq_true rfl, Nat.le_of_ble_eq_true rfl⟩) 0 7 (tf_mat_0 ad cI cZ _) rfl rfl hl.1 rfl (Nat.le_of_ble_eq_true rfl) dX7_holds_200 (fun H locs hI => ?_)
    refine lv_goto (tgt := 33) hx hb dX7_holds_203 (by decide) ?_
    exact hk33 _ _ _ _ h hI (lv_sub hl [0] rfl)
  have j33 : ∀ n : Nat, ∀ (σ : tf_S) (H : Heap) (locs : List Loc) (ls : Array Slot), fX7_holds_33 x1 x2 n σ = some z → tf_I D (tf_wm ad cI cZ) s.heap σ H locs → lv_has ls 5 [(0, .ref (ad 0))] → W p l e (headSpec wsX7_holds ({ frames := 2, cells := 0, slots := 0, locals := 43 })).room s m ([.ref (ad 0), .int x1, .int x2] : List Value).toArray below meth c H locs 0 0 (tf_Q below D (tf_wm ad cI cZ) z ([.ref (ad 0), .int x1, .int x2] : List Value).toArray s) (F0 m 33 ls []) := by
    intro n
    induction n with
    | zero =>
      intro σ H locs ls h
      rw [fX7_holds_33] at h
      cases h
    | succ n ih =>
      intro σ H locs ls h hI hl
      rw [fX7_holds_33] at h
      refine lv_aload_n hx hb dX7_holds_33 rfl (lv_at hl 0 rfl) ?_
      refine tf_get (C := RX7) (T := TX7) (N := 35) hx hb hts hn_X7 hown hK hI 0 (tf_mat_0 ad cI cZ _) rfl 23 (by decide) hf_165 rfl rfl dX7_holds_34 ?_
      refine lv_if_le (tgt := 206) hx hb dX7_holds_37 (by decide) (fun c5 => ?_) (fun c5 => ?_)
      · replace h := tf_pos c5 h
        refine lv_iconst (v := 1) hx hb dX7_holds_206 (by decide +kernel) ?_
        exact tf_zret hx hb hr (Or.inr rfl) hI h dX7_holds_207 hlocks
      replace h := tf_neg c5 h
      refine lv_aload_n hx hb dX7_holds_40 rfl (lv_at hl 0 rfl) ?_
      refine lv_dup hx hb dX7_holds_41 rfl ?_
      refine tf_get (C := RX7) (T := TX7) (N := 35) hx hb hts hn_X7 hown hK hI 0 (tf_mat_0 ad cI cZ _) rfl 23 (by decide) hf_165 rfl rfl dX7_holds_42 ?_
      refine lv_iconst (v := 1) hx hb dX7_holds_45 (by decide +kernel) ?_
      refine lv_isub hx hb dX7_holds_46 ?_
      obtain ⟨s6, es6, h⟩ := tf_glet h
      refine tf_put (C := RX7) (T := TX7) (N := 35) (ty := .int) hx hb hts hn_X7 tyX7 tyX7_ok nmX7 hown hK hI 0 (tf_mat_0 ad cI cZ _) rfl 23 (by decide) hf_165 rfl rfl (by decide +kernel) rfl rfl (Nat.le_of_ble_eq_true rfl) (tf_mput_0_23 ad cI cZ _ _) es6 dX7_holds_47 (fun H locs hI => ?_)
      refine lv_aload_n hx hb dX7_holds_50 rfl (lv_at hl 0 rfl) ?_
      refine tf_get (C := RX7) (T := TX7) (N := 35) hx hb hts hn_X7 hown hK hI 0 (tf_mat_0 ad cI cZ _) rfl 21 (by decide) hf_62 rfl rfl dX7_holds_51 ?_
      refine lv_iconst (v := 2) hx hb dX7_holds_54 (by decide +kernel) ?_
      refine lv_aload_n hx hb dX7_holds_55 rfl (lv_at hl 0 rfl) ?_
      refine tf_get (C := RX7) (T := TX7) (N := 35) hx hb hts hn_X7 hown hK hI 0 (tf_mat_0 ad cI cZ _) rfl 23 (by decide) hf_165 rfl rfl dX7_holds_56 ?_
      refine lv_imul hx hb dX7_holds_59 ?_
      obtain ⟨b7, h⟩ := tf_gin h
      refine va_iald hx hb hK hI.1 16 0 (tf_mat_16 ad cI cZ _) rfl b7 dX7_holds_60 ?_
      obtain ⟨v8, ev8, h⟩ := tf_glet h
      refine tf_top ev8 ?_
      refine lv_istore_n (lv' := [(3, .int v8), (0, .ref (ad 0))]) hx hb dX7_holds_61 rfl hl (by decide) rfl (fun ls hl => ?_)
      refine lv_aload_n hx hb dX7_holds_62 rfl (lv_at hl 1 rfl) ?_
      refine tf_get (C := RX7) (T := TX7) (N := 35) hx hb hts hn_X7 hown hK hI 0 (tf_mat_0 ad cI cZ _) rfl 21 (by decide) hf_62 rfl rfl dX7_holds_63 ?_
      refine lv_iconst (v := 2) hx hb dX7_holds_66 (by decide +kernel) ?_
      refine lv_aload_n hx hb dX7_holds_67 rfl (lv_at hl 1 rfl) ?_
      refine tf_get (C := RX7) (T := TX7) (N := 35) hx hb hts hn_X7 hown hK hI 0 (tf_mat_0 ad cI cZ _) rfl 23 (by decide) hf_165 rfl rfl dX7_holds_68 ?_
      refine lv_imul hx hb dX7_holds_71 ?_
      refine lv_iconst (v := 1) hx hb dX7_holds_72 (by decide +kernel) ?_
      refine lv_iadd hx hb dX7_holds_73 ?_
      obtain ⟨b9, h⟩ := tf_gin h
      refine va_iald hx hb hK hI.1 16 0 (tf_mat_16 ad cI cZ _) rfl b9 dX7_holds_74 ?_
      obtain ⟨v10, ev10, h⟩ := tf_glet h
      refine tf_top ev10 ?_
      refine lv_istore (lv' := [(4, .int v10), (3, .int v8), (0, .ref (ad 0))]) hx hb dX7_holds_75 hl (by decide) rfl (fun ls hl => ?_)
      refine lv_iload_n hx hb dX7_holds_77 rfl (lv_at hl 1 rfl) ?_
      refine lv_iconst (v := 4) hx hb dX7_holds_78 (by decide +kernel) ?_
      refine lv_icmp_eq (tgt := 87) hx hb dX7_holds_79 (by decide) (fun c11 => ?_) (fun c11 => ?_)
      · replace h := tf_pos c11 h
        refine lv_aload_n hx hb dX7_holds_87 rfl (lv_at hl 2 rfl) ?_
        refine lv_iload_n hx hb dX7_holds_88 rfl (lv_at hl 1 rfl) ?_
        refine lv_iconst (v := 4) hx hb dX7_holds_89 (by decide +kernel) ?_
        refine lv_isub hx hb dX7_holds_90 ?_
        refine lv_iload hx hb dX7_holds_91 (lv_at hl 0 rfl) ?_
        obtain ⟨u12, q13, h⟩ := tf_gbind h
        refine tf_callV (rest := []) ⟨hx, hb, hml, hown, hts⟩ hK hN hI (kM_X7_binds l D ad cI cZ _ _ _ _ q13) (cwV 2 hts gX7_holds_X7_binds rfl rfl rfl (by decide +kernel) ⟨Nat.le_of_ble_eq_true rfl, Nat.le_of_ble_eq_true rfl⟩) 0 7 (tf_mat_0 ad cI cZ _) rfl rfl hl.1 rfl (Nat.le_of_ble_eq_true rfl) dX7_holds_93 (fun H locs hI => ?_)
        refine lv_if_ne (tgt := 203) hx hb dX7_holds_96 (by decide) (fun c14 => ?_) (fun c14 => ?_)
        · replace h := tf_neg c14 h
          refine lv_goto (tgt := 33) hx hb dX7_holds_203 (by decide) ?_
          exact ih _ _ _ _ h hI (lv_sub hl [2] rfl)
        replace h := tf_pos c14 h
        refine lv_iconst (v := 0) hx hb dX7_holds_99 (by decide +kernel) ?_
        exact tf_zret hx hb hr (Or.inl rfl) hI h dX7_holds_100 hlocks
      replace h := tf_neg c11 h
      refine lv_iload_n hx hb dX7_holds_82 rfl (lv_at hl 1 rfl) ?_
      refine lv_iconst (v := 5) hx hb dX7_holds_83 (by decide +kernel) ?_
      refine lv_icmp_ne (tgt := 101) hx hb dX7_holds_84 (by decide) (fun c15 => ?_) (fun c15 => ?_)
      · replace h := tf_neg c15 h
        refine lv_aload_n hx hb dX7_holds_101 rfl (lv_at hl 2 rfl) ?_
        refine tf_get (C := RX7) (T := TX7) (N := 35) hx hb hts hn_X7 hown hK hI 0 (tf_mat_0 ad cI cZ _) rfl 22 (by decide) hf_65 rfl rfl dX7_holds_102 ?_
        refine lv_bipush (v := 80) hx hb dX7_holds_105 (by decide +kernel) ?_
        refine lv_iload_n hx hb dX7_holds_107 rfl (lv_at hl 1 rfl) ?_
        refine lv_imul hx hb dX7_holds_108 ?_
        refine lv_iload hx hb dX7_holds_109 (lv_at hl 0 rfl) ?_
        refine lv_iadd hx hb dX7_holds_111 ?_
        obtain ⟨b16, h⟩ := tf_gin h
        refine va_zald hx hb hK hI.1 17 1 (tf_mat_17 ad cI cZ _) rfl b16 dX7_holds_112 ?_
        refine lv_if_ne (tgt := 203) hx hb dX7_holds_113 (by decide) (fun c17 => ?_) (fun c17 => ?_)
        · replace h := tf_neg c17 h
          refine lv_goto (tgt := 33) hx hb dX7_holds_203 (by decide) ?_
          exact ih _ _ _ _ h hI (lv_sub hl [2] rfl)
        replace h := tf_pos c17 h
        refine lv_aload_n hx hb dX7_holds_116 rfl (lv_at hl 2 rfl) ?_
        refine tf_get (C := RX7) (T := TX7) (N := 35) hx hb hts hn_X7 hown hK hI 0 (tf_mat_0 ad cI cZ _) rfl 22 (by decide) hf_65 rfl rfl dX7_holds_117 ?_
        refine lv_bipush (v := 80) hx hb dX7_holds_120 (by decide +kernel) ?_
        refine lv_iload_n hx hb dX7_holds_122 rfl (lv_at hl 1 rfl) ?_
        refine lv_imul hx hb dX7_holds_123 ?_
        refine lv_iload hx hb dX7_holds_124 (lv_at hl 0 rfl) ?_
        refine lv_iadd hx hb dX7_holds_126 ?_
        refine lv_iconst (v := 1) hx hb dX7_holds_127 (by decide +kernel) ?_
        obtain ⟨b18, h⟩ := tf_gin h
        obtain ⟨s19, es19, h⟩ := tf_glet h
        refine tf_zast hx hb hK hI 17 1 (tf_mat_17 ad cI cZ _) (tf_mset_17 ad cI cZ _) rfl b18 (Or.inr rfl) es19 dX7_holds_128 (fun H locs hI => ?_)
        refine lv_aload_n hx hb dX7_holds_129 rfl (lv_at hl 2 rfl) ?_
        refine tf_get (C := RX7) (T := TX7) (N := 35) hx hb hts hn_X7 hown hK hI 0 (tf_mat_0 ad cI cZ _) rfl 4 (by decide) hf_23 rfl rfl dX7_holds_130 ?_
        refine lv_iload_n hx hb dX7_holds_133 rfl (lv_at hl 1 rfl) ?_
        obtain ⟨b20, h⟩ := tf_gin h
        refine va_iald hx hb hK hI.1 3 0 (tf_mat_3 ad cI cZ _) rfl b20 dX7_holds_134 ?_
        refine lv_aload_n hx hb dX7_holds_135 rfl (lv_at hl 2 rfl) ?_
        refine tf_get (C := RX7) (T := TX7) (N := 35) hx hb hts hn_X7 hown hK hI 0 (tf_mat_0 ad cI cZ _) rfl 4 (by decide) hf_23 rfl rfl dX7_holds_136 ?_
        refine lv_iload hx hb dX7_holds_139 (lv_at hl 0 rfl) ?_
        obtain ⟨b21, h⟩ := tf_gin h
        refine va_iald hx hb hK hI.1 3 0 (tf_mat_3 ad cI cZ _) rfl b21 dX7_holds_141 ?_
        refine lv_icmp_eq (tgt := 151) hx hb dX7_holds_142 (by decide) (fun c22 => ?_) (fun c22 => ?_)
        · replace h := tf_pos c22 h
          refine lv_aload_n hx hb dX7_holds_151 rfl (lv_at hl 2 rfl) ?_
          refine tf_get (C := RX7) (T := TX7) (N := 35) hx hb hts hn_X7 hown hK hI 0 (tf_mat_0 ad cI cZ _) rfl 6 (by decide) hf_29 rfl rfl dX7_holds_152 ?_
          refine lv_iload_n hx hb dX7_holds_155 rfl (lv_at hl 1 rfl) ?_
          obtain ⟨b23, h⟩ := tf_gin h
          refine va_iald hx hb hK hI.1 5 0 (tf_mat_5 ad cI cZ _) rfl b23 dX7_holds_156 ?_
          refine lv_if_lt (tgt := 177) hx hb dX7_holds_157 (by decide) (fun c24 => ?_) (fun c24 => ?_)
          · replace h := tf_pos c24 h
            exact j177 _ ih _ _ _ _ _ _ h hI (lv_sub hl [2, 1, 0] rfl)
          replace h := tf_neg c24 h
          refine lv_aload_n hx hb dX7_holds_160 rfl (lv_at hl 2 rfl) ?_
          refine lv_aload_n hx hb dX7_holds_161 rfl (lv_at hl 2 rfl) ?_
          refine tf_get (C := RX7) (T := TX7) (N := 35) hx hb hts hn_X7 hown hK hI 0 (tf_mat_0 ad cI cZ _) rfl 6 (by decide) hf_29 rfl rfl dX7_holds_162 ?_
          refine lv_iload_n hx hb dX7_holds_165 rfl (lv_at hl 1 rfl) ?_
          obtain ⟨b31, h⟩ := tf_gin h
          refine va_iald hx hb hK hI.1 5 0 (tf_mat_5 ad cI cZ _) rfl b31 dX7_holds_166 ?_
          refine lv_aload_n hx hb dX7_holds_167 rfl (lv_at hl 2 rfl) ?_
          refine tf_get (C := RX7) (T := TX7) (N := 35) hx hb hts hn_X7 hown hK hI 0 (tf_mat_0 ad cI cZ _) rfl 6 (by decide) hf_29 rfl rfl dX7_holds_168 ?_
          refine lv_iload hx hb dX7_holds_171 (lv_at hl 0 rfl) ?_
          obtain ⟨b32, h⟩ := tf_gin h
          refine va_iald hx hb hK hI.1 5 0 (tf_mat_5 ad cI cZ _) rfl b32 dX7_holds_173 ?_
          obtain ⟨u33, q34, h⟩ := tf_gbind h
          refine tf_callVv (rest := []) ⟨hx, hb, hml, hown, hts⟩ hK hN hI (kM_X7_holdPair l D ad cI cZ _ _ _ _ q34) (cwV 2 hts gX7_holds_X7_holdPair rfl rfl rfl (by decide +kernel) ⟨Nat.le_of_ble_eq_true rfl, Nat.le_of_ble_eq_true rfl⟩) 0 7 (tf_mat_0 ad cI cZ _) rfl rfl hl.1 rfl (Nat.le_of_ble_eq_true rfl) dX7_holds_174 (fun H locs hI => ?_)
          exact j177 _ ih _ _ _ _ _ _ h hI (lv_sub hl [2, 1, 0] rfl)
        replace h := tf_neg c22 h
        refine lv_aload_n hx hb dX7_holds_145 rfl (lv_at hl 2 rfl) ?_
        refine lv_iconst (v := 1) hx hb dX7_holds_146 (by decide +kernel) ?_
        obtain ⟨u35, q36, h⟩ := tf_gbind h
        refine tf_callV (rest := []) ⟨hx, hb, hml, hown, hts⟩ hK hN hI (kM_X7_fails l D ad cI cZ _ _ _ q36) (cwV 1 hts gX7_holds_X7_fails rfl rfl rfl (by decide +kernel) ⟨Nat.le_of_ble_eq_true rfl, Nat.le_of_ble_eq_true rfl⟩) 0 7 (tf_mat_0 ad cI cZ _) rfl rfl hl.1 rfl (Nat.le_of_ble_eq_true rfl) dX7_holds_147 (fun H locs hI => ?_)
        obtain ⟨b37, h⟩ := tf_gbz h
        exact tf_zret hx hb hr b37 hI h dX7_holds_150 hlocks
      replace h := tf_pos c15 h
      refine lv_aload_n hx hb dX7_holds_87 rfl (lv_at hl 2 rfl) ?_
      refine lv_iload_n hx hb dX7_holds_88 rfl (lv_at hl 1 rfl) ?_
      refine lv_iconst (v := 4) hx hb dX7_holds_89 (by decide +kernel) ?_
      refine lv_isub hx hb dX7_holds_90 ?_
      refine lv_iload hx hb dX7_holds_91 (lv_at hl 0 rfl) ?_
      obtain ⟨u38, q39, h⟩ := tf_gbind h
      refine tf_callV (rest := []) ⟨hx, hb, hml, hown, hts⟩ hK hN hI (kM_X7_binds l D ad cI cZ _ _ _ _ q39) (cwV 2 hts gX7_holds_X7_binds rfl rfl rfl (by decide +kernel) ⟨Nat.le_of_ble_eq_true rfl, Nat.le_of_ble_eq_true rfl⟩) 0 7 (tf_mat_0 ad cI cZ _) rfl rfl hl.1 rfl (Nat.le_of_ble_eq_true rfl) dX7_holds_93 (fun H locs hI => ?_)
      refine lv_if_ne (tgt := 203) hx hb dX7_holds_96 (by decide) (fun c40 => ?_) (fun c40 => ?_)
      · replace h := tf_neg c40 h
        refine lv_goto (tgt := 33) hx hb dX7_holds_203 (by decide) ?_
        exact ih _ _ _ _ h hI (lv_sub hl [2] rfl)
      replace h := tf_pos c40 h
      refine lv_iconst (v := 0) hx hb dX7_holds_99 (by decide +kernel) ?_
      exact tf_zret hx hb hr (Or.inl rfl) hI h dX7_holds_100 hlocks
  have j2 : ∀ n : Nat, ∀ (σ : tf_S) (y3 : Int32) (H : Heap) (locs : List Loc) (ls : Array Slot), fX7_holds_2 x1 x2 n σ y3 = some z → tf_I D (tf_wm ad cI cZ) s.heap σ H locs → lv_has ls 5 [(0, .ref (ad 0)), (1, .int x1), (2, .int x2), (3, .int y3)] → W p l e (headSpec wsX7_holds ({ frames := 2, cells := 0, slots := 0, locals := 43 })).room s m ([.ref (ad 0), .int x1, .int x2] : List Value).toArray below meth c H locs 0 0 (tf_Q below D (tf_wm ad cI cZ) z ([.ref (ad 0), .int x1, .int x2] : List Value).toArray s) (F0 m 2 ls []) := by
    intro n
    induction n with
    | zero =>
      intro σ y3 H locs ls h
      rw [fX7_holds_2] at h
      cases h
    | succ n ih =>
      intro σ y3 H locs ls h hI hl
      rw [fX7_holds_2] at h
      refine lv_iload_n hx hb dX7_holds_2 rfl (lv_at hl 3 rfl) ?_
      refine lv_sipush (v := 6400) hx hb dX7_holds_3 (by decide +kernel) ?_
      refine lv_icmp_ge (tgt := 22) hx hb dX7_holds_6 (by decide) (fun c1 => ?_) (fun c1 => ?_)
      · replace h := tf_pos c1 h
        refine lv_aload_n hx hb dX7_holds_22 rfl (lv_at hl 0 rfl) ?_
        refine lv_iconst (v := 0) hx hb dX7_holds_23 (by decide +kernel) ?_
        obtain ⟨s2, es2, h⟩ := tf_glet h
        refine tf_put (C := RX7) (T := TX7) (N := 35) (ty := .int) hx hb hts hn_X7 tyX7 tyX7_ok nmX7 hown hK hI 0 (tf_mat_0 ad cI cZ _) rfl 23 (by decide) hf_165 rfl rfl (by decide +kernel) rfl rfl (Nat.le_of_ble_eq_true rfl) (tf_mput_0_23 ad cI cZ _ _) es2 dX7_holds_24 (fun H locs hI => ?_)
        refine lv_aload_n hx hb dX7_holds_27 rfl (lv_at hl 0 rfl) ?_
        refine lv_iload_n hx hb dX7_holds_28 rfl (lv_at hl 1 rfl) ?_
        refine lv_iload_n hx hb dX7_holds_29 rfl (lv_at hl 2 rfl) ?_
        obtain ⟨u3, q4, h⟩ := tf_gbind h
        refine tf_callVv (rest := []) ⟨hx, hb, hml, hown, hts⟩ hK hN hI (kM_X7_holdPair l D ad cI cZ _ _ _ _ q4) (cwV 2 hts gX7_holds_X7_holdPair rfl rfl rfl (by decide +kernel) ⟨Nat.le_of_ble_eq_true rfl, Nat.le_of_ble_eq_true rfl⟩) 0 7 (tf_mat_0 ad cI cZ _) rfl rfl hl.1 rfl (Nat.le_of_ble_eq_true rfl) dX7_holds_30 (fun H locs hI => ?_)
        exact j33  _ _ _ _ _ h hI (lv_sub hl [0] rfl)
      replace h := tf_neg c1 h
      refine lv_aload_n hx hb dX7_holds_9 rfl (lv_at hl 0 rfl) ?_
      refine tf_get (C := RX7) (T := TX7) (N := 35) hx hb hts hn_X7 hown hK hI 0 (tf_mat_0 ad cI cZ _) rfl 22 (by decide) hf_65 rfl rfl dX7_holds_10 ?_
      refine lv_iload_n hx hb dX7_holds_13 rfl (lv_at hl 3 rfl) ?_
      refine lv_iconst (v := 0) hx hb dX7_holds_14 (by decide +kernel) ?_
      obtain ⟨b41, h⟩ := tf_gin h
      obtain ⟨s42, es42, h⟩ := tf_glet h
      refine tf_zast hx hb hK hI 17 1 (tf_mat_17 ad cI cZ _) (tf_mset_17 ad cI cZ _) rfl b41 (Or.inl rfl) es42 dX7_holds_15 (fun H locs hI => ?_)
      obtain ⟨v43, ev43, h⟩ := tf_glet h
      refine lv_iinc (v := v43) (lv' := [(3, .int v43), (0, .ref (ad 0)), (1, .int x1), (2, .int x2)]) hx hb dX7_holds_16 hl (k := 3) rfl (by rw [ev43]; rfl) (by decide) rfl (fun ls hl => ?_)
      refine lv_goto (tgt := 2) hx hb dX7_holds_19 (by decide) ?_
      exact ih _ _ _ _ _ h hI (lv_sub hl [1, 2, 3, 0] rfl)
  unfold fX7_holds at h
  refine lv_iconst (v := 0) hx hb dX7_holds_0 (by decide +kernel) ?_
  refine lv_istore_n (lv' := [(3, .int (0 : Int32)), (0, .ref (ad 0)), (1, .int x1), (2, .int x2)]) hx hb dX7_holds_1 rfl hl (by decide) rfl (fun ls hl => ?_)
  exact j2  _ _ _ _ _ _ h hI (lv_sub hl [1, 2, 3, 0] rfl)

set_option maxHeartbeats 4000000 in
set_option maxRecDepth 100000 in
theorem kM_X7_takes (l : Launch) (D : va_G) (ad : Nat → Nat) (cI cZ : ClassId) (σ : tf_S) (x1 x2 : Int32) (z : Int32 × tf_S) (h : fX7_takes σ x1 x2 = some z) : tf_C l D (tf_wm ad cI cZ) [(cI, .int), (cZ, .boolean)] [] yX7_takes wsX7_takes ({ frames := 4, cells := 0, slots := 0, locals := 95 }) [.ref (ad 0), .int x1, .int x2] σ z := by
  intro sz
  refine Met.ofW (cc := cX7_takes) (maxL := 4) (ret := (some .boolean)) (by decide) rfl ?_
  intro p e s m args below meth c s₁ B hml hv
  obtain ⟨rfl, hsz, hP, hK, hN, hD0⟩ := hv
  have hx := B.exec
  have hb := B.bytes
  have hr := B.returns
  have hts := atoms_spec (ws := wsX7_takes) B.pre
  have hown : s.vm.findClass RX7 = some m.cls := findClass_of_methodNamed B.named
  have hlocks := B.notSynchronized
  subst hsz
  have hI := tf_start (D := D) (tf_m_ad ad cI cZ) hP hD0
  have hl := lv_entry ([.ref (ad 0), .int x1, .int x2]) (n := 4) (Nat.le_of_ble_eq_true rfl)
  rw [lg_entry_eq]
  generalize (lg_sl ([.ref (ad 0), .int x1, .int x2]) ++ List.replicate (4 - (lg_sl ([.ref (ad 0), .int x1, .int x2])).length) Slot.unset).toArray = ls at hl ⊢
  have hl : lv_has ls 4 [(0, .ref (ad 0)), (1, .int x1), (2, .int x2)] := hl
  have hn_X7 : ∀ w ∈ u_ws RX7 TX7 35, w ∈ wsX7_takes := by decide +kernel
  have hf_23 := hts (.fieldLink RX7 23 "TypeFlowModel" "classes0" "[I") (by decide +kernel)
  unfold fX7_takes at h
  refine lv_iload_n hx hb dX7_takes_0 rfl (lv_at hl 1 rfl) ?_
  obtain ⟨u1, q2, h⟩ := tf_gbind h
  refine tf_callS (rest := []) ⟨hx, hb, hml, hown, hts⟩ hK hN hI (kM_X7_isPrimitive l D ad cI cZ _ _ _ q2) (va_cwS 1 hts gX7_takes_X7_isPrimitive rfl rfl rfl (by decide +kernel) ⟨Nat.le_of_ble_eq_true rfl, Nat.le_of_ble_eq_true rfl⟩) rfl hl.1 rfl (Nat.le_of_ble_eq_true rfl) dX7_takes_1 (fun H locs hI => ?_)
  refine lv_if_eq (tgt := 31) hx hb dX7_takes_4 (by decide) (fun c3 => ?_) (fun c3 => ?_)
  · replace h := tf_pos c3 h
    refine lv_iload_n hx hb dX7_takes_31 rfl (lv_at hl 2 rfl) ?_
    obtain ⟨u4, q5, h⟩ := tf_gbind h
    refine tf_callS (rest := []) ⟨hx, hb, hml, hown, hts⟩ hK hN hI (kM_X7_isPrimitive l D ad cI cZ _ _ _ q5) (va_cwS 1 hts gX7_takes_X7_isPrimitive rfl rfl rfl (by decide +kernel) ⟨Nat.le_of_ble_eq_true rfl, Nat.le_of_ble_eq_true rfl⟩) rfl hl.1 rfl (Nat.le_of_ble_eq_true rfl) dX7_takes_32 (fun H locs hI => ?_)
    refine lv_if_eq (tgt := 44) hx hb dX7_takes_35 (by decide) (fun c6 => ?_) (fun c6 => ?_)
    · replace h := tf_pos c6 h
      refine lv_iload_n hx hb dX7_takes_44 rfl (lv_at hl 1 rfl) ?_
      refine lv_bipush (v := 6) hx hb dX7_takes_45 (by decide +kernel) ?_
      refine lv_icmp_ge (tgt := 59) hx hb dX7_takes_47 (by decide) (fun c7 => ?_) (fun c7 => ?_)
      · replace h := tf_pos c7 h
        refine lv_aload_n hx hb dX7_takes_59 rfl (lv_at hl 0 rfl) ?_
        refine lv_iload_n hx hb dX7_takes_60 rfl (lv_at hl 2 rfl) ?_
        refine lv_aload_n hx hb dX7_takes_61 rfl (lv_at hl 0 rfl) ?_
        refine tf_get (C := RX7) (T := TX7) (N := 35) hx hb hts hn_X7 hown hK hI 0 (tf_mat_0 ad cI cZ _) rfl 4 (by decide) hf_23 rfl rfl dX7_takes_62 ?_
        refine lv_iload_n hx hb dX7_takes_65 rfl (lv_at hl 1 rfl) ?_
        obtain ⟨b8, h⟩ := tf_gin h
        refine va_iald hx hb hK hI.1 3 0 (tf_mat_3 ad cI cZ _) rfl b8 dX7_takes_66 ?_
        obtain ⟨u9, q10, h⟩ := tf_gbind h
        refine tf_callV (rest := []) ⟨hx, hb, hml, hown, hts⟩ hK hN hI (kM_X7_seenAs l D ad cI cZ _ _ _ _ q10) (cwV 2 hts gX7_takes_X7_seenAs rfl rfl rfl (by decide +kernel) ⟨Nat.le_of_ble_eq_true rfl, Nat.le_of_ble_eq_true rfl⟩) 0 7 (tf_mat_0 ad cI cZ _) rfl rfl hl.1 rfl (Nat.le_of_ble_eq_true rfl) dX7_takes_67 (fun H locs hI => ?_)
        obtain ⟨v11, ev11, h⟩ := tf_glet h
        refine tf_top ev11 ?_
        refine lv_istore_n (lv' := [(3, .int v11), (0, .ref (ad 0)), (1, .int x1), (2, .int x2)]) hx hb dX7_takes_70 rfl hl (by decide) rfl (fun ls hl => ?_)
        refine lv_iload_n hx hb dX7_takes_71 rfl (lv_at hl 0 rfl) ?_
        refine lv_if_ge (tgt := 92) hx hb dX7_takes_72 (by decide) (fun c12 => ?_) (fun c12 => ?_)
        · replace h := tf_pos c12 h
          refine lv_aload_n hx hb dX7_takes_92 rfl (lv_at hl 1 rfl) ?_
          refine lv_iload_n hx hb dX7_takes_93 rfl (lv_at hl 2 rfl) ?_
          refine lv_iload_n hx hb dX7_takes_94 rfl (lv_at hl 0 rfl) ?_
          obtain ⟨u13, q14, h⟩ := tf_gbind h
          refine tf_callV (rest := []) ⟨hx, hb, hml, hown, hts⟩ hK hN hI (kM_X7_holds l D ad cI cZ _ _ _ _ q14) (cwV 2 hts gX7_takes_X7_holds rfl rfl rfl (by decide +kernel) ⟨Nat.le_of_ble_eq_true rfl, Nat.le_of_ble_eq_true rfl⟩) 0 7 (tf_mat_0 ad cI cZ _) rfl rfl hl.1 rfl (Nat.le_of_ble_eq_true rfl) dX7_takes_95 (fun H locs hI => ?_)
          obtain ⟨b15, h⟩ := tf_gbz h
          exact tf_zret hx hb hr b15 hI h dX7_takes_98 hlocks
        replace h := tf_neg c12 h
        refine lv_aload_n hx hb dX7_takes_75 rfl (lv_at hl 1 rfl) ?_
        refine lv_iload_n hx hb dX7_takes_76 rfl (lv_at hl 0 rfl) ?_
        refine lv_bipush (v := -3) hx hb dX7_takes_77 (by decide +kernel) ?_
        refine lv_icmp_ne (tgt := 87) hx hb dX7_takes_79 (by decide) (fun c16 => ?_) (fun c16 => ?_)
        · replace h := tf_neg c16 h
          refine lv_iconst (v := 1) hx hb dX7_takes_87 (by decide +kernel) ?_
          obtain ⟨u17, q18, h⟩ := tf_gbind h
          refine tf_callV (rest := []) ⟨hx, hb, hml, hown, hts⟩ hK hN hI (kM_X7_fails l D ad cI cZ _ _ _ q18) (cwV 1 hts gX7_takes_X7_fails rfl rfl rfl (by decide +kernel) ⟨Nat.le_of_ble_eq_true rfl, Nat.le_of_ble_eq_true rfl⟩) 0 7 (tf_mat_0 ad cI cZ _) rfl rfl hl.1 rfl (Nat.le_of_ble_eq_true rfl) dX7_takes_88 (fun H locs hI => ?_)
          obtain ⟨b19, h⟩ := tf_gbz h
          exact tf_zret hx hb hr b19 hI h dX7_takes_91 hlocks
        replace h := tf_pos c16 h
        refine lv_bipush (v := 8) hx hb dX7_takes_82 (by decide +kernel) ?_
        refine lv_goto (tgt := 88) hx hb dX7_takes_84 (by decide) ?_
        obtain ⟨u20, q21, h⟩ := tf_gbind h
        refine tf_callV (rest := []) ⟨hx, hb, hml, hown, hts⟩ hK hN hI (kM_X7_fails l D ad cI cZ _ _ _ q21) (cwV 1 hts gX7_takes_X7_fails rfl rfl rfl (by decide +kernel) ⟨Nat.le_of_ble_eq_true rfl, Nat.le_of_ble_eq_true rfl⟩) 0 7 (tf_mat_0 ad cI cZ _) rfl rfl hl.1 rfl (Nat.le_of_ble_eq_true rfl) dX7_takes_88 (fun H locs hI => ?_)
        obtain ⟨b22, h⟩ := tf_gbz h
        exact tf_zret hx hb hr b22 hI h dX7_takes_91 hlocks
      replace h := tf_neg c7 h
      refine lv_aload_n hx hb dX7_takes_50 rfl (lv_at hl 0 rfl) ?_
      refine lv_iload_n hx hb dX7_takes_51 rfl (lv_at hl 1 rfl) ?_
      refine lv_iconst (v := 4) hx hb dX7_takes_52 (by decide +kernel) ?_
      refine lv_isub hx hb dX7_takes_53 ?_
      refine lv_iload_n hx hb dX7_takes_54 rfl (lv_at hl 2 rfl) ?_
      obtain ⟨u23, q24, h⟩ := tf_gbind h
      refine tf_callV (rest := []) ⟨hx, hb, hml, hown, hts⟩ hK hN hI (kM_X7_binds l D ad cI cZ _ _ _ _ q24) (cwV 2 hts gX7_takes_X7_binds rfl rfl rfl (by decide +kernel) ⟨Nat.le_of_ble_eq_true rfl, Nat.le_of_ble_eq_true rfl⟩) 0 7 (tf_mat_0 ad cI cZ _) rfl rfl hl.1 rfl (Nat.le_of_ble_eq_true rfl) dX7_takes_55 (fun H locs hI => ?_)
      obtain ⟨b25, h⟩ := tf_gbz h
      exact tf_zret hx hb hr b25 hI h dX7_takes_58 hlocks
    replace h := tf_neg c6 h
    refine lv_aload_n hx hb dX7_takes_38 rfl (lv_at hl 0 rfl) ?_
    refine lv_iconst (v := 1) hx hb dX7_takes_39 (by decide +kernel) ?_
    obtain ⟨u26, q27, h⟩ := tf_gbind h
    refine tf_callV (rest := []) ⟨hx, hb, hml, hown, hts⟩ hK hN hI (kM_X7_fails l D ad cI cZ _ _ _ q27) (cwV 1 hts gX7_takes_X7_fails rfl rfl rfl (by decide +kernel) ⟨Nat.le_of_ble_eq_true rfl, Nat.le_of_ble_eq_true rfl⟩) 0 7 (tf_mat_0 ad cI cZ _) rfl rfl hl.1 rfl (Nat.le_of_ble_eq_true rfl) dX7_takes_40 (fun H locs hI => ?_)
    obtain ⟨b28, h⟩ := tf_gbz h
    exact tf_zret hx hb hr b28 hI h dX7_takes_43 hlocks
  replace h := tf_neg c3 h
  refine lv_aload_n hx hb dX7_takes_7 rfl (lv_at hl 0 rfl) ?_
  refine lv_iload_n hx hb dX7_takes_8 rfl (lv_at hl 2 rfl) ?_
  refine lv_iload_n hx hb dX7_takes_9 rfl (lv_at hl 1 rfl) ?_
  obtain ⟨u29, q30, h⟩ := tf_gbind h
  refine tf_callV (rest := []) ⟨hx, hb, hml, hown, hts⟩ hK hN hI (kM_X7_goesFor l D ad cI cZ _ _ _ _ q30) (cwV 2 hts gX7_takes_X7_goesFor rfl rfl rfl (by decide +kernel) ⟨Nat.le_of_ble_eq_true rfl, Nat.le_of_ble_eq_true rfl⟩) 0 7 (tf_mat_0 ad cI cZ _) rfl rfl hl.1 rfl (Nat.le_of_ble_eq_true rfl) dX7_takes_10 (fun H locs hI => ?_)
  refine lv_iconst (v := 1) hx hb dX7_takes_13 (by decide +kernel) ?_
  refine lv_icmp_eq (tgt := 25) hx hb dX7_takes_14 (by decide) (fun c31 => ?_) (fun c31 => ?_)
  · replace h := tf_pos c31 h
    refine lv_iconst (v := 1) hx hb dX7_takes_25 (by decide +kernel) ?_
    refine lv_goto (tgt := 30) hx hb dX7_takes_26 (by decide) ?_
    exact tf_zret hx hb hr (Or.inr rfl) hI h dX7_takes_30 hlocks
  replace h := tf_neg c31 h
  refine lv_aload_n hx hb dX7_takes_17 rfl (lv_at hl 0 rfl) ?_
  refine lv_iconst (v := 1) hx hb dX7_takes_18 (by decide +kernel) ?_
  obtain ⟨u32, q33, h⟩ := tf_gbind h
  refine tf_callV (rest := []) ⟨hx, hb, hml, hown, hts⟩ hK hN hI (kM_X7_fails l D ad cI cZ _ _ _ q33) (cwV 1 hts gX7_takes_X7_fails rfl rfl rfl (by decide +kernel) ⟨Nat.le_of_ble_eq_true rfl, Nat.le_of_ble_eq_true rfl⟩) 0 7 (tf_mat_0 ad cI cZ _) rfl rfl hl.1 rfl (Nat.le_of_ble_eq_true rfl) dX7_takes_19 (fun H locs hI => ?_)
  refine lv_if_eq (tgt := 29) hx hb dX7_takes_22 (by decide) (fun c34 => ?_) (fun c34 => ?_)
  · replace h := tf_pos c34 h
    refine lv_iconst (v := 0) hx hb dX7_takes_29 (by decide +kernel) ?_
    exact tf_zret hx hb hr (Or.inl rfl) hI h dX7_takes_30 hlocks
  replace h := tf_neg c34 h
  refine lv_iconst (v := 1) hx hb dX7_takes_25 (by decide +kernel) ?_
  refine lv_goto (tgt := 30) hx hb dX7_takes_26 (by decide) ?_
  exact tf_zret hx hb hr (Or.inr rfl) hI h dX7_takes_30 hlocks

set_option maxHeartbeats 4000000 in
set_option maxRecDepth 100000 in
theorem kM_X7_orRoom (l : Launch) (D : va_G) (ad : Nat → Nat) (cI cZ : ClassId) (σ : tf_S) (x1 : Int32) (z : Int32 × tf_S) (h : fX7_orRoom σ x1 = some z) : tf_C l D (tf_wm ad cI cZ) [(cI, .int), (cZ, .boolean)] [] yX7_orRoom wsX7_orRoom ({ frames := 0, cells := 0, slots := 0, locals := 0 }) [.ref (ad 0), .int x1] σ z := by
  intro sz
  refine Met.ofW (cc := cX7_orRoom) (maxL := 2) (ret := (some .int)) (by decide) rfl ?_
  intro p e s m args below meth c s₁ B hml hv
  obtain ⟨rfl, hsz, hP, hK, hN, hD0⟩ := hv
  have hx := B.exec
  have hb := B.bytes
  have hr := B.returns
  have hts := atoms_spec (ws := wsX7_orRoom) B.pre
  have hown : s.vm.findClass RX7 = some m.cls := findClass_of_methodNamed B.named
  have hlocks := B.notSynchronized
  subst hsz
  have hI := tf_start (D := D) (tf_m_ad ad cI cZ) hP hD0
  have hl := lv_entry ([.ref (ad 0), .int x1]) (n := 2) (Nat.le_of_ble_eq_true rfl)
  rw [lg_entry_eq]
  generalize (lg_sl ([.ref (ad 0), .int x1]) ++ List.replicate (2 - (lg_sl ([.ref (ad 0), .int x1])).length) Slot.unset).toArray = ls at hl ⊢
  have hl : lv_has ls 2 [(0, .ref (ad 0)), (1, .int x1)] := hl
  have hn_X7 : ∀ w ∈ u_ws RX7 TX7 35, w ∈ wsX7_orRoom := by decide +kernel
  have hf_159 := hts (.fieldLink RX7 159 "TypeFlowModel" "reason" "I") (by decide +kernel)
  unfold fX7_orRoom at h
  refine lv_aload_n hx hb dX7_orRoom_0 rfl (lv_at hl 0 rfl) ?_
  refine lv_iload_n hx hb dX7_orRoom_1 rfl (lv_at hl 1 rfl) ?_
  refine lv_bipush (v := -3) hx hb dX7_orRoom_2 (by decide +kernel) ?_
  refine lv_icmp_ne (tgt := 12) hx hb dX7_orRoom_4 (by decide) (fun c1 => ?_) (fun c1 => ?_)
  · replace h := tf_neg c1 h
    refine lv_iconst (v := 0) hx hb dX7_orRoom_12 (by decide +kernel) ?_
    obtain ⟨s2, es2, h⟩ := tf_glet h
    refine tf_put (C := RX7) (T := TX7) (N := 35) (ty := .int) hx hb hts hn_X7 tyX7 tyX7_ok nmX7 hown hK hI 0 (tf_mat_0 ad cI cZ _) rfl 20 (by decide) hf_159 rfl rfl (by decide +kernel) rfl rfl (Nat.le_of_ble_eq_true rfl) (tf_mput_0_20 ad cI cZ _ _) es2 dX7_orRoom_13 (fun H locs hI => ?_)
    refine lv_iload_n hx hb dX7_orRoom_16 rfl (lv_at hl 1 rfl) ?_
    refine lv_bipush (v := -3) hx hb dX7_orRoom_17 (by decide +kernel) ?_
    refine lv_icmp_ne (tgt := 26) hx hb dX7_orRoom_19 (by decide) (fun c3 => ?_) (fun c3 => ?_)
    · replace h := tf_neg c3 h
      refine lv_iload_n hx hb dX7_orRoom_26 rfl (lv_at hl 1 rfl) ?_
      exact tf_iret hx hb hr hI h dX7_orRoom_27 hlocks
    replace h := tf_pos c3 h
    refine lv_iconst (v := -1) hx hb dX7_orRoom_22 (by decide +kernel) ?_
    refine lv_goto (tgt := 27) hx hb dX7_orRoom_23 (by decide) ?_
    exact tf_iret hx hb hr hI h dX7_orRoom_27 hlocks
  replace h := tf_pos c1 h
  refine lv_bipush (v := 8) hx hb dX7_orRoom_7 (by decide +kernel) ?_
  refine lv_goto (tgt := 13) hx hb dX7_orRoom_9 (by decide) ?_
  obtain ⟨s4, es4, h⟩ := tf_glet h
  refine tf_put (C := RX7) (T := TX7) (N := 35) (ty := .int) hx hb hts hn_X7 tyX7 tyX7_ok nmX7 hown hK hI 0 (tf_mat_0 ad cI cZ _) rfl 20 (by decide) hf_159 rfl rfl (by decide +kernel) rfl rfl (Nat.le_of_ble_eq_true rfl) (tf_mput_0_20 ad cI cZ _ _) es4 dX7_orRoom_13 (fun H locs hI => ?_)
  refine lv_iload_n hx hb dX7_orRoom_16 rfl (lv_at hl 1 rfl) ?_
  refine lv_bipush (v := -3) hx hb dX7_orRoom_17 (by decide +kernel) ?_
  refine lv_icmp_ne (tgt := 26) hx hb dX7_orRoom_19 (by decide) (fun c5 => ?_) (fun c5 => ?_)
  · replace h := tf_neg c5 h
    refine lv_iload_n hx hb dX7_orRoom_26 rfl (lv_at hl 1 rfl) ?_
    exact tf_iret hx hb hr hI h dX7_orRoom_27 hlocks
  replace h := tf_pos c5 h
  refine lv_iconst (v := -1) hx hb dX7_orRoom_22 (by decide +kernel) ?_
  refine lv_goto (tgt := 27) hx hb dX7_orRoom_23 (by decide) ?_
  exact tf_iret hx hb hr hI h dX7_orRoom_27 hlocks

set_option maxHeartbeats 4000000 in
set_option maxRecDepth 100000 in
theorem kM_X7_putTo (l : Launch) (D : va_G) (ad : Nat → Nat) (cI cZ : ClassId) (σ : tf_S) (x1 x2 x3 : Int32) (z : Int32 × tf_S) (h : fX7_putTo σ x1 x2 x3 = some z) : tf_C l D (tf_wm ad cI cZ) [(cI, .int), (cZ, .boolean)] [] yX7_putTo wsX7_putTo ({ frames := 5, cells := 0, slots := 0, locals := 118 }) [.ref (ad 0), .int x1, .int x2, .int x3] σ z := by
  intro sz
  refine Met.ofW (cc := cX7_putTo) (maxL := 6) (ret := (some .int)) (by decide) rfl ?_
  intro p e s m args below meth c s₁ B hml hv
  obtain ⟨rfl, hsz, hP, hK, hN, hD0⟩ := hv
  have hx := B.exec
  have hb := B.bytes
  have hr := B.returns
  have hts := atoms_spec (ws := wsX7_putTo) B.pre
  have hown : s.vm.findClass RX7 = some m.cls := findClass_of_methodNamed B.named
  have hlocks := B.notSynchronized
  subst hsz
  have hI := tf_start (D := D) (tf_m_ad ad cI cZ) hP hD0
  have hl := lv_entry ([.ref (ad 0), .int x1, .int x2, .int x3]) (n := 6) (Nat.le_of_ble_eq_true rfl)
  rw [lg_entry_eq]
  generalize (lg_sl ([.ref (ad 0), .int x1, .int x2, .int x3]) ++ List.replicate (6 - (lg_sl ([.ref (ad 0), .int x1, .int x2, .int x3])).length) Slot.unset).toArray = ls at hl ⊢
  have hl : lv_has ls 6 [(0, .ref (ad 0)), (1, .int x1), (2, .int x2), (3, .int x3)] := hl
  have hn_X7 : ∀ w ∈ u_ws RX7 TX7 35, w ∈ wsX7_putTo := by decide +kernel
  have hf_32 := hts (.fieldLink RX7 32 "TypeFlowModel" "free" "[I") (by decide +kernel)
  have hf_47 := hts (.fieldLink RX7 47 "TypeFlowModel" "one" "[I") (by decide +kernel)
  have hf_50 := hts (.fieldLink RX7 50 "TypeFlowModel" "two" "[I") (by decide +kernel)
  have hf_53 := hts (.fieldLink RX7 53 "TypeFlowModel" "result" "[I") (by decide +kernel)
  have hf_56 := hts (.fieldLink RX7 56 "TypeFlowModel" "bounds" "[I") (by decide +kernel)
  have hf_59 := hts (.fieldLink RX7 59 "TypeFlowModel" "bindings" "[I") (by decide +kernel)
  have hf_159 := hts (.fieldLink RX7 159 "TypeFlowModel" "reason" "I") (by decide +kernel)
  have j147 : ∀ n : Nat, ∀ (σ : tf_S) (y4 : Int32) (H : Heap) (locs : List Loc) (ls : Array Slot), fX7_putTo_147 x1 x2 x3 n σ y4 = some z → tf_I D (tf_wm ad cI cZ) s.heap σ H locs → lv_has ls 6 [(0, .ref (ad 0)), (1, .int x1), (4, .int y4)] → W p l e (headSpec wsX7_putTo ({ frames := 5, cells := 0, slots := 0, locals := 118 })).room s m ([.ref (ad 0), .int x1, .int x2, .int x3] : List Value).toArray below meth c H locs 0 0 (tf_Q below D (tf_wm ad cI cZ) z ([.ref (ad 0), .int x1, .int x2, .int x3] : List Value).toArray s) (F0 m 147 ls []) := by
    intro n
    induction n with
    | zero =>
      intro σ y4 H locs ls h
      rw [fX7_putTo_147] at h
      cases h
    | succ n ih =>
      intro σ y4 H locs ls h hI hl
      rw [fX7_putTo_147] at h
      refine lv_iload hx hb dX7_putTo_147 (lv_at hl 2 rfl) ?_
      refine lv_iconst (v := 2) hx hb dX7_putTo_149 (by decide +kernel) ?_
      refine lv_icmp_ge (tgt := 197) hx hb dX7_putTo_150 (by decide) (fun c12 => ?_) (fun c12 => ?_)
      · replace h := tf_pos c12 h
        refine lv_aload_n hx hb dX7_putTo_197 rfl (lv_at hl 0 rfl) ?_
        refine lv_aload_n hx hb dX7_putTo_198 rfl (lv_at hl 0 rfl) ?_
        refine lv_aload_n hx hb dX7_putTo_199 rfl (lv_at hl 0 rfl) ?_
        refine tf_get (C := RX7) (T := TX7) (N := 35) hx hb hts hn_X7 hown hK hI 0 (tf_mat_0 ad cI cZ _) rfl 17 (by decide) hf_53 rfl rfl dX7_putTo_200 ?_
        refine lv_iload_n hx hb dX7_putTo_203 rfl (lv_at hl 1 rfl) ?_
        obtain ⟨b13, h⟩ := tf_gin h
        refine va_iald hx hb hK hI.1 13 0 (tf_mat_13 ad cI cZ _) rfl b13 dX7_putTo_204 ?_
        refine lv_aload_n hx hb dX7_putTo_205 rfl (lv_at hl 0 rfl) ?_
        refine tf_get (C := RX7) (T := TX7) (N := 35) hx hb hts hn_X7 hown hK hI 0 (tf_mat_0 ad cI cZ _) rfl 19 (by decide) hf_59 rfl rfl dX7_putTo_206 ?_
        refine lv_iconst (v := 0) hx hb dX7_putTo_209 (by decide +kernel) ?_
        obtain ⟨b14, h⟩ := tf_gin h
        refine va_iald hx hb hK hI.1 15 0 (tf_mat_15 ad cI cZ _) rfl b14 dX7_putTo_210 ?_
        refine lv_aload_n hx hb dX7_putTo_211 rfl (lv_at hl 0 rfl) ?_
        refine tf_get (C := RX7) (T := TX7) (N := 35) hx hb hts hn_X7 hown hK hI 0 (tf_mat_0 ad cI cZ _) rfl 19 (by decide) hf_59 rfl rfl dX7_putTo_212 ?_
        refine lv_iconst (v := 1) hx hb dX7_putTo_215 (by decide +kernel) ?_
        obtain ⟨b15, h⟩ := tf_gin h
        refine va_iald hx hb hK hI.1 15 0 (tf_mat_15 ad cI cZ _) rfl b15 dX7_putTo_216 ?_
        obtain ⟨u16, q17, h⟩ := tf_gbind h
        refine tf_callV (rest := [.ref (ad 0)]) ⟨hx, hb, hml, hown, hts⟩ hK hN hI (kM_X7_put l D ad cI cZ _ _ _ _ _ q17) (cwV 3 hts gX7_putTo_X7_put rfl rfl rfl (by decide +kernel) ⟨Nat.le_of_ble_eq_true rfl, Nat.le_of_ble_eq_true rfl⟩) 0 7 (tf_mat_0 ad cI cZ _) rfl rfl hl.1 rfl (Nat.le_of_ble_eq_true rfl) dX7_putTo_217 (fun H locs hI => ?_)
        obtain ⟨u18, q19, h⟩ := tf_gbind h
        refine tf_callV (rest := []) ⟨hx, hb, hml, hown, hts⟩ hK hN hI (kM_X7_orRoom l D ad cI cZ _ _ _ q19) (cwV 1 hts gX7_putTo_X7_orRoom rfl rfl rfl (by decide +kernel) ⟨Nat.le_of_ble_eq_true rfl, Nat.le_of_ble_eq_true rfl⟩) 0 7 (tf_mat_0 ad cI cZ _) rfl rfl hl.1 rfl (Nat.le_of_ble_eq_true rfl) dX7_putTo_220 (fun H locs hI => ?_)
        exact tf_iret hx hb hr hI h dX7_putTo_223 hlocks
      replace h := tf_neg c12 h
      refine lv_aload_n hx hb dX7_putTo_153 rfl (lv_at hl 0 rfl) ?_
      refine tf_get (C := RX7) (T := TX7) (N := 35) hx hb hts hn_X7 hown hK hI 0 (tf_mat_0 ad cI cZ _) rfl 7 (by decide) hf_32 rfl rfl dX7_putTo_154 ?_
      refine lv_aload_n hx hb dX7_putTo_157 rfl (lv_at hl 0 rfl) ?_
      refine tf_get (C := RX7) (T := TX7) (N := 35) hx hb hts hn_X7 hown hK hI 0 (tf_mat_0 ad cI cZ _) rfl 17 (by decide) hf_53 rfl rfl dX7_putTo_158 ?_
      refine lv_iload_n hx hb dX7_putTo_161 rfl (lv_at hl 1 rfl) ?_
      obtain ⟨b20, h⟩ := tf_gin h
      refine va_iald hx hb hK hI.1 13 0 (tf_mat_13 ad cI cZ _) rfl b20 dX7_putTo_162 ?_
      obtain ⟨b21, h⟩ := tf_gin h
      refine va_iald hx hb hK hI.1 6 0 (tf_mat_6 ad cI cZ _) rfl b21 dX7_putTo_163 ?_
      refine lv_iload hx hb dX7_putTo_164 (lv_at hl 2 rfl) ?_
      refine lv_ishr hx hb dX7_putTo_166 ?_
      refine lv_iconst (v := 1) hx hb dX7_putTo_167 (by decide +kernel) ?_
      refine lv_iand hx hb dX7_putTo_168 ?_
      refine lv_iconst (v := 1) hx hb dX7_putTo_169 (by decide +kernel) ?_
      refine lv_icmp_ne (tgt := 191) hx hb dX7_putTo_170 (by decide) (fun c22 => ?_) (fun c22 => ?_)
      · replace h := tf_neg c22 h
        obtain ⟨v23, ev23, h⟩ := tf_glet h
        refine lv_iinc (v := v23) (lv' := [(4, .int v23), (0, .ref (ad 0)), (1, .int x1)]) hx hb dX7_putTo_191 hl (k := 2) rfl (by rw [ev23]; rfl) (by decide) rfl (fun ls hl => ?_)
        refine lv_goto (tgt := 147) hx hb dX7_putTo_194 (by decide) ?_
        exact ih _ _ _ _ _ h hI (lv_sub hl [1, 2, 0] rfl)
      replace h := tf_pos c22 h
      refine lv_aload_n hx hb dX7_putTo_173 rfl (lv_at hl 0 rfl) ?_
      refine tf_get (C := RX7) (T := TX7) (N := 35) hx hb hts hn_X7 hown hK hI 0 (tf_mat_0 ad cI cZ _) rfl 19 (by decide) hf_59 rfl rfl dX7_putTo_174 ?_
      refine lv_iload hx hb dX7_putTo_177 (lv_at hl 2 rfl) ?_
      obtain ⟨b24, h⟩ := tf_gin h
      refine va_iald hx hb hK hI.1 15 0 (tf_mat_15 ad cI cZ _) rfl b24 dX7_putTo_179 ?_
      refine lv_iconst (v := -1) hx hb dX7_putTo_180 (by decide +kernel) ?_
      refine lv_icmp_ne (tgt := 191) hx hb dX7_putTo_181 (by decide) (fun c25 => ?_) (fun c25 => ?_)
      · replace h := tf_neg c25 h
        obtain ⟨v26, ev26, h⟩ := tf_glet h
        refine lv_iinc (v := v26) (lv' := [(4, .int v26), (0, .ref (ad 0)), (1, .int x1)]) hx hb dX7_putTo_191 hl (k := 2) rfl (by rw [ev26]; rfl) (by decide) rfl (fun ls hl => ?_)
        refine lv_goto (tgt := 147) hx hb dX7_putTo_194 (by decide) ?_
        exact ih _ _ _ _ _ h hI (lv_sub hl [1, 2, 0] rfl)
      replace h := tf_pos c25 h
      refine lv_aload_n hx hb dX7_putTo_184 rfl (lv_at hl 0 rfl) ?_
      refine lv_iconst (v := 4) hx hb dX7_putTo_185 (by decide +kernel) ?_
      obtain ⟨s27, es27, h⟩ := tf_glet h
      refine tf_put (C := RX7) (T := TX7) (N := 35) (ty := .int) hx hb hts hn_X7 tyX7 tyX7_ok nmX7 hown hK hI 0 (tf_mat_0 ad cI cZ _) rfl 20 (by decide) hf_159 rfl rfl (by decide +kernel) rfl rfl (Nat.le_of_ble_eq_true rfl) (tf_mput_0_20 ad cI cZ _ _) es27 dX7_putTo_186 (fun H locs hI => ?_)
      refine lv_iconst (v := -1) hx hb dX7_putTo_189 (by decide +kernel) ?_
      exact tf_iret hx hb hr hI h dX7_putTo_190 hlocks
  have j57 : ∀ n : Nat, ∀ (σ : tf_S) (y4 : Int32) (H : Heap) (locs : List Loc) (ls : Array Slot), fX7_putTo_57 x1 x2 x3 n σ y4 = some z → tf_I D (tf_wm ad cI cZ) s.heap σ H locs → lv_has ls 6 [(0, .ref (ad 0)), (1, .int x1), (4, .int y4)] → W p l e (headSpec wsX7_putTo ({ frames := 5, cells := 0, slots := 0, locals := 118 })).room s m ([.ref (ad 0), .int x1, .int x2, .int x3] : List Value).toArray below meth c H locs 0 0 (tf_Q below D (tf_wm ad cI cZ) z ([.ref (ad 0), .int x1, .int x2, .int x3] : List Value).toArray s) (F0 m 57 ls []) := by
    intro n
    induction n with
    | zero =>
      intro σ y4 H locs ls h
      rw [fX7_putTo_57] at h
      cases h
    | succ n ih =>
      intro σ y4 H locs ls h hI hl
      rw [fX7_putTo_57] at h
      refine lv_iload hx hb dX7_putTo_57 (lv_at hl 2 rfl) ?_
      refine lv_iconst (v := 2) hx hb dX7_putTo_59 (by decide +kernel) ?_
      refine lv_icmp_ge (tgt := 144) hx hb dX7_putTo_60 (by decide) (fun c11 => ?_) (fun c11 => ?_)
      · replace h := tf_pos c11 h
        refine lv_iconst (v := 0) hx hb dX7_putTo_144 (by decide +kernel) ?_
        refine lv_istore (lv' := [(4, .int (0 : Int32)), (0, .ref (ad 0)), (1, .int x1)]) hx hb dX7_putTo_145 hl (by decide) rfl (fun ls hl => ?_)
        exact j147  _ _ _ _ _ _ h hI (lv_sub hl [1, 2, 0] rfl)
      replace h := tf_neg c11 h
      refine lv_aload_n hx hb dX7_putTo_63 rfl (lv_at hl 0 rfl) ?_
      refine tf_get (C := RX7) (T := TX7) (N := 35) hx hb hts hn_X7 hown hK hI 0 (tf_mat_0 ad cI cZ _) rfl 19 (by decide) hf_59 rfl rfl dX7_putTo_64 ?_
      refine lv_iload hx hb dX7_putTo_67 (lv_at hl 2 rfl) ?_
      obtain ⟨b28, h⟩ := tf_gin h
      refine va_iald hx hb hK hI.1 15 0 (tf_mat_15 ad cI cZ _) rfl b28 dX7_putTo_69 ?_
      refine lv_iconst (v := -1) hx hb dX7_putTo_70 (by decide +kernel) ?_
      refine lv_icmp_eq (tgt := 138) hx hb dX7_putTo_71 (by decide) (fun c29 => ?_) (fun c29 => ?_)
      · replace h := tf_pos c29 h
        obtain ⟨v30, ev30, h⟩ := tf_glet h
        refine lv_iinc (v := v30) (lv' := [(4, .int v30), (0, .ref (ad 0)), (1, .int x1)]) hx hb dX7_putTo_138 hl (k := 2) rfl (by rw [ev30]; rfl) (by decide) rfl (fun ls hl => ?_)
        refine lv_goto (tgt := 57) hx hb dX7_putTo_141 (by decide) ?_
        exact ih _ _ _ _ _ h hI (lv_sub hl [1, 2, 0] rfl)
      replace h := tf_neg c29 h
      refine lv_aload_n hx hb dX7_putTo_74 rfl (lv_at hl 0 rfl) ?_
      refine tf_get (C := RX7) (T := TX7) (N := 35) hx hb hts hn_X7 hown hK hI 0 (tf_mat_0 ad cI cZ _) rfl 18 (by decide) hf_56 rfl rfl dX7_putTo_75 ?_
      refine lv_iconst (v := 2) hx hb dX7_putTo_78 (by decide +kernel) ?_
      refine lv_iload_n hx hb dX7_putTo_79 rfl (lv_at hl 1 rfl) ?_
      refine lv_imul hx hb dX7_putTo_80 ?_
      refine lv_iload hx hb dX7_putTo_81 (lv_at hl 2 rfl) ?_
      refine lv_iadd hx hb dX7_putTo_83 ?_
      obtain ⟨b31, h⟩ := tf_gin h
      refine va_iald hx hb hK hI.1 14 0 (tf_mat_14 ad cI cZ _) rfl b31 dX7_putTo_84 ?_
      refine lv_iconst (v := -1) hx hb dX7_putTo_85 (by decide +kernel) ?_
      refine lv_icmp_eq (tgt := 138) hx hb dX7_putTo_86 (by decide) (fun c32 => ?_) (fun c32 => ?_)
      · replace h := tf_pos c32 h
        obtain ⟨v33, ev33, h⟩ := tf_glet h
        refine lv_iinc (v := v33) (lv' := [(4, .int v33), (0, .ref (ad 0)), (1, .int x1)]) hx hb dX7_putTo_138 hl (k := 2) rfl (by rw [ev33]; rfl) (by decide) rfl (fun ls hl => ?_)
        refine lv_goto (tgt := 57) hx hb dX7_putTo_141 (by decide) ?_
        exact ih _ _ _ _ _ h hI (lv_sub hl [1, 2, 0] rfl)
      replace h := tf_neg c32 h
      refine lv_aload_n hx hb dX7_putTo_89 rfl (lv_at hl 0 rfl) ?_
      refine lv_aload_n hx hb dX7_putTo_90 rfl (lv_at hl 0 rfl) ?_
      refine tf_get (C := RX7) (T := TX7) (N := 35) hx hb hts hn_X7 hown hK hI 0 (tf_mat_0 ad cI cZ _) rfl 19 (by decide) hf_59 rfl rfl dX7_putTo_91 ?_
      refine lv_iload hx hb dX7_putTo_94 (lv_at hl 2 rfl) ?_
      obtain ⟨b34, h⟩ := tf_gin h
      refine va_iald hx hb hK hI.1 15 0 (tf_mat_15 ad cI cZ _) rfl b34 dX7_putTo_96 ?_
      refine lv_aload_n hx hb dX7_putTo_97 rfl (lv_at hl 0 rfl) ?_
      refine tf_get (C := RX7) (T := TX7) (N := 35) hx hb hts hn_X7 hown hK hI 0 (tf_mat_0 ad cI cZ _) rfl 18 (by decide) hf_56 rfl rfl dX7_putTo_98 ?_
      refine lv_iconst (v := 2) hx hb dX7_putTo_101 (by decide +kernel) ?_
      refine lv_iload_n hx hb dX7_putTo_102 rfl (lv_at hl 1 rfl) ?_
      refine lv_imul hx hb dX7_putTo_103 ?_
      refine lv_iload hx hb dX7_putTo_104 (lv_at hl 2 rfl) ?_
      refine lv_iadd hx hb dX7_putTo_106 ?_
      obtain ⟨b35, h⟩ := tf_gin h
      refine va_iald hx hb hK hI.1 14 0 (tf_mat_14 ad cI cZ _) rfl b35 dX7_putTo_107 ?_
      obtain ⟨u36, q37, h⟩ := tf_gbind h
      refine tf_callV (rest := []) ⟨hx, hb, hml, hown, hts⟩ hK hN hI (kM_X7_goesFor l D ad cI cZ _ _ _ _ q37) (cwV 2 hts gX7_putTo_X7_goesFor rfl rfl rfl (by decide +kernel) ⟨Nat.le_of_ble_eq_true rfl, Nat.le_of_ble_eq_true rfl⟩) 0 7 (tf_mat_0 ad cI cZ _) rfl rfl hl.1 rfl (Nat.le_of_ble_eq_true rfl) dX7_putTo_108 (fun H locs hI => ?_)
      obtain ⟨v38, ev38, h⟩ := tf_glet h
      refine tf_top ev38 ?_
      refine lv_istore (lv' := [(5, .int v38), (0, .ref (ad 0)), (1, .int x1), (4, .int y4)]) hx hb dX7_putTo_111 hl (by decide) rfl (fun ls hl => ?_)
      refine lv_iload hx hb dX7_putTo_113 (lv_at hl 0 rfl) ?_
      refine lv_iconst (v := 1) hx hb dX7_putTo_115 (by decide +kernel) ?_
      refine lv_icmp_eq (tgt := 138) hx hb dX7_putTo_116 (by decide) (fun c39 => ?_) (fun c39 => ?_)
      · replace h := tf_pos c39 h
        obtain ⟨v40, ev40, h⟩ := tf_glet h
        refine lv_iinc (v := v40) (lv' := [(4, .int v40), (5, .int v38), (0, .ref (ad 0)), (1, .int x1)]) hx hb dX7_putTo_138 hl (k := 3) rfl (by rw [ev40]; rfl) (by decide) rfl (fun ls hl => ?_)
        refine lv_goto (tgt := 57) hx hb dX7_putTo_141 (by decide) ?_
        exact ih _ _ _ _ _ h hI (lv_sub hl [2, 3, 0] rfl)
      replace h := tf_neg c39 h
      refine lv_aload_n hx hb dX7_putTo_119 rfl (lv_at hl 1 rfl) ?_
      refine lv_iload hx hb dX7_putTo_120 (lv_at hl 0 rfl) ?_
      refine lv_bipush (v := -3) hx hb dX7_putTo_122 (by decide +kernel) ?_
      refine lv_icmp_ne (tgt := 132) hx hb dX7_putTo_124 (by decide) (fun c41 => ?_) (fun c41 => ?_)
      · replace h := tf_neg c41 h
        refine lv_iconst (v := 3) hx hb dX7_putTo_132 (by decide +kernel) ?_
        obtain ⟨s42, es42, h⟩ := tf_glet h
        refine tf_put (C := RX7) (T := TX7) (N := 35) (ty := .int) hx hb hts hn_X7 tyX7 tyX7_ok nmX7 hown hK hI 0 (tf_mat_0 ad cI cZ _) rfl 20 (by decide) hf_159 rfl rfl (by decide +kernel) rfl rfl (Nat.le_of_ble_eq_true rfl) (tf_mput_0_20 ad cI cZ _ _) es42 dX7_putTo_133 (fun H locs hI => ?_)
        refine lv_iconst (v := -1) hx hb dX7_putTo_136 (by decide +kernel) ?_
        exact tf_iret hx hb hr hI h dX7_putTo_137 hlocks
      replace h := tf_pos c41 h
      refine lv_bipush (v := 8) hx hb dX7_putTo_127 (by decide +kernel) ?_
      refine lv_goto (tgt := 133) hx hb dX7_putTo_129 (by decide) ?_
      obtain ⟨s43, es43, h⟩ := tf_glet h
      refine tf_put (C := RX7) (T := TX7) (N := 35) (ty := .int) hx hb hts hn_X7 tyX7 tyX7_ok nmX7 hown hK hI 0 (tf_mat_0 ad cI cZ _) rfl 20 (by decide) hf_159 rfl rfl (by decide +kernel) rfl rfl (Nat.le_of_ble_eq_true rfl) (tf_mput_0_20 ad cI cZ _ _) es43 dX7_putTo_133 (fun H locs hI => ?_)
      refine lv_iconst (v := -1) hx hb dX7_putTo_136 (by decide +kernel) ?_
      exact tf_iret hx hb hr hI h dX7_putTo_137 hlocks
  unfold fX7_putTo at h
  refine lv_aload_n hx hb dX7_putTo_0 rfl (lv_at hl 0 rfl) ?_
  refine tf_get (C := RX7) (T := TX7) (N := 35) hx hb hts hn_X7 hown hK hI 0 (tf_mat_0 ad cI cZ _) rfl 19 (by decide) hf_59 rfl rfl dX7_putTo_1 ?_
  refine lv_iconst (v := 0) hx hb dX7_putTo_4 (by decide +kernel) ?_
  refine lv_iconst (v := -1) hx hb dX7_putTo_5 (by decide +kernel) ?_
  obtain ⟨b1, h⟩ := tf_gin h
  obtain ⟨s2, es2, h⟩ := tf_glet h
  refine tf_iast hx hb hK hI 15 0 (tf_mat_15 ad cI cZ _) (tf_mset_15 ad cI cZ _) rfl b1 es2 dX7_putTo_6 (fun H locs hI => ?_)
  refine lv_aload_n hx hb dX7_putTo_7 rfl (lv_at hl 0 rfl) ?_
  refine tf_get (C := RX7) (T := TX7) (N := 35) hx hb hts hn_X7 hown hK hI 0 (tf_mat_0 ad cI cZ _) rfl 19 (by decide) hf_59 rfl rfl dX7_putTo_8 ?_
  refine lv_iconst (v := 1) hx hb dX7_putTo_11 (by decide +kernel) ?_
  refine lv_iconst (v := -1) hx hb dX7_putTo_12 (by decide +kernel) ?_
  obtain ⟨b3, h⟩ := tf_gin h
  obtain ⟨s4, es4, h⟩ := tf_glet h
  refine tf_iast hx hb hK hI 15 0 (tf_mat_15 ad cI cZ _) (tf_mset_15 ad cI cZ _) rfl b3 es4 dX7_putTo_13 (fun H locs hI => ?_)
  refine lv_aload_n hx hb dX7_putTo_14 rfl (lv_at hl 0 rfl) ?_
  refine lv_aload_n hx hb dX7_putTo_15 rfl (lv_at hl 0 rfl) ?_
  refine tf_get (C := RX7) (T := TX7) (N := 35) hx hb hts hn_X7 hown hK hI 0 (tf_mat_0 ad cI cZ _) rfl 15 (by decide) hf_47 rfl rfl dX7_putTo_16 ?_
  refine lv_iload_n hx hb dX7_putTo_19 rfl (lv_at hl 1 rfl) ?_
  obtain ⟨b5, h⟩ := tf_gin h
  refine va_iald hx hb hK hI.1 11 0 (tf_mat_11 ad cI cZ _) rfl b5 dX7_putTo_20 ?_
  refine lv_iload_n hx hb dX7_putTo_21 rfl (lv_at hl 2 rfl) ?_
  obtain ⟨u6, q7, h⟩ := tf_gbind h
  refine tf_callV (rest := []) ⟨hx, hb, hml, hown, hts⟩ hK hN hI (kM_X7_takes l D ad cI cZ _ _ _ _ q7) (cwV 2 hts gX7_putTo_X7_takes rfl rfl rfl (by decide +kernel) ⟨Nat.le_of_ble_eq_true rfl, Nat.le_of_ble_eq_true rfl⟩) 0 7 (tf_mat_0 ad cI cZ _) rfl rfl hl.1 rfl (Nat.le_of_ble_eq_true rfl) dX7_putTo_22 (fun H locs hI => ?_)
  refine lv_if_eq (tgt := 52) hx hb dX7_putTo_25 (by decide) (fun c8 => ?_) (fun c8 => ?_)
  · replace h := tf_pos c8 h
    refine lv_iconst (v := -1) hx hb dX7_putTo_52 (by decide +kernel) ?_
    exact tf_iret hx hb hr hI h dX7_putTo_53 hlocks
  replace h := tf_neg c8 h
  refine lv_aload_n hx hb dX7_putTo_28 rfl (lv_at hl 0 rfl) ?_
  refine tf_get (C := RX7) (T := TX7) (N := 35) hx hb hts hn_X7 hown hK hI 0 (tf_mat_0 ad cI cZ _) rfl 16 (by decide) hf_50 rfl rfl dX7_putTo_29 ?_
  refine lv_iload_n hx hb dX7_putTo_32 rfl (lv_at hl 1 rfl) ?_
  obtain ⟨b9, h⟩ := tf_gin h
  refine va_iald hx hb hK hI.1 12 0 (tf_mat_12 ad cI cZ _) rfl b9 dX7_putTo_33 ?_
  refine lv_iconst (v := -1) hx hb dX7_putTo_34 (by decide +kernel) ?_
  refine lv_icmp_eq (tgt := 54) hx hb dX7_putTo_35 (by decide) (fun c10 => ?_) (fun c10 => ?_)
  · replace h := tf_pos c10 h
    refine lv_iconst (v := 0) hx hb dX7_putTo_54 (by decide +kernel) ?_
    refine lv_istore (lv' := [(4, .int (0 : Int32)), (0, .ref (ad 0)), (1, .int x1), (2, .int x2), (3, .int x3)]) hx hb dX7_putTo_55 hl (by decide) rfl (fun ls hl => ?_)
    exact j57  _ _ _ _ _ _ h hI (lv_sub hl [1, 2, 0] rfl)
  replace h := tf_neg c10 h
  refine lv_aload_n hx hb dX7_putTo_38 rfl (lv_at hl 0 rfl) ?_
  refine lv_aload_n hx hb dX7_putTo_39 rfl (lv_at hl 0 rfl) ?_
  refine tf_get (C := RX7) (T := TX7) (N := 35) hx hb hts hn_X7 hown hK hI 0 (tf_mat_0 ad cI cZ _) rfl 16 (by decide) hf_50 rfl rfl dX7_putTo_40 ?_
  refine lv_iload_n hx hb dX7_putTo_43 rfl (lv_at hl 1 rfl) ?_
  obtain ⟨b44, h⟩ := tf_gin h
  refine va_iald hx hb hK hI.1 12 0 (tf_mat_12 ad cI cZ _) rfl b44 dX7_putTo_44 ?_
  refine lv_iload_n hx hb dX7_putTo_45 rfl (lv_at hl 3 rfl) ?_
  obtain ⟨u45, q46, h⟩ := tf_gbind h
  refine tf_callV (rest := []) ⟨hx, hb, hml, hown, hts⟩ hK hN hI (kM_X7_takes l D ad cI cZ _ _ _ _ q46) (cwV 2 hts gX7_putTo_X7_takes rfl rfl rfl (by decide +kernel) ⟨Nat.le_of_ble_eq_true rfl, Nat.le_of_ble_eq_true rfl⟩) 0 7 (tf_mat_0 ad cI cZ _) rfl rfl hl.1 rfl (Nat.le_of_ble_eq_true rfl) dX7_putTo_46 (fun H locs hI => ?_)
  refine lv_if_ne (tgt := 54) hx hb dX7_putTo_49 (by decide) (fun c47 => ?_) (fun c47 => ?_)
  · replace h := tf_neg c47 h
    refine lv_iconst (v := 0) hx hb dX7_putTo_54 (by decide +kernel) ?_
    refine lv_istore (lv' := [(4, .int (0 : Int32)), (0, .ref (ad 0)), (1, .int x1), (2, .int x2), (3, .int x3)]) hx hb dX7_putTo_55 hl (by decide) rfl (fun ls hl => ?_)
    exact j57  _ _ _ _ _ _ h hI (lv_sub hl [1, 2, 0] rfl)
  replace h := tf_pos c47 h
  refine lv_iconst (v := -1) hx hb dX7_putTo_52 (by decide +kernel) ?_
  exact tf_iret hx hb hr hI h dX7_putTo_53 hlocks
