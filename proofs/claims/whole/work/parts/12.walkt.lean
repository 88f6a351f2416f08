set_option maxHeartbeats 4000000 in
set_option maxRecDepth 100000 in
theorem kT_X4_addClass (l : Launch) (D : va_G) (ad : Nat → Nat) (cI cZ : ClassId) (σ : tf_S) (x1 x2 : Int32) (z : Int32 × tf_S) (h : fX4_addClass σ x1 x2 = some z) : tf_C l D (tf_wt ad cI cZ) [(cI, .int), (cZ, .boolean)] [] yX4_addClass wsX4_addClass ({ frames := 0, cells := 0, slots := 0, locals := 0 }) [.ref (ad 1), .int x1, .int x2] σ z := by
  intro sz
  refine Met.ofW (cc := cX4_addClass) (maxL := 3) (ret := (some .int)) (by decide) rfl ?_
  intro p e s m args below meth c s₁ B hml hv
  obtain ⟨rfl, hsz, hP, hK, hN, hD0⟩ := hv
  have hx := B.exec
  have hb := B.bytes
  have hr := B.returns
  have hts := atoms_spec (ws := wsX4_addClass) B.pre
  have hown : s.vm.findClass RX4 = some m.cls := findClass_of_methodNamed B.named
  have hlocks := B.notSynchronized
  subst hsz
  have hI := tf_start (D := D) (tf_t_ad ad cI cZ) hP hD0
  have hl := lv_entry ([.ref (ad 1), .int x1, .int x2]) (n := 3) (Nat.le_of_ble_eq_true rfl)
  rw [lg_entry_eq]
  generalize (lg_sl ([.ref (ad 1), .int x1, .int x2]) ++ List.replicate (3 - (lg_sl ([.ref (ad 1), .int x1, .int x2])).length) Slot.unset).toArray = ls at hl ⊢
  have hl : lv_has ls 3 [(0, .ref (ad 1)), (1, .int x1), (2, .int x2)] := hl
  have hn_X4 : ∀ w ∈ u_ws RX4 TX4 10, w ∈ wsX4_addClass := by decide +kernel
  have hf_9 := hts (.fieldLink RX4 9 "TypeFlow$Types" "classes" "I") (by decide +kernel)
  have hf_15 := hts (.fieldLink RX4 15 "TypeFlow$Types" "variables" "[I") (by decide +kernel)
  have hf_19 := hts (.fieldLink RX4 19 "TypeFlow$Types" "parent" "[I") (by decide +kernel)
  unfold fX4_addClass at h
  refine lv_aload_n hx hb dX4_addClass_0 rfl (lv_at hl 0 rfl) ?_
  refine tf_get (C := RX4) (T := TX4) (N := 10) hx hb hts hn_X4 hown hK hI 0 (tf_tat_1 ad cI cZ _) rfl 0 (by decide) hf_9 rfl rfl dX4_addClass_1 ?_
  refine lv_bipush (v := 12) hx hb dX4_addClass_4 (by decide +kernel) ?_
  refine lv_icmp_lt (tgt := 12) hx hb dX4_addClass_6 (by decide) (fun c1 => ?_) (fun c1 => ?_)
  · replace h := tf_pos c1 h
    refine lv_aload_n hx hb dX4_addClass_12 rfl (lv_at hl 0 rfl) ?_
    refine tf_get (C := RX4) (T := TX4) (N := 10) hx hb hts hn_X4 hown hK hI 0 (tf_tat_1 ad cI cZ _) rfl 1 (by decide) hf_15 rfl rfl dX4_addClass_13 ?_
    refine lv_aload_n hx hb dX4_addClass_16 rfl (lv_at hl 0 rfl) ?_
    refine tf_get (C := RX4) (T := TX4) (N := 10) hx hb hts hn_X4 hown hK hI 0 (tf_tat_1 ad cI cZ _) rfl 0 (by decide) hf_9 rfl rfl dX4_addClass_17 ?_
    refine lv_iload_n hx hb dX4_addClass_20 rfl (lv_at hl 1 rfl) ?_
    obtain ⟨b2, h⟩ := tf_gin h
    obtain ⟨s3, es3, h⟩ := tf_glet h
    refine tf_iast hx hb hK hI 1 0 (tf_tat_7 ad cI cZ _) (tf_tset_7 ad cI cZ _) rfl b2 es3 dX4_addClass_21 (fun H locs hI => ?_)
    refine lv_aload_n hx hb dX4_addClass_22 rfl (lv_at hl 0 rfl) ?_
    refine tf_get (C := RX4) (T := TX4) (N := 10) hx hb hts hn_X4 hown hK hI 0 (tf_tat_1 ad cI cZ _) rfl 2 (by decide) hf_19 rfl rfl dX4_addClass_23 ?_
    refine lv_aload_n hx hb dX4_addClass_26 rfl (lv_at hl 0 rfl) ?_
    refine tf_get (C := RX4) (T := TX4) (N := 10) hx hb hts hn_X4 hown hK hI 0 (tf_tat_1 ad cI cZ _) rfl 0 (by decide) hf_9 rfl rfl dX4_addClass_27 ?_
    refine lv_iload_n hx hb dX4_addClass_30 rfl (lv_at hl 2 rfl) ?_
    obtain ⟨b4, h⟩ := tf_gin h
    obtain ⟨s5, es5, h⟩ := tf_glet h
    refine tf_iast hx hb hK hI 2 0 (tf_tat_8 ad cI cZ _) (tf_tset_8 ad cI cZ _) rfl b4 es5 dX4_addClass_31 (fun H locs hI => ?_)
    refine lv_aload_n hx hb dX4_addClass_32 rfl (lv_at hl 0 rfl) ?_
    refine lv_dup hx hb dX4_addClass_33 rfl ?_
    refine tf_get (C := RX4) (T := TX4) (N := 10) hx hb hts hn_X4 hown hK hI 0 (tf_tat_1 ad cI cZ _) rfl 0 (by decide) hf_9 rfl rfl dX4_addClass_34 ?_
    refine lv_dup_x1 hx hb dX4_addClass_37 rfl rfl ?_
    refine lv_iconst (v := 1) hx hb dX4_addClass_38 (by decide +kernel) ?_
    refine lv_iadd hx hb dX4_addClass_39 ?_
    obtain ⟨s6, es6, h⟩ := tf_glet h
    refine tf_put (C := RX4) (T := TX4) (N := 10) (ty := .int) hx hb hts hn_X4 tyX4 tyX4_ok nmX4 hown hK hI 0 (tf_tat_1 ad cI cZ _) rfl 0 (by decide) hf_9 rfl rfl (by decide +kernel) rfl rfl (Nat.le_of_ble_eq_true rfl) (tf_tput_1_0 ad cI cZ _ _) es6 dX4_addClass_40 (fun H locs hI => ?_)
    exact tf_iret hx hb hr hI h dX4_addClass_43 hlocks
  replace h := tf_neg c1 h
  refine lv_bipush (v := -3) hx hb dX4_addClass_9 (by decide +kernel) ?_
  exact tf_iret hx hb hr hI h dX4_addClass_11 hlocks

set_option maxHeartbeats 4000000 in
set_option maxRecDepth 100000 in
theorem kT_X4_make (l : Launch) (D : va_G) (ad : Nat → Nat) (cI cZ : ClassId) (σ : tf_S) (x1 x2 x3 : Int32) (z : Int32 × tf_S) (h : fX4_make σ x1 x2 x3 = some z) : tf_C l D (tf_wt ad cI cZ) [(cI, .int), (cZ, .boolean)] [] yX4_make wsX4_make ({ frames := 0, cells := 0, slots := 0, locals := 0 }) [.ref (ad 1), .int x1, .int x2, .int x3] σ z := by
  intro sz
  refine Met.ofW (cc := cX4_make) (maxL := 5) (ret := (some .int)) (by decide) rfl ?_
  intro p e s m args below meth c s₁ B hml hv
  obtain ⟨rfl, hsz, hP, hK, hN, hD0⟩ := hv
  have hx := B.exec
  have hb := B.bytes
  have hr := B.returns
  have hts := atoms_spec (ws := wsX4_make) B.pre
  have hown : s.vm.findClass RX4 = some m.cls := findClass_of_methodNamed B.named
  have hlocks := B.notSynchronized
  subst hsz
  have hI := tf_start (D := D) (tf_t_ad ad cI cZ) hP hD0
  have hl := lv_entry ([.ref (ad 1), .int x1, .int x2, .int x3]) (n := 5) (Nat.le_of_ble_eq_true rfl)
  rw [lg_entry_eq]
  generalize (lg_sl ([.ref (ad 1), .int x1, .int x2, .int x3]) ++ List.replicate (5 - (lg_sl ([.ref (ad 1), .int x1, .int x2, .int x3])).length) Slot.unset).toArray = ls at hl ⊢
  have hl : lv_has ls 5 [(0, .ref (ad 1)), (1, .int x1), (2, .int x2), (3, .int x3)] := hl
  have hn_X4 : ∀ w ∈ u_ws RX4 TX4 10, w ∈ wsX4_make := by decide +kernel
  have hf_22 := hts (.fieldLink RX4 22 "TypeFlow$Types" "size" "I") (by decide +kernel)
  have hf_25 := hts (.fieldLink RX4 25 "TypeFlow$Types" "ofClass" "[I") (by decide +kernel)
  have hf_28 := hts (.fieldLink RX4 28 "TypeFlow$Types" "first" "[I") (by decide +kernel)
  have hf_31 := hts (.fieldLink RX4 31 "TypeFlow$Types" "second" "[I") (by decide +kernel)
  have hf_34 := hts (.fieldLink RX4 34 "TypeFlow$Types" "within" "[I") (by decide +kernel)
  have j119 : ∀ (σ : tf_S) (t0 t1 : Int32) (H : Heap) (locs : List Loc) (ls : Array Slot), fX4_make_119 x1 x2 x3 σ t0 t1 = some z → tf_I D (tf_wt ad cI cZ) s.heap σ H locs → lv_has ls 5 [(0, .ref (ad 1)), (3, .int x3)] → W p l e (headSpec wsX4_make ({ frames := 0, cells := 0, slots := 0, locals := 0 })).room s m ([.ref (ad 1), .int x1, .int x2, .int x3] : List Value).toArray below meth c H locs 0 0 (tf_Q below D (tf_wt ad cI cZ) z ([.ref (ad 1), .int x1, .int x2, .int x3] : List Value).toArray s) (F0 m 119 ls [.int t0, .int t1, .ref (ad 12)]) := by
    intro σ t0 t1 H locs ls h hI hl
    unfold fX4_make_119 at h
    refine lv_iload_n hx hb dX4_make_119 rfl (lv_at hl 1 rfl) ?_
    refine lv_if_ge (tgt := 127) hx hb dX4_make_120 (by decide) (fun c11 => ?_) (fun c11 => ?_)
    · replace h := tf_pos c11 h
      refine lv_aload_n hx hb dX4_make_127 rfl (lv_at hl 0 rfl) ?_
      refine tf_get (C := RX4) (T := TX4) (N := 10) hx hb hts hn_X4 hown hK hI 0 (tf_tat_1 ad cI cZ _) rfl 7 (by decide) hf_34 rfl rfl dX4_make_128 ?_
      refine lv_iload_n hx hb dX4_make_131 rfl (lv_at hl 1 rfl) ?_
      obtain ⟨b12, h⟩ := tf_gin h
      refine va_iald hx hb hK hI.1 6 0 (tf_tat_12 ad cI cZ _) rfl b12 dX4_make_132 ?_
      refine lv_ior hx hb dX4_make_133 ?_
      obtain ⟨b13, h⟩ := tf_gin h
      obtain ⟨s14, es14, h⟩ := tf_glet h
      refine tf_iast hx hb hK hI 6 0 (tf_tat_12 ad cI cZ _) (tf_tset_12 ad cI cZ _) rfl b13 es14 dX4_make_134 (fun H locs hI => ?_)
      refine lv_aload_n hx hb dX4_make_135 rfl (lv_at hl 0 rfl) ?_
      refine lv_dup hx hb dX4_make_136 rfl ?_
      refine tf_get (C := RX4) (T := TX4) (N := 10) hx hb hts hn_X4 hown hK hI 0 (tf_tat_1 ad cI cZ _) rfl 3 (by decide) hf_22 rfl rfl dX4_make_137 ?_
      refine lv_dup_x1 hx hb dX4_make_140 rfl rfl ?_
      refine lv_iconst (v := 1) hx hb dX4_make_141 (by decide +kernel) ?_
      refine lv_iadd hx hb dX4_make_142 ?_
      obtain ⟨s15, es15, h⟩ := tf_glet h
      refine tf_put (C := RX4) (T := TX4) (N := 10) (ty := .int) hx hb hts hn_X4 tyX4 tyX4_ok nmX4 hown hK hI 0 (tf_tat_1 ad cI cZ _) rfl 3 (by decide) hf_22 rfl rfl (by decide +kernel) rfl rfl (Nat.le_of_ble_eq_true rfl) (tf_tput_1_3 ad cI cZ _ _) es15 dX4_make_143 (fun H locs hI => ?_)
      exact tf_iret hx hb hr hI h dX4_make_146 hlocks
    replace h := tf_neg c11 h
    refine lv_iconst (v := 0) hx hb dX4_make_123 (by decide +kernel) ?_
    refine lv_goto (tgt := 133) hx hb dX4_make_124 (by decide) ?_
    refine lv_ior hx hb dX4_make_133 ?_
    obtain ⟨b16, h⟩ := tf_gin h
    obtain ⟨s17, es17, h⟩ := tf_glet h
    refine tf_iast hx hb hK hI 6 0 (tf_tat_12 ad cI cZ _) (tf_tset_12 ad cI cZ _) rfl b16 es17 dX4_make_134 (fun H locs hI => ?_)
    refine lv_aload_n hx hb dX4_make_135 rfl (lv_at hl 0 rfl) ?_
    refine lv_dup hx hb dX4_make_136 rfl ?_
    refine tf_get (C := RX4) (T := TX4) (N := 10) hx hb hts hn_X4 hown hK hI 0 (tf_tat_1 ad cI cZ _) rfl 3 (by decide) hf_22 rfl rfl dX4_make_137 ?_
    refine lv_dup_x1 hx hb dX4_make_140 rfl rfl ?_
    refine lv_iconst (v := 1) hx hb dX4_make_141 (by decide +kernel) ?_
    refine lv_iadd hx hb dX4_make_142 ?_
    obtain ⟨s18, es18, h⟩ := tf_glet h
    refine tf_put (C := RX4) (T := TX4) (N := 10) (ty := .int) hx hb hts hn_X4 tyX4 tyX4_ok nmX4 hown hK hI 0 (tf_tat_1 ad cI cZ _) rfl 3 (by decide) hf_22 rfl rfl (by decide +kernel) rfl rfl (Nat.le_of_ble_eq_true rfl) (tf_tput_1_3 ad cI cZ _ _) es18 dX4_make_143 (fun H locs hI => ?_)
    exact tf_iret hx hb hr hI h dX4_make_146 hlocks
  have j4 : ∀ n : Nat, ∀ (σ : tf_S) (y4 : Int32) (H : Heap) (locs : List Loc) (ls : Array Slot), fX4_make_4 x1 x2 x3 n σ y4 = some z → tf_I D (tf_wt ad cI cZ) s.heap σ H locs → lv_has ls 5 [(0, .ref (ad 1)), (1, .int x1), (2, .int x2), (3, .int x3), (4, .int y4)] → W p l e (headSpec wsX4_make ({ frames := 0, cells := 0, slots := 0, locals := 0 })).room s m ([.ref (ad 1), .int x1, .int x2, .int x3] : List Value).toArray below meth c H locs 0 0 (tf_Q below D (tf_wt ad cI cZ) z ([.ref (ad 1), .int x1, .int x2, .int x3] : List Value).toArray s) (F0 m 4 ls []) := by
    intro n
    induction n with
    | zero =>
      intro σ y4 H locs ls h
      rw [fX4_make_4] at h
      cases h
    | succ n ih =>
      intro σ y4 H locs ls h hI hl
      rw [fX4_make_4] at h
      refine lv_iload hx hb dX4_make_4 (lv_at hl 4 rfl) ?_
      refine lv_aload_n hx hb dX4_make_6 rfl (lv_at hl 0 rfl) ?_
      refine tf_get (C := RX4) (T := TX4) (N := 10) hx hb hts hn_X4 hown hK hI 0 (tf_tat_1 ad cI cZ _) rfl 3 (by decide) hf_22 rfl rfl dX4_make_7 ?_
      refine lv_icmp_ge (tgt := 55) hx hb dX4_make_10 (by decide) (fun c1 => ?_) (fun c1 => ?_)
      · replace h := tf_pos c1 h
        refine lv_aload_n hx hb dX4_make_55 rfl (lv_at hl 0 rfl) ?_
        refine tf_get (C := RX4) (T := TX4) (N := 10) hx hb hts hn_X4 hown hK hI 0 (tf_tat_1 ad cI cZ _) rfl 3 (by decide) hf_22 rfl rfl dX4_make_56 ?_
        refine lv_bipush (v := 80) hx hb dX4_make_59 (by decide +kernel) ?_
        refine lv_icmp_lt (tgt := 67) hx hb dX4_make_61 (by decide) (fun c2 => ?_) (fun c2 => ?_)
        · replace h := tf_pos c2 h
          refine lv_aload_n hx hb dX4_make_67 rfl (lv_at hl 0 rfl) ?_
          refine tf_get (C := RX4) (T := TX4) (N := 10) hx hb hts hn_X4 hown hK hI 0 (tf_tat_1 ad cI cZ _) rfl 4 (by decide) hf_25 rfl rfl dX4_make_68 ?_
          refine lv_aload_n hx hb dX4_make_71 rfl (lv_at hl 0 rfl) ?_
          refine tf_get (C := RX4) (T := TX4) (N := 10) hx hb hts hn_X4 hown hK hI 0 (tf_tat_1 ad cI cZ _) rfl 3 (by decide) hf_22 rfl rfl dX4_make_72 ?_
          refine lv_iload_n hx hb dX4_make_75 rfl (lv_at hl 1 rfl) ?_
          obtain ⟨b3, h⟩ := tf_gin h
          obtain ⟨s4, es4, h⟩ := tf_glet h
          refine tf_iast hx hb hK hI 3 0 (tf_tat_9 ad cI cZ _) (tf_tset_9 ad cI cZ _) rfl b3 es4 dX4_make_76 (fun H locs hI => ?_)
          refine lv_aload_n hx hb dX4_make_77 rfl (lv_at hl 0 rfl) ?_
          refine tf_get (C := RX4) (T := TX4) (N := 10) hx hb hts hn_X4 hown hK hI 0 (tf_tat_1 ad cI cZ _) rfl 5 (by decide) hf_28 rfl rfl dX4_make_78 ?_
          refine lv_aload_n hx hb dX4_make_81 rfl (lv_at hl 0 rfl) ?_
          refine tf_get (C := RX4) (T := TX4) (N := 10) hx hb hts hn_X4 hown hK hI 0 (tf_tat_1 ad cI cZ _) rfl 3 (by decide) hf_22 rfl rfl dX4_make_82 ?_
          refine lv_iload_n hx hb dX4_make_85 rfl (lv_at hl 2 rfl) ?_
          obtain ⟨b5, h⟩ := tf_gin h
          obtain ⟨s6, es6, h⟩ := tf_glet h
          refine tf_iast hx hb hK hI 4 0 (tf_tat_10 ad cI cZ _) (tf_tset_10 ad cI cZ _) rfl b5 es6 dX4_make_86 (fun H locs hI => ?_)
          refine lv_aload_n hx hb dX4_make_87 rfl (lv_at hl 0 rfl) ?_
          refine tf_get (C := RX4) (T := TX4) (N := 10) hx hb hts hn_X4 hown hK hI 0 (tf_tat_1 ad cI cZ _) rfl 6 (by decide) hf_31 rfl rfl dX4_make_88 ?_
          refine lv_aload_n hx hb dX4_make_91 rfl (lv_at hl 0 rfl) ?_
          refine tf_get (C := RX4) (T := TX4) (N := 10) hx hb hts hn_X4 hown hK hI 0 (tf_tat_1 ad cI cZ _) rfl 3 (by decide) hf_22 rfl rfl dX4_make_92 ?_
          refine lv_iload_n hx hb dX4_make_95 rfl (lv_at hl 3 rfl) ?_
          obtain ⟨b7, h⟩ := tf_gin h
          obtain ⟨s8, es8, h⟩ := tf_glet h
          refine tf_iast hx hb hK hI 5 0 (tf_tat_11 ad cI cZ _) (tf_tset_11 ad cI cZ _) rfl b7 es8 dX4_make_96 (fun H locs hI => ?_)
          refine lv_aload_n hx hb dX4_make_97 rfl (lv_at hl 0 rfl) ?_
          refine tf_get (C := RX4) (T := TX4) (N := 10) hx hb hts hn_X4 hown hK hI 0 (tf_tat_1 ad cI cZ _) rfl 7 (by decide) hf_34 rfl rfl dX4_make_98 ?_
          refine lv_aload_n hx hb dX4_make_101 rfl (lv_at hl 0 rfl) ?_
          refine tf_get (C := RX4) (T := TX4) (N := 10) hx hb hts hn_X4 hown hK hI 0 (tf_tat_1 ad cI cZ _) rfl 3 (by decide) hf_22 rfl rfl dX4_make_102 ?_
          refine lv_iload_n hx hb dX4_make_105 rfl (lv_at hl 2 rfl) ?_
          refine lv_if_ge (tgt := 113) hx hb dX4_make_106 (by decide) (fun c9 => ?_) (fun c9 => ?_)
          · replace h := tf_pos c9 h
            refine lv_aload_n hx hb dX4_make_113 rfl (lv_at hl 0 rfl) ?_
            refine tf_get (C := RX4) (T := TX4) (N := 10) hx hb hts hn_X4 hown hK hI 0 (tf_tat_1 ad cI cZ _) rfl 7 (by decide) hf_34 rfl rfl dX4_make_114 ?_
            refine lv_iload_n hx hb dX4_make_117 rfl (lv_at hl 2 rfl) ?_
            obtain ⟨b10, h⟩ := tf_gin h
            refine va_iald hx hb hK hI.1 6 0 (tf_tat_12 ad cI cZ _) rfl b10 dX4_make_118 ?_
            exact j119  _ _ _ _ _ _ h hI (lv_sub hl [0, 3] rfl)
          replace h := tf_neg c9 h
          refine lv_iconst (v := 0) hx hb dX4_make_109 (by decide +kernel) ?_
          refine lv_goto (tgt := 119) hx hb dX4_make_110 (by decide) ?_
          exact j119  _ _ _ _ _ _ h hI (lv_sub hl [0, 3] rfl)
        replace h := tf_neg c2 h
        refine lv_bipush (v := -3) hx hb dX4_make_64 (by decide +kernel) ?_
        exact tf_iret hx hb hr hI h dX4_make_66 hlocks
      replace h := tf_neg c1 h
      refine lv_aload_n hx hb dX4_make_13 rfl (lv_at hl 0 rfl) ?_
      refine tf_get (C := RX4) (T := TX4) (N := 10) hx hb hts hn_X4 hown hK hI 0 (tf_tat_1 ad cI cZ _) rfl 4 (by decide) hf_25 rfl rfl dX4_make_14 ?_
      refine lv_iload hx hb dX4_make_17 (lv_at hl 4 rfl) ?_
      obtain ⟨b19, h⟩ := tf_gin h
      refine va_iald hx hb hK hI.1 3 0 (tf_tat_9 ad cI cZ _) rfl b19 dX4_make_19 ?_
      refine lv_iload_n hx hb dX4_make_20 rfl (lv_at hl 1 rfl) ?_
      refine lv_icmp_ne (tgt := 49) hx hb dX4_make_21 (by decide) (fun c20 => ?_) (fun c20 => ?_)
      · replace h := tf_neg c20 h
        obtain ⟨v21, ev21, h⟩ := tf_glet h
        refine lv_iinc (v := v21) (lv' := [(4, .int v21), (0, .ref (ad 1)), (1, .int x1), (2, .int x2), (3, .int x3)]) hx hb dX4_make_49 hl (k := 4) rfl (by rw [ev21]; rfl) (by decide) rfl (fun ls hl => ?_)
        refine lv_goto (tgt := 4) hx hb dX4_make_52 (by decide) ?_
        exact ih _ _ _ _ _ h hI (lv_sub hl [1, 2, 3, 4, 0] rfl)
      replace h := tf_pos c20 h
      refine lv_aload_n hx hb dX4_make_24 rfl (lv_at hl 0 rfl) ?_
      refine tf_get (C := RX4) (T := TX4) (N := 10) hx hb hts hn_X4 hown hK hI 0 (tf_tat_1 ad cI cZ _) rfl 5 (by decide) hf_28 rfl rfl dX4_make_25 ?_
      refine lv_iload hx hb dX4_make_28 (lv_at hl 4 rfl) ?_
      obtain ⟨b22, h⟩ := tf_gin h
      refine va_iald hx hb hK hI.1 4 0 (tf_tat_10 ad cI cZ _) rfl b22 dX4_make_30 ?_
      refine lv_iload_n hx hb dX4_make_31 rfl (lv_at hl 2 rfl) ?_
      refine lv_icmp_ne (tgt := 49) hx hb dX4_make_32 (by decide) (fun c23 => ?_) (fun c23 => ?_)
      · replace h := tf_neg c23 h
        obtain ⟨v24, ev24, h⟩ := tf_glet h
        refine lv_iinc (v := v24) (lv' := [(4, .int v24), (0, .ref (ad 1)), (1, .int x1), (2, .int x2), (3, .int x3)]) hx hb dX4_make_49 hl (k := 4) rfl (by rw [ev24]; rfl) (by decide) rfl (fun ls hl => ?_)
        refine lv_goto (tgt := 4) hx hb dX4_make_52 (by decide) ?_
        exact ih _ _ _ _ _ h hI (lv_sub hl [1, 2, 3, 4, 0] rfl)
      replace h := tf_pos c23 h
      refine lv_aload_n hx hb dX4_make_35 rfl (lv_at hl 0 rfl) ?_
      refine tf_get (C := RX4) (T := TX4) (N := 10) hx hb hts hn_X4 hown hK hI 0 (tf_tat_1 ad cI cZ _) rfl 6 (by decide) hf_31 rfl rfl dX4_make_36 ?_
      refine lv_iload hx hb dX4_make_39 (lv_at hl 4 rfl) ?_
      obtain ⟨b25, h⟩ := tf_gin h
      refine va_iald hx hb hK hI.1 5 0 (tf_tat_11 ad cI cZ _) rfl b25 dX4_make_41 ?_
      refine lv_iload_n hx hb dX4_make_42 rfl (lv_at hl 3 rfl) ?_
      refine lv_icmp_ne (tgt := 49) hx hb dX4_make_43 (by decide) (fun c26 => ?_) (fun c26 => ?_)
      · replace h := tf_neg c26 h
        obtain ⟨v27, ev27, h⟩ := tf_glet h
        refine lv_iinc (v := v27) (lv' := [(4, .int v27), (0, .ref (ad 1)), (1, .int x1), (2, .int x2), (3, .int x3)]) hx hb dX4_make_49 hl (k := 4) rfl (by rw [ev27]; rfl) (by decide) rfl (fun ls hl => ?_)
        refine lv_goto (tgt := 4) hx hb dX4_make_52 (by decide) ?_
        exact ih _ _ _ _ _ h hI (lv_sub hl [1, 2, 3, 4, 0] rfl)
      replace h := tf_pos c26 h
      refine lv_iload hx hb dX4_make_46 (lv_at hl 4 rfl) ?_
      exact tf_iret hx hb hr hI h dX4_make_48 hlocks
  unfold fX4_make at h
  refine lv_bipush (v := 6) hx hb dX4_make_0 (by decide +kernel) ?_
  refine lv_istore (lv' := [(4, .int (6 : Int32)), (0, .ref (ad 1)), (1, .int x1), (2, .int x2), (3, .int x3)]) hx hb dX4_make_2 hl (by decide) rfl (fun ls hl => ?_)
  exact j4  _ _ _ _ _ _ h hI (lv_sub hl [1, 2, 3, 4, 0] rfl)
