set_option maxHeartbeats 4000000 in
set_option maxRecDepth 100000 in
theorem kX_X4_make (l : Launch) (D : va_G) (ad : Nat → Nat) (cI cZ : ClassId) (σ : tf_S) (x1 x2 x3 : Int32) (z : Int32 × tf_S) (h : fX4_make σ x1 x2 x3 = some z) : tf_C l D (tf_wx ad cI cZ) [(cI, .int), (cZ, .boolean)] tf_nest yX4_make wsX4_make ({ frames := 0, cells := 0, slots := 0, locals := 0 }) [.ref (ad 1), .int x1, .int x2, .int x3] σ z := by
  intro sz
  refine Met.ofW (cc := cX4_make) (maxL := 5) (ret := (some .int)) (by decide) rfl ?_
  intro p e s m args below meth c s₁ B hml hv
  obtain ⟨rfl, hsz, hP, hK, hN, hD0⟩ := hv
  have hx := B.exec
  have hb := B.bytes
  have hr := B.returns
  have hts := atoms_spec (ws := wsX4_make) B.pre
  have hown : s.vm.findClass RX4 = some m.cls := findClass_of_methodNamed B.named
  have hlocks := B.notSynchronized
  subst hsz
  have hI := tf_start (D := D) (tf_x_ad ad cI cZ) hP hD0
  have hl := lv_entry ([.ref (ad 1), .int x1, .int x2, .int x3]) (n := 5) (Nat.le_of_ble_eq_true rfl)
  rw [lg_entry_eq]
  generalize (lg_sl ([.ref (ad 1), .int x1, .int x2, .int x3]) ++ List.replicate (5 - (lg_sl ([.ref (ad 1), .int x1, .int x2, .int x3])).length) Slot.unset).toArray = ls at hl ⊢
  have hl : lv_has ls 5 [(0, .ref (ad 1)), (1, .int x1), (2, .int x2), (3, .int x3)] := hl
  have hn_X4 : ∀ w ∈ u_ws RX4 TX4 10, w ∈ wsX4_make := by decide +kernel
  have hf_22 := hts (.fieldLink RX4 22 "TypeFlow$Types" "size" "I") (by decide +kernel)
  have hf_25 := hts (.fieldLink RX4 25 "TypeFlow$Types" "ofClass" "[I") (by decide +kernel)
  have hf_28 := hts (.fieldLink RX4 28 "TypeFlow$Types" "first" "[I") (by decide +kernel)
  have hf_31 := hts (.fieldLink RX4 31 "TypeFlow$Types" "second" "[I") (by decide +kernel)
  have hf_34 := hts (.fieldLink RX4 34 "TypeFlow$Types" "within" "[I") (by decide +kernel)
  have j119 : ∀ (σ : tf_S) (t0 t1 : Int32) (H : Heap) (locs : List Loc) (ls : Array Slot), fX4_make_119 x1 x2 x3 σ t0 t1 = some z → tf_I D (tf_wx ad cI cZ) s.heap σ H locs → lv_has ls 5 [(0, .ref (ad 1)), (3, .int x3)] → W p l e (headSpec wsX4_make ({ frames := 0, cells := 0, slots := 0, locals := 0 })).room s m ([.ref (ad 1), .int x1, .int x2, .int x3] : List Value).toArray below meth c H locs 0 0 (tf_Q below D (tf_wx ad cI cZ) z ([.ref (ad 1), .int x1, .int x2, .int x3] : List Value).toArray s) (F0 m 119 ls [.int t0, .int t1, .ref (ad 12)]) := by
    intro σ t0 t1 H locs ls h hI hl
    unfold fX4_make_119 at h
    refine lv_iload_n hx hb dX4_make_119 rfl (lv_at hl 1 rfl) ?_
    refine lv_if_ge (tgt := 127) hx hb dX4_make_120 (by decide) (fun c11 => ?_) (fun c11 => ?_)
    · replace h := tf_pos c11 h
      refine lv_aload_n hx hb dX4_make_127 rfl (lv_at hl 0 rfl) ?_
      refine tf_get (C := RX4) (T := TX4) (N := 10) hx hb hts hn_X4 hown hK hI 1 (tf_xat_1 ad cI cZ _) rfl 7 (by decide) hf_34 rfl rfl dX4_make_128 ?_
      refine lv_iload_n hx hb dX4_make_131 rfl (lv_at hl 1 rfl) ?_
      obtain ⟨b12, h⟩ := tf_gin h
      refine va_iald hx hb hK hI.1 12 0 (tf_xat_12 ad cI cZ _) rfl b12 dX4_make_132 ?_
      refine lv_ior hx hb dX4_make_133 ?_
      obtain ⟨b13, h⟩ := tf_gin h
      obtain ⟨s14, es14, h⟩ := tf_glet h
      refine tf_iast hx hb hK hI 12 0 (tf_xat_12 ad cI cZ _) (tf_xset_12 ad cI cZ _) rfl b13 es14 dX4_make_134 (fun H locs hI => ?_)
      refine lv_aload_n hx hb dX4_make_135 rfl (lv_at hl 0 rfl) ?_
      refine lv_dup hx hb dX4_make_136 rfl ?_
      refine tf_get (C := RX4) (T := TX4) (N := 10) hx hb hts hn_X4 hown hK hI 1 (tf_xat_1 ad cI cZ _) rfl 3 (by decide) hf_22 rfl rfl dX4_make_137 ?_
      refine lv_dup_x1 hx hb dX4_make_140 rfl rfl ?_
      refine lv_iconst (v := 1) hx hb dX4_make_141 (by decide +kernel) ?_
      refine lv_iadd hx hb dX4_make_142 ?_
      obtain ⟨s15, es15, h⟩ := tf_glet h
      refine tf_put (C := RX4) (T := TX4) (N := 10) (ty := .int) hx hb hts hn_X4 tyX4 tyX4_ok nmX4 hown hK hI 1 (tf_xat_1 ad cI cZ _) rfl 3 (by decide) hf_22 rfl rfl (by decide +kernel) rfl rfl (Nat.le_of_ble_eq_true rfl) (tf_xput_1_3 ad cI cZ _ _) es15 dX4_make_143 (fun H locs hI => ?_)
      exact tf_iret hx hb hr hI h dX4_make_146 hlocks
    replace h := tf_neg c11 h
    refine lv_iconst (v := 0) hx hb dX4_make_123 (by decide +kernel) ?_
    refine lv_goto (tgt := 133) hx hb dX4_make_124 (by decide) ?_
    refine lv_ior hx hb dX4_make_133 ?_
    obtain ⟨b16, h⟩ := tf_gin h
    obtain ⟨s17, es17, h⟩ := tf_glet h
    refine tf_iast hx hb hK hI 12 0 (tf_xat_12 ad cI cZ _) (tf_xset_12 ad cI cZ _) rfl b16 es17 dX4_make_134 (fun H locs hI => ?_)
    refine lv_aload_n hx hb dX4_make_135 rfl (lv_at hl 0 rfl) ?_
    refine lv_dup hx hb dX4_make_136 rfl ?_
    refine tf_get (C := RX4) (T := TX4) (N := 10) hx hb hts hn_X4 hown hK hI 1 (tf_xat_1 ad cI cZ _) rfl 3 (by decide) hf_22 rfl rfl dX4_make_137 ?_
    refine lv_dup_x1 hx hb dX4_make_140 rfl rfl ?_
    refine lv_iconst (v := 1) hx hb dX4_make_141 (by decide +kernel) ?_
    refine lv_iadd hx hb dX4_make_142 ?_
    obtain ⟨s18, es18, h⟩ := tf_glet h
    refine tf_put (C := RX4) (T := TX4) (N := 10) (ty := .int) hx hb hts hn_X4 tyX4 tyX4_ok nmX4 hown hK hI 1 (tf_xat_1 ad cI cZ _) rfl 3 (by decide) hf_22 rfl rfl (by decide +kernel) rfl rfl (Nat.le_of_ble_eq_true rfl) (tf_xput_1_3 ad cI cZ _ _) es18 dX4_make_143 (fun H locs hI => ?_)
    exact tf_iret hx hb hr hI h dX4_make_146 hlocks
  have j4 : ∀ n : Nat, ∀ (σ : tf_S) (y4 : Int32) (H : Heap) (locs : List Loc) (ls : Array Slot), fX4_make_4 x1 x2 x3 n σ y4 = some z → tf_I D (tf_wx ad cI cZ) s.heap σ H locs → lv_has ls 5 [(0, .ref (ad 1)), (1, .int x1), (2, .int x2), (3, .int x3), (4, .int y4)] → W p l e (headSpec wsX4_make ({ frames := 0, cells := 0, slots := 0, locals := 0 })).room s m ([.ref (ad 1), .int x1, .int x2, .int x3] : List Value).toArray below meth c H locs 0 0 (tf_Q below D (tf_wx ad cI cZ) z ([.ref (ad 1), .int x1, .int x2, .int x3] : List Value).toArray s) (F0 m 4 ls []) := by
    intro n
    induction n with
    | zero =>
      intro σ y4 H locs ls h
      rw [fX4_make_4] at h
      cases h
    | succ n ih =>
      intro σ y4 H locs ls h hI hl
      rw [fX4_make_4] at h
      refine lv_iload hx hb dX4_make_4 (lv_at hl 4 rfl) ?_
      refine lv_aload_n hx hb dX4_make_6 rfl (lv_at hl 0 rfl) ?_
      refine tf_get (C := RX4) (T := TX4) (N := 10) hx hb hts hn_X4 hown hK hI 1 (tf_xat_1 ad cI cZ _) rfl 3 (by decide) hf_22 rfl rfl dX4_make_7 ?_
      refine lv_icmp_ge (tgt := 55) hx hb dX4_make_10 (by decide) (fun c1 => ?_) (fun c1 => ?_)
      · replace h := tf_pos c1 h
        refine lv_aload_n hx hb dX4_make_55 rfl (lv_at hl 0 rfl) ?_
        refine tf_get (C := RX4) (T := TX4) (N := 10) hx hb hts hn_X4 hown hK hI 1 (tf_xat_1 ad cI cZ _) rfl 3 (by decide) hf_22 rfl rfl dX4_make_56 ?_
        refine lv_bipush (v := 80) hx hb dX4_make_59 (by decide +kernel) ?_
        refine lv_icmp_lt (tgt := 67) hx hb dX4_make_61 (by decide) (fun c2 => ?_) (fun c2 => ?_)
        · replace h := tf_pos c2 h
          refine lv_aload_n hx hb dX4_make_67 rfl (lv_at hl 0 rfl) ?_
          refine tf_get (C := RX4) (T := TX4) (N := 10) hx hb hts hn_X4 hown hK hI 1 (tf_xat_1 ad cI cZ _) rfl 4 (by decide) hf_25 rfl rfl dX4_make_68 ?_
          refine lv_aload_n hx hb dX4_make_71 rfl (lv_at hl 0 rfl) ?_
          refine tf_get (C := RX4) (T := TX4) (N := 10) hx hb hts hn_X4 hown hK hI 1 (tf_xat_1 ad cI cZ _) rfl 3 (by decide) hf_22 rfl rfl dX4_make_72 ?_
          refine lv_iload_n hx hb dX4_make_75 rfl (lv_at hl 1 rfl) ?_
          obtain ⟨b3, h⟩ := tf_gin h
          obtain ⟨s4, es4, h⟩ := tf_glet h
          refine tf_iast hx hb hK hI 9 0 (tf_xat_9 ad cI cZ _) (tf_xset_9 ad cI cZ _) rfl b3 es4 dX4_make_76 (fun H locs hI => ?_)
          refine lv_aload_n hx hb dX4_make_77 rfl (lv_at hl 0 rfl) ?_
          refine tf_get (C := RX4) (T := TX4) (N := 10) hx hb hts hn_X4 hown hK hI 1 (tf_xat_1 ad cI cZ _) rfl 5 (by decide) hf_28 rfl rfl dX4_make_78 ?_
          refine lv_aload_n hx hb dX4_make_81 rfl (lv_at hl 0 rfl) ?_
          refine tf_get (C := RX4) (T := TX4) (N := 10) hx hb hts hn_X4 hown hK hI 1 (tf_xat_1 ad cI cZ _) rfl 3 (by decide) hf_22 rfl rfl dX4_make_82 ?_
          refine lv_iload_n hx hb dX4_make_85 rfl (lv_at hl 2 rfl) ?_
          obtain ⟨b5, h⟩ := tf_gin h
          obtain ⟨s6, es6, h⟩ := tf_glet h
          refine tf_iast hx hb hK hI 10 0 (tf_xat_10 ad cI cZ _) (tf_xset_10 ad cI cZ _) rfl b5 es6 dX4_make_86 (fun H locs hI => ?_)
          refine lv_aload_n hx hb dX4_make_87 rfl (lv_at hl 0 rfl) ?_
          refine tf_get (C := RX4) (T := TX4) (N := 10) hx hb hts hn_X4 hown hK hI 1 (tf_xat_1 ad cI cZ _) rfl 6 (by decide) hf_31 rfl rfl dX4_make_88 ?_
          refine lv_aload_n hx hb dX4_make_91 rfl (lv_at hl 0 rfl) ?_
          refine tf_get (C := RX4) (T := TX4) (N := 10) hx hb hts hn_X4 hown hK hI 1 (tf_xat_1 ad cI cZ _) rfl 3 (by decide) hf_22 rfl rfl dX4_make_92 ?_
          refine lv_iload_n hx hb dX4_make_95 rfl (lv_at hl 3 rfl) ?_
          obtain ⟨b7, h⟩ := tf_gin h
          obtain ⟨s8, es8, h⟩ := tf_glet h
          refine tf_iast hx hb hK hI 11 0 (tf_xat_11 ad cI cZ _) (tf_xset_11 ad cI cZ _) rfl b7 es8 dX4_make_96 (fun H locs hI => ?_)
          refine lv_aload_n hx hb dX4_make_97 rfl (lv_at hl 0 rfl) ?_
          refine tf_get (C := RX4) (T := TX4) (N := 10) hx hb hts hn_X4 hown hK hI 1 (tf_xat_1 ad cI cZ _) rfl 7 (by decide) hf_34 rfl rfl dX4_make_98 ?_
          refine lv_aload_n hx hb dX4_make_101 rfl (lv_at hl 0 rfl) ?_
          refine tf_get (C := RX4) (T := TX4) (N := 10) hx hb hts hn_X4 hown hK hI 1 (tf_xat_1 ad cI cZ _) rfl 3 (by decide) hf_22 rfl rfl dX4_make_102 ?_
          refine lv_iload_n hx hb dX4_make_105 rfl (lv_at hl 2 rfl) ?_
          refine lv_if_ge (tgt := 113) hx hb dX4_make_106 (by decide) (fun c9 => ?_) (fun c9 => ?_)
          · replace h := tf_pos c9 h
            refine lv_aload_n hx hb dX4_make_113 rfl (lv_at hl 0 rfl) ?_
            refine tf_get (C := RX4) (T := TX4) (N := 10) hx hb hts hn_X4 hown hK hI 1 (tf_xat_1 ad cI cZ _) rfl 7 (by decide) hf_34 rfl rfl dX4_make_114 ?_
            refine lv_iload_n hx hb dX4_make_117 rfl (lv_at hl 2 rfl) ?_
            obtain ⟨b10, h⟩ := tf_gin h
            refine va_iald hx hb hK hI.1 12 0 (tf_xat_12 ad cI cZ _) rfl b10 dX4_make_118 ?_
            exact j119  _ _ _ _ _ _ h hI (lv_sub hl [0, 3] rfl)
          replace h := tf_neg c9 h
          refine lv_iconst (v := 0) hx hb dX4_make_109 (by decide +kernel) ?_
          refine lv_goto (tgt := 119) hx hb dX4_make_110 (by decide) ?_
          exact j119  _ _ _ _ _ _ h hI (lv_sub hl [0, 3] rfl)
        replace h := tf_neg c2 h
        refine lv_bipush (v := -3) hx hb dX4_make_64 (by decide +kernel) ?_
        exact tf_iret hx hb hr hI h dX4_make_66 hlocks
      replace h := tf_neg c1 h
      refine lv_aload_n hx hb dX4_make_13 rfl (lv_at hl 0 rfl) ?_
      refine tf_get (C := RX4) (T := TX4) (N := 10) hx hb hts hn_X4 hown hK hI 1 (tf_xat_1 ad cI cZ _) rfl 4 (by decide) hf_25 rfl rfl dX4_make_14 ?_
      refine lv_iload hx hb dX4_make_17 (lv_at hl 4 rfl) ?_
      obtain ⟨b19, h⟩ := tf_gin h
      refine va_iald hx hb hK hI.1 9 0 (tf_xat_9 ad cI cZ _) rfl b19 dX4_make_19 ?_
      refine lv_iload_n hx hb dX4_make_20 rfl (lv_at hl 1 rfl) ?_
      refine lv_icmp_ne (tgt := 49) hx hb dX4_make_21 (by decide) (fun c20 => ?_) (fun c20 => ?_)
      · replace h := tf_neg c20 h
        obtain ⟨v21, ev21, h⟩ := tf_glet h
        refine lv_iinc (v := v21) (lv' := [(4, .int v21), (0, .ref (ad 1)), (1, .int x1), (2, .int x2), (3, .int x3)]) hx hb dX4_make_49 hl (k := 4) rfl (by rw [ev21]; rfl) (by decide) rfl (fun ls hl => ?_)
        refine lv_goto (tgt := 4) hx hb dX4_make_52 (by decide) ?_
        exact ih _ _ _ _ _ h hI (lv_sub hl [1, 2, 3, 4, 0] rfl)
      replace h := tf_pos c20 h
      refine lv_aload_n hx hb dX4_make_24 rfl (lv_at hl 0 rfl) ?_
      refine tf_get (C := RX4) (T := TX4) (N := 10) hx hb hts hn_X4 hown hK hI 1 (tf_xat_1 ad cI cZ _) rfl 5 (by decide) hf_28 rfl rfl dX4_make_25 ?_
      refine lv_iload hx hb dX4_make_28 (lv_at hl 4 rfl) ?_
      obtain ⟨b22, h⟩ := tf_gin h
      refine va_iald hx hb hK hI.1 10 0 (tf_xat_10 ad cI cZ _) rfl b22 dX4_make_30 ?_
      refine lv_iload_n hx hb dX4_make_31 rfl (lv_at hl 2 rfl) ?_
      refine lv_icmp_ne (tgt := 49) hx hb dX4_make_32 (by decide) (fun c23 => ?_) (fun c23 => ?_)
      · replace h := tf_neg c23 h
        obtain ⟨v24, ev24, h⟩ := tf_glet h
        refine lv_iinc (v := v24) (lv' := [(4, .int v24), (0, .ref (ad 1)), (1, .int x1), (2, .int x2), (3, .int x3)]) hx hb dX4_make_49 hl (k := 4) rfl (by rw [ev24]; rfl) (by decide) rfl (fun ls hl => ?_)
        refine lv_goto (tgt := 4) hx hb dX4_make_52 (by decide) ?_
        exact ih _ _ _ _ _ h hI (lv_sub hl [1, 2, 3, 4, 0] rfl)
      replace h := tf_pos c23 h
      refine lv_aload_n hx hb dX4_make_35 rfl (lv_at hl 0 rfl) ?_
      refine tf_get (C := RX4) (T := TX4) (N := 10) hx hb hts hn_X4 hown hK hI 1 (tf_xat_1 ad cI cZ _) rfl 6 (by decide) hf_31 rfl rfl dX4_make_36 ?_
      refine lv_iload hx hb dX4_make_39 (lv_at hl 4 rfl) ?_
      obtain ⟨b25, h⟩ := tf_gin h
      refine va_iald hx hb hK hI.1 11 0 (tf_xat_11 ad cI cZ _) rfl b25 dX4_make_41 ?_
      refine lv_iload_n hx hb dX4_make_42 rfl (lv_at hl 3 rfl) ?_
      refine lv_icmp_ne (tgt := 49) hx hb dX4_make_43 (by decide) (fun c26 => ?_) (fun c26 => ?_)
      · replace h := tf_neg c26 h
        obtain ⟨v27, ev27, h⟩ := tf_glet h
        refine lv_iinc (v := v27) (lv' := [(4, .int v27), (0, .ref (ad 1)), (1, .int x1), (2, .int x2), (3, .int x3)]) hx hb dX4_make_49 hl (k := 4) rfl (by rw [ev27]; rfl) (by decide) rfl (fun ls hl => ?_)
        refine lv_goto (tgt := 4) hx hb dX4_make_52 (by decide) ?_
        exact ih _ _ _ _ _ h hI (lv_sub hl [1, 2, 3, 4, 0] rfl)
      replace h := tf_pos c26 h
      refine lv_iload hx hb dX4_make_46 (lv_at hl 4 rfl) ?_
      exact tf_iret hx hb hr hI h dX4_make_48 hlocks
  unfold fX4_make at h
  refine lv_bipush (v := 6) hx hb dX4_make_0 (by decide +kernel) ?_
  refine lv_istore (lv' := [(4, .int (6 : Int32)), (0, .ref (ad 1)), (1, .int x1), (2, .int x2), (3, .int x3)]) hx hb dX4_make_2 hl (by decide) rfl (fun ls hl => ?_)
  exact j4  _ _ _ _ _ _ h hI (lv_sub hl [1, 2, 3, 4, 0] rfl)

set_option maxHeartbeats 4000000 in
set_option maxRecDepth 100000 in
theorem kX_X4_putIn (l : Launch) (D : va_G) (ad : Nat → Nat) (cI cZ : ClassId) (σ : tf_S) (x1 x2 x3 : Int32) (z : Int32 × tf_S) (h : fX4_putIn σ x1 x2 x3 = some z) : tf_C l D (tf_wx ad cI cZ) [(cI, .int), (cZ, .boolean)] tf_nest yX4_putIn wsX4_putIn ({ frames := 1, cells := 0, slots := 0, locals := 24 }) [.ref (ad 1), .int x1, .int x2, .int x3] σ z := by
  intro sz
  refine Met.ofW (cc := cX4_putIn) (maxL := 9) (ret := (some .int)) (by decide) rfl ?_
  intro p e s m args below meth c s₁ B hml hv
  obtain ⟨rfl, hsz, hP, hK, hN, hD0⟩ := hv
  have hx := B.exec
  have hb := B.bytes
  have hr := B.returns
  have hts := atoms_spec (ws := wsX4_putIn) B.pre
  have hown : s.vm.findClass RX4 = some m.cls := findClass_of_methodNamed B.named
  have hlocks := B.notSynchronized
  subst hsz
  have hI := tf_start (D := D) (tf_x_ad ad cI cZ) hP hD0
  have hl := lv_entry ([.ref (ad 1), .int x1, .int x2, .int x3]) (n := 9) (Nat.le_of_ble_eq_true rfl)
  rw [lg_entry_eq]
  generalize (lg_sl ([.ref (ad 1), .int x1, .int x2, .int x3]) ++ List.replicate (9 - (lg_sl ([.ref (ad 1), .int x1, .int x2, .int x3])).length) Slot.unset).toArray = ls at hl ⊢
  have hl : lv_has ls 9 [(0, .ref (ad 1)), (1, .int x1), (2, .int x2), (3, .int x3)] := hl
  have hn_X4 : ∀ w ∈ u_ws RX4 TX4 10, w ∈ wsX4_putIn := by decide +kernel
  have hf_22 := hts (.fieldLink RX4 22 "TypeFlow$Types" "size" "I") (by decide +kernel)
  have hf_25 := hts (.fieldLink RX4 25 "TypeFlow$Types" "ofClass" "[I") (by decide +kernel)
  have hf_28 := hts (.fieldLink RX4 28 "TypeFlow$Types" "first" "[I") (by decide +kernel)
  have hf_31 := hts (.fieldLink RX4 31 "TypeFlow$Types" "second" "[I") (by decide +kernel)
  have hf_34 := hts (.fieldLink RX4 34 "TypeFlow$Types" "within" "[I") (by decide +kernel)
  have hf_37 := hts (.fieldLink RX4 37 "TypeFlow$Types" "image" "[I") (by decide +kernel)
  have hf_40 := hts (.fieldLink RX4 40 "TypeFlow$Types" "path" "[I") (by decide +kernel)
  have j142 : ∀ (k82 : tf_S → Int32 → Int32 → Option (Int32 × tf_S)), (∀ (σ : tf_S) (y4 y5 : Int32) (H : Heap) (locs : List Loc) (ls : Array Slot), k82 σ y4 y5 = some z → tf_I D (tf_wx ad cI cZ) s.heap σ H locs → lv_has ls 9 [(0, .ref (ad 1)), (1, .int x1), (4, .int y4), (5, .int y5)] → W p l e (headSpec wsX4_putIn ({ frames := 1, cells := 0, slots := 0, locals := 24 })).room s m ([.ref (ad 1), .int x1, .int x2, .int x3] : List Value).toArray below meth c H locs 0 0 (tf_Q below D (tf_wx ad cI cZ) z ([.ref (ad 1), .int x1, .int x2, .int x3] : List Value).toArray s) (F0 m 82 ls [])) → ∀ (σ : tf_S) (y4 y5 y6 : Int32) (H : Heap) (locs : List Loc) (ls : Array Slot), fX4_putIn_142 x1 x2 x3 k82 σ y4 y5 y6 = some z → tf_I D (tf_wx ad cI cZ) s.heap σ H locs → lv_has ls 9 [(0, .ref (ad 1)), (1, .int x1), (4, .int y4), (5, .int y5), (6, .int y6)] → W p l e (headSpec wsX4_putIn ({ frames := 1, cells := 0, slots := 0, locals := 24 })).room s m ([.ref (ad 1), .int x1, .int x2, .int x3] : List Value).toArray below meth c H locs 0 0 (tf_Q below D (tf_wx ad cI cZ) z ([.ref (ad 1), .int x1, .int x2, .int x3] : List Value).toArray s) (F0 m 142 ls []) := by
    intro k82 hk82 σ y4 y5 y6 H locs ls h hI hl
    unfold fX4_putIn_142 at h
    refine lv_aload_n hx hb dX4_putIn_142 rfl (lv_at hl 0 rfl) ?_
    refine lv_aload_n hx hb dX4_putIn_143 rfl (lv_at hl 0 rfl) ?_
    refine tf_get (C := RX4) (T := TX4) (N := 10) hx hb hts hn_X4 hown hK hI 1 (tf_xat_1 ad cI cZ _) rfl 4 (by decide) hf_25 rfl rfl dX4_putIn_144 ?_
    refine lv_iload hx hb dX4_putIn_147 (lv_at hl 4 rfl) ?_
    obtain ⟨b20, h⟩ := tf_gin h
    refine va_iald hx hb hK hI.1 9 0 (tf_xat_9 ad cI cZ _) rfl b20 dX4_putIn_149 ?_
    refine lv_aload_n hx hb dX4_putIn_150 rfl (lv_at hl 0 rfl) ?_
    refine lv_aload_n hx hb dX4_putIn_151 rfl (lv_at hl 0 rfl) ?_
    refine tf_get (C := RX4) (T := TX4) (N := 10) hx hb hts hn_X4 hown hK hI 1 (tf_xat_1 ad cI cZ _) rfl 5 (by decide) hf_28 rfl rfl dX4_putIn_152 ?_
    refine lv_iload hx hb dX4_putIn_155 (lv_at hl 4 rfl) ?_
    obtain ⟨b21, h⟩ := tf_gin h
    refine va_iald hx hb hK hI.1 10 0 (tf_xat_10 ad cI cZ _) rfl b21 dX4_putIn_157 ?_
    obtain ⟨u22, q23, h⟩ := tf_gbind h
    refine tf_callV (rest := [.int (σ 9 (y6).toNatClampNeg), .ref (ad 1)]) ⟨hx, hb, hml, hown, hts⟩ hK hN hI (kX_X4_imageOf l D ad cI cZ _ _ _ q23) (cwV 1 hts gX4_putIn_X4_imageOf rfl rfl rfl (by decide +kernel) ⟨Nat.le_of_ble_eq_true rfl, Nat.le_of_ble_eq_true rfl⟩) 1 4 (tf_xat_1 ad cI cZ _) rfl rfl hl.1 rfl (Nat.le_of_ble_eq_true rfl) dX4_putIn_158 (fun H locs hI => ?_)
    refine lv_aload_n hx hb dX4_putIn_161 rfl (lv_at hl 0 rfl) ?_
    refine lv_aload_n hx hb dX4_putIn_162 rfl (lv_at hl 0 rfl) ?_
    refine tf_get (C := RX4) (T := TX4) (N := 10) hx hb hts hn_X4 hown hK hI 1 (tf_xat_1 ad cI cZ _) rfl 6 (by decide) hf_31 rfl rfl dX4_putIn_163 ?_
    refine lv_iload hx hb dX4_putIn_166 (lv_at hl 4 rfl) ?_
    obtain ⟨b24, h⟩ := tf_gin h
    refine va_iald hx hb hK hI.1 11 0 (tf_xat_11 ad cI cZ _) rfl b24 dX4_putIn_168 ?_
    obtain ⟨u25, q26, h⟩ := tf_gbind h
    refine tf_callV (rest := [.int u22.1, .int (σ 9 (y6).toNatClampNeg), .ref (ad 1)]) ⟨hx, hb, hml, hown, hts⟩ hK hN hI (kX_X4_imageOf l D ad cI cZ _ _ _ q26) (cwV 1 hts gX4_putIn_X4_imageOf rfl rfl rfl (by decide +kernel) ⟨Nat.le_of_ble_eq_true rfl, Nat.le_of_ble_eq_true rfl⟩) 1 4 (tf_xat_1 ad cI cZ _) rfl rfl hl.1 rfl (Nat.le_of_ble_eq_true rfl) dX4_putIn_169 (fun H locs hI => ?_)
    obtain ⟨u27, q28, h⟩ := tf_gbind h
    refine tf_callV (rest := []) ⟨hx, hb, hml, hown, hts⟩ hK hN hI (kX_X4_make l D ad cI cZ _ _ _ _ _ q28) (cwV 3 hts gX4_putIn_X4_make rfl rfl rfl (by decide +kernel) ⟨Nat.le_of_ble_eq_true rfl, Nat.le_of_ble_eq_true rfl⟩) 1 4 (tf_xat_1 ad cI cZ _) rfl rfl hl.1 rfl (Nat.le_of_ble_eq_true rfl) dX4_putIn_172 (fun H locs hI => ?_)
    obtain ⟨v29, ev29, h⟩ := tf_glet h
    refine tf_top ev29 ?_
    refine lv_istore (lv' := [(8, .int v29), (0, .ref (ad 1)), (1, .int x1), (4, .int y4), (5, .int y5), (6, .int y6)]) hx hb dX4_putIn_175 hl (by decide) rfl (fun ls hl => ?_)
    refine lv_iload hx hb dX4_putIn_177 (lv_at hl 0 rfl) ?_
    refine lv_bipush (v := -3) hx hb dX4_putIn_179 (by decide +kernel) ?_
    refine lv_icmp_ne (tgt := 187) hx hb dX4_putIn_181 (by decide) (fun c30 => ?_) (fun c30 => ?_)
    · replace h := tf_neg c30 h
      refine lv_aload_n hx hb dX4_putIn_187 rfl (lv_at hl 1 rfl) ?_
      refine tf_get (C := RX4) (T := TX4) (N := 10) hx hb hts hn_X4 hown hK hI 1 (tf_xat_1 ad cI cZ _) rfl 8 (by decide) hf_37 rfl rfl dX4_putIn_188 ?_
      refine lv_iload hx hb dX4_putIn_191 (lv_at hl 5 rfl) ?_
      refine lv_iload hx hb dX4_putIn_193 (lv_at hl 0 rfl) ?_
      obtain ⟨b31, h⟩ := tf_gin h
      obtain ⟨s32, es32, h⟩ := tf_glet h
      refine tf_iast hx hb hK hI 13 0 (tf_xat_13 ad cI cZ _) (tf_xset_13 ad cI cZ _) rfl b31 es32 dX4_putIn_195 (fun H locs hI => ?_)
      obtain ⟨v33, ev33, h⟩ := tf_glet h
      refine lv_iinc (v := v33) (lv' := [(4, .int v33), (8, .int v29), (0, .ref (ad 1)), (1, .int x1), (5, .int y5), (6, .int y6)]) hx hb dX4_putIn_196 hl (k := 3) rfl (by rw [ev33]; rfl) (by decide) rfl (fun ls hl => ?_)
      obtain ⟨v34, ev34, h⟩ := tf_glet h
      refine lv_iinc (v := v34) (lv' := [(5, .int v34), (4, .int v33), (8, .int v29), (0, .ref (ad 1)), (1, .int x1), (6, .int y6)]) hx hb dX4_putIn_199 hl (k := 4) rfl (by rw [ev34]; rfl) (by decide) rfl (fun ls hl => ?_)
      refine lv_goto (tgt := 82) hx hb dX4_putIn_202 (by decide) ?_
      exact hk82 _ _ _ _ _ _ h hI (lv_sub hl [3, 4, 1, 0] rfl)
    replace h := tf_pos c30 h
    refine lv_bipush (v := -3) hx hb dX4_putIn_184 (by decide +kernel) ?_
    exact tf_iret hx hb hr hI h dX4_putIn_186 hlocks
  have j82 : ∀ n : Nat, ∀ (σ : tf_S) (y4 y5 : Int32) (H : Heap) (locs : List Loc) (ls : Array Slot), fX4_putIn_82 x1 x2 x3 n σ y4 y5 = some z → tf_I D (tf_wx ad cI cZ) s.heap σ H locs → lv_has ls 9 [(0, .ref (ad 1)), (1, .int x1), (4, .int y4), (5, .int y5)] → W p l e (headSpec wsX4_putIn ({ frames := 1, cells := 0, slots := 0, locals := 24 })).room s m ([.ref (ad 1), .int x1, .int x2, .int x3] : List Value).toArray below meth c H locs 0 0 (tf_Q below D (tf_wx ad cI cZ) z ([.ref (ad 1), .int x1, .int x2, .int x3] : List Value).toArray s) (F0 m 82 ls []) := by
    intro n
    induction n with
    | zero =>
      intro σ y4 y5 H locs ls h
      rw [fX4_putIn_82] at h
      cases h
    | succ n ih =>
      intro σ y4 y5 H locs ls h hI hl
      rw [fX4_putIn_82] at h
      refine lv_iload hx hb dX4_putIn_82 (lv_at hl 2 rfl) ?_
      refine lv_if_le (tgt := 205) hx hb dX4_putIn_84 (by decide) (fun c10 => ?_) (fun c10 => ?_)
      · replace h := tf_pos c10 h
        refine lv_aload_n hx hb dX4_putIn_205 rfl (lv_at hl 0 rfl) ?_
        refine tf_get (C := RX4) (T := TX4) (N := 10) hx hb hts hn_X4 hown hK hI 1 (tf_xat_1 ad cI cZ _) rfl 8 (by decide) hf_37 rfl rfl dX4_putIn_206 ?_
        refine lv_iload_n hx hb dX4_putIn_209 rfl (lv_at hl 1 rfl) ?_
        obtain ⟨b11, h⟩ := tf_gin h
        refine va_iald hx hb hK hI.1 13 0 (tf_xat_13 ad cI cZ _) rfl b11 dX4_putIn_210 ?_
        exact tf_iret hx hb hr hI h dX4_putIn_211 hlocks
      replace h := tf_neg c10 h
      refine lv_iload hx hb dX4_putIn_87 (lv_at hl 3 rfl) ?_
      refine lv_sipush (v := 160) hx hb dX4_putIn_89 (by decide +kernel) ?_
      refine lv_icmp_ge (tgt := 205) hx hb dX4_putIn_92 (by decide) (fun c12 => ?_) (fun c12 => ?_)
      · replace h := tf_pos c12 h
        refine lv_aload_n hx hb dX4_putIn_205 rfl (lv_at hl 0 rfl) ?_
        refine tf_get (C := RX4) (T := TX4) (N := 10) hx hb hts hn_X4 hown hK hI 1 (tf_xat_1 ad cI cZ _) rfl 8 (by decide) hf_37 rfl rfl dX4_putIn_206 ?_
        refine lv_iload_n hx hb dX4_putIn_209 rfl (lv_at hl 1 rfl) ?_
        obtain ⟨b13, h⟩ := tf_gin h
        refine va_iald hx hb hK hI.1 13 0 (tf_xat_13 ad cI cZ _) rfl b13 dX4_putIn_210 ?_
        exact tf_iret hx hb hr hI h dX4_putIn_211 hlocks
      replace h := tf_neg c12 h
      refine lv_aload_n hx hb dX4_putIn_95 rfl (lv_at hl 0 rfl) ?_
      refine tf_get (C := RX4) (T := TX4) (N := 10) hx hb hts hn_X4 hown hK hI 1 (tf_xat_1 ad cI cZ _) rfl 9 (by decide) hf_40 rfl rfl dX4_putIn_96 ?_
      refine lv_iload hx hb dX4_putIn_99 (lv_at hl 2 rfl) ?_
      refine lv_iconst (v := 1) hx hb dX4_putIn_101 (by decide +kernel) ?_
      refine lv_isub hx hb dX4_putIn_102 ?_
      obtain ⟨b14, h⟩ := tf_gin h
      refine va_iald hx hb hK hI.1 14 0 (tf_xat_14 ad cI cZ _) rfl b14 dX4_putIn_103 ?_
      obtain ⟨v15, ev15, h⟩ := tf_glet h
      refine tf_top ev15 ?_
      refine lv_istore (lv' := [(6, .int v15), (0, .ref (ad 1)), (1, .int x1), (4, .int y4), (5, .int y5)]) hx hb dX4_putIn_104 hl (by decide) rfl (fun ls hl => ?_)
      refine lv_aload_n hx hb dX4_putIn_106 rfl (lv_at hl 1 rfl) ?_
      refine lv_iload hx hb dX4_putIn_107 (lv_at hl 0 rfl) ?_
      obtain ⟨u16, q17, h⟩ := tf_gbind h
      refine tf_callV (rest := []) ⟨hx, hb, hml, hown, hts⟩ hK hN hI (kX_X4_argumentWithoutImage l D ad cI cZ _ _ _ q17) (cwV 1 hts gX4_putIn_X4_argumentWithoutImage rfl rfl rfl (by decide +kernel) ⟨Nat.le_of_ble_eq_true rfl, Nat.le_of_ble_eq_true rfl⟩) 1 4 (tf_xat_1 ad cI cZ _) rfl rfl hl.1 rfl (Nat.le_of_ble_eq_true rfl) dX4_putIn_109 (fun H locs hI => ?_)
      obtain ⟨v18, ev18, h⟩ := tf_glet h
      refine tf_top ev18 ?_
      refine lv_istore (lv' := [(7, .int v18), (6, .int v15), (0, .ref (ad 1)), (1, .int x1), (4, .int y4), (5, .int y5)]) hx hb dX4_putIn_112 hl (by decide) rfl (fun ls hl => ?_)
      refine lv_iload hx hb dX4_putIn_114 (lv_at hl 0 rfl) ?_
      refine lv_iconst (v := -1) hx hb dX4_putIn_116 (by decide +kernel) ?_
      refine lv_icmp_eq (tgt := 142) hx hb dX4_putIn_117 (by decide) (fun c19 => ?_) (fun c19 => ?_)
      · replace h := tf_pos c19 h
        exact j142 _ ih _ _ _ _ _ _ _ h hI (lv_sub hl [2, 3, 4, 5, 1] rfl)
      replace h := tf_neg c19 h
      refine lv_iload hx hb dX4_putIn_120 (lv_at hl 4 rfl) ?_
      refine lv_bipush (v := 80) hx hb dX4_putIn_122 (by decide +kernel) ?_
      refine lv_icmp_ge (tgt := 142) hx hb dX4_putIn_124 (by decide) (fun c35 => ?_) (fun c35 => ?_)
      · replace h := tf_pos c35 h
        exact j142 _ ih _ _ _ _ _ _ _ h hI (lv_sub hl [2, 3, 4, 5, 1] rfl)
      replace h := tf_neg c35 h
      refine lv_aload_n hx hb dX4_putIn_127 rfl (lv_at hl 2 rfl) ?_
      refine tf_get (C := RX4) (T := TX4) (N := 10) hx hb hts hn_X4 hown hK hI 1 (tf_xat_1 ad cI cZ _) rfl 9 (by decide) hf_40 rfl rfl dX4_putIn_128 ?_
      refine lv_iload hx hb dX4_putIn_131 (lv_at hl 4 rfl) ?_
      obtain ⟨v36, ev36, h⟩ := tf_glet h
      refine lv_iinc (v := v36) (lv' := [(4, .int v36), (7, .int v18), (6, .int v15), (0, .ref (ad 1)), (1, .int x1), (5, .int y5)]) hx hb dX4_putIn_133 hl (k := 4) rfl (by rw [ev36]; rfl) (by decide) rfl (fun ls hl => ?_)
      refine lv_iload hx hb dX4_putIn_136 (lv_at hl 1 rfl) ?_
      obtain ⟨b37, h⟩ := tf_gin h
      obtain ⟨s38, es38, h⟩ := tf_glet h
      refine tf_iast hx hb hK hI 14 0 (tf_xat_14 ad cI cZ _) (tf_xset_14 ad cI cZ _) rfl b37 es38 dX4_putIn_138 (fun H locs hI => ?_)
      refine lv_goto (tgt := 199) hx hb dX4_putIn_139 (by decide) ?_
      obtain ⟨v39, ev39, h⟩ := tf_glet h
      refine lv_iinc (v := v39) (lv' := [(5, .int v39), (4, .int v36), (7, .int v18), (6, .int v15), (0, .ref (ad 1)), (1, .int x1)]) hx hb dX4_putIn_199 hl (k := 5) rfl (by rw [ev39]; rfl) (by decide) rfl (fun ls hl => ?_)
      refine lv_goto (tgt := 82) hx hb dX4_putIn_202 (by decide) ?_
      exact ih _ _ _ _ _ _ h hI (lv_sub hl [4, 5, 1, 0] rfl)
  have j3 : ∀ n : Nat, ∀ (σ : tf_S) (y4 : Int32) (H : Heap) (locs : List Loc) (ls : Array Slot), fX4_putIn_3 x1 x2 x3 n σ y4 = some z → tf_I D (tf_wx ad cI cZ) s.heap σ H locs → lv_has ls 9 [(0, .ref (ad 1)), (1, .int x1), (2, .int x2), (3, .int x3), (4, .int y4)] → W p l e (headSpec wsX4_putIn ({ frames := 1, cells := 0, slots := 0, locals := 24 })).room s m ([.ref (ad 1), .int x1, .int x2, .int x3] : List Value).toArray below meth c H locs 0 0 (tf_Q below D (tf_wx ad cI cZ) z ([.ref (ad 1), .int x1, .int x2, .int x3] : List Value).toArray s) (F0 m 3 ls []) := by
    intro n
    induction n with
    | zero =>
      intro σ y4 H locs ls h
      rw [fX4_putIn_3] at h
      cases h
    | succ n ih =>
      intro σ y4 H locs ls h hI hl
      rw [fX4_putIn_3] at h
      refine lv_iload hx hb dX4_putIn_3 (lv_at hl 4 rfl) ?_
      refine lv_aload_n hx hb dX4_putIn_5 rfl (lv_at hl 0 rfl) ?_
      refine tf_get (C := RX4) (T := TX4) (N := 10) hx hb hts hn_X4 hown hK hI 1 (tf_xat_1 ad cI cZ _) rfl 3 (by decide) hf_22 rfl rfl dX4_putIn_6 ?_
      refine lv_icmp_ge (tgt := 41) hx hb dX4_putIn_9 (by decide) (fun c1 => ?_) (fun c1 => ?_)
      · replace h := tf_pos c1 h
        refine lv_aload_n hx hb dX4_putIn_41 rfl (lv_at hl 0 rfl) ?_
        refine tf_get (C := RX4) (T := TX4) (N := 10) hx hb hts hn_X4 hown hK hI 1 (tf_xat_1 ad cI cZ _) rfl 8 (by decide) hf_37 rfl rfl dX4_putIn_42 ?_
        refine lv_iconst (v := 4) hx hb dX4_putIn_45 (by decide +kernel) ?_
        refine lv_iload_n hx hb dX4_putIn_46 rfl (lv_at hl 2 rfl) ?_
        obtain ⟨b2, h⟩ := tf_gin h
        obtain ⟨s3, es3, h⟩ := tf_glet h
        refine tf_iast hx hb hK hI 13 0 (tf_xat_13 ad cI cZ _) (tf_xset_13 ad cI cZ _) rfl b2 es3 dX4_putIn_47 (fun H locs hI => ?_)
        refine lv_aload_n hx hb dX4_putIn_48 rfl (lv_at hl 0 rfl) ?_
        refine tf_get (C := RX4) (T := TX4) (N := 10) hx hb hts hn_X4 hown hK hI 1 (tf_xat_1 ad cI cZ _) rfl 8 (by decide) hf_37 rfl rfl dX4_putIn_49 ?_
        refine lv_iconst (v := 5) hx hb dX4_putIn_52 (by decide +kernel) ?_
        refine lv_iload_n hx hb dX4_putIn_53 rfl (lv_at hl 3 rfl) ?_
        obtain ⟨b4, h⟩ := tf_gin h
        obtain ⟨s5, es5, h⟩ := tf_glet h
        refine tf_iast hx hb hK hI 13 0 (tf_xat_13 ad cI cZ _) (tf_xset_13 ad cI cZ _) rfl b4 es5 dX4_putIn_54 (fun H locs hI => ?_)
        refine lv_aload_n hx hb dX4_putIn_55 rfl (lv_at hl 0 rfl) ?_
        refine tf_get (C := RX4) (T := TX4) (N := 10) hx hb hts hn_X4 hown hK hI 1 (tf_xat_1 ad cI cZ _) rfl 9 (by decide) hf_40 rfl rfl dX4_putIn_56 ?_
        refine lv_iconst (v := 0) hx hb dX4_putIn_59 (by decide +kernel) ?_
        refine lv_iload_n hx hb dX4_putIn_60 rfl (lv_at hl 1 rfl) ?_
        obtain ⟨b6, h⟩ := tf_gin h
        obtain ⟨s7, es7, h⟩ := tf_glet h
        refine tf_iast hx hb hK hI 14 0 (tf_xat_14 ad cI cZ _) (tf_xset_14 ad cI cZ _) rfl b6 es7 dX4_putIn_61 (fun H locs hI => ?_)
        refine lv_aload_n hx hb dX4_putIn_62 rfl (lv_at hl 0 rfl) ?_
        refine tf_get (C := RX4) (T := TX4) (N := 10) hx hb hts hn_X4 hown hK hI 1 (tf_xat_1 ad cI cZ _) rfl 8 (by decide) hf_37 rfl rfl dX4_putIn_63 ?_
        refine lv_iload_n hx hb dX4_putIn_66 rfl (lv_at hl 1 rfl) ?_
        obtain ⟨b8, h⟩ := tf_gin h
        refine va_iald hx hb hK hI.1 13 0 (tf_xat_13 ad cI cZ _) rfl b8 dX4_putIn_67 ?_
        refine lv_iconst (v := -1) hx hb dX4_putIn_68 (by decide +kernel) ?_
        refine lv_icmp_ne (tgt := 76) hx hb dX4_putIn_69 (by decide) (fun c9 => ?_) (fun c9 => ?_)
        · replace h := tf_neg c9 h
          refine lv_iconst (v := 0) hx hb dX4_putIn_76 (by decide +kernel) ?_
          refine lv_istore (lv' := [(4, .int (0 : Int32)), (0, .ref (ad 1)), (1, .int x1), (2, .int x2), (3, .int x3)]) hx hb dX4_putIn_77 hl (by decide) rfl (fun ls hl => ?_)
          refine lv_iconst (v := 0) hx hb dX4_putIn_79 (by decide +kernel) ?_
          refine lv_istore (lv' := [(5, .int (0 : Int32)), (4, .int (0 : Int32)), (0, .ref (ad 1)), (1, .int x1), (2, .int x2), (3, .int x3)]) hx hb dX4_putIn_80 hl (by decide) rfl (fun ls hl => ?_)
          exact j82  _ _ _ _ _ _ _ h hI (lv_sub hl [2, 3, 1, 0] rfl)
        replace h := tf_pos c9 h
        refine lv_iconst (v := 1) hx hb dX4_putIn_72 (by decide +kernel) ?_
        refine lv_goto (tgt := 77) hx hb dX4_putIn_73 (by decide) ?_
        refine lv_istore (lv' := [(4, .int (1 : Int32)), (0, .ref (ad 1)), (1, .int x1), (2, .int x2), (3, .int x3)]) hx hb dX4_putIn_77 hl (by decide) rfl (fun ls hl => ?_)
        refine lv_iconst (v := 0) hx hb dX4_putIn_79 (by decide +kernel) ?_
        refine lv_istore (lv' := [(5, .int (0 : Int32)), (4, .int (1 : Int32)), (0, .ref (ad 1)), (1, .int x1), (2, .int x2), (3, .int x3)]) hx hb dX4_putIn_80 hl (by decide) rfl (fun ls hl => ?_)
        exact j82  _ _ _ _ _ _ _ h hI (lv_sub hl [2, 3, 1, 0] rfl)
      replace h := tf_neg c1 h
      refine lv_aload_n hx hb dX4_putIn_12 rfl (lv_at hl 0 rfl) ?_
      refine tf_get (C := RX4) (T := TX4) (N := 10) hx hb hts hn_X4 hown hK hI 1 (tf_xat_1 ad cI cZ _) rfl 8 (by decide) hf_37 rfl rfl dX4_putIn_13 ?_
      refine lv_iload hx hb dX4_putIn_16 (lv_at hl 4 rfl) ?_
      refine lv_aload_n hx hb dX4_putIn_18 rfl (lv_at hl 0 rfl) ?_
      refine tf_get (C := RX4) (T := TX4) (N := 10) hx hb hts hn_X4 hown hK hI 1 (tf_xat_1 ad cI cZ _) rfl 7 (by decide) hf_34 rfl rfl dX4_putIn_19 ?_
      refine lv_iload hx hb dX4_putIn_22 (lv_at hl 4 rfl) ?_
      obtain ⟨b40, h⟩ := tf_gin h
      refine va_iald hx hb hK hI.1 12 0 (tf_xat_12 ad cI cZ _) rfl b40 dX4_putIn_24 ?_
      refine lv_if_ne (tgt := 33) hx hb dX4_putIn_25 (by decide) (fun c41 => ?_) (fun c41 => ?_)
      · replace h := tf_neg c41 h
        refine lv_iconst (v := -1) hx hb dX4_putIn_33 (by decide +kernel) ?_
        obtain ⟨b42, h⟩ := tf_gin h
        obtain ⟨s43, es43, h⟩ := tf_glet h
        refine tf_iast hx hb hK hI 13 0 (tf_xat_13 ad cI cZ _) (tf_xset_13 ad cI cZ _) rfl b42 es43 dX4_putIn_34 (fun H locs hI => ?_)
        obtain ⟨v44, ev44, h⟩ := tf_glet h
        refine lv_iinc (v := v44) (lv' := [(4, .int v44), (0, .ref (ad 1)), (1, .int x1), (2, .int x2), (3, .int x3)]) hx hb dX4_putIn_35 hl (k := 4) rfl (by rw [ev44]; rfl) (by decide) rfl (fun ls hl => ?_)
        refine lv_goto (tgt := 3) hx hb dX4_putIn_38 (by decide) ?_
        exact ih _ _ _ _ _ h hI (lv_sub hl [1, 2, 3, 4, 0] rfl)
      replace h := tf_pos c41 h
      refine lv_iload hx hb dX4_putIn_28 (lv_at hl 4 rfl) ?_
      refine lv_goto (tgt := 34) hx hb dX4_putIn_30 (by decide) ?_
      obtain ⟨b45, h⟩ := tf_gin h
      obtain ⟨s46, es46, h⟩ := tf_glet h
      refine tf_iast hx hb hK hI 13 0 (tf_xat_13 ad cI cZ _) (tf_xset_13 ad cI cZ _) rfl b45 es46 dX4_putIn_34 (fun H locs hI => ?_)
      obtain ⟨v47, ev47, h⟩ := tf_glet h
      refine lv_iinc (v := v47) (lv' := [(4, .int v47), (0, .ref (ad 1)), (1, .int x1), (2, .int x2), (3, .int x3)]) hx hb dX4_putIn_35 hl (k := 4) rfl (by rw [ev47]; rfl) (by decide) rfl (fun ls hl => ?_)
      refine lv_goto (tgt := 3) hx hb dX4_putIn_38 (by decide) ?_
      exact ih _ _ _ _ _ h hI (lv_sub hl [1, 2, 3, 4, 0] rfl)
  unfold fX4_putIn at h
  refine lv_iconst (v := 0) hx hb dX4_putIn_0 (by decide +kernel) ?_
  refine lv_istore (lv' := [(4, .int (0 : Int32)), (0, .ref (ad 1)), (1, .int x1), (2, .int x2), (3, .int x3)]) hx hb dX4_putIn_1 hl (by decide) rfl (fun ls hl => ?_)
  exact j3  _ _ _ _ _ _ h hI (lv_sub hl [1, 2, 3, 4, 0] rfl)

set_option maxHeartbeats 4000000 in
set_option maxRecDepth 100000 in
theorem kX_X4_seenAs (l : Launch) (D : va_G) (ad : Nat → Nat) (cI cZ : ClassId) (σ : tf_S) (x1 x2 : Int32) (z : Int32 × tf_S) (h : fX4_seenAs σ x1 x2 = some z) : tf_C l D (tf_wx ad cI cZ) [(cI, .int), (cZ, .boolean)] tf_nest yX4_seenAs wsX4_seenAs ({ frames := 2, cells := 0, slots := 0, locals := 52 }) [.ref (ad 1), .int x1, .int x2] σ z := by
  intro sz
  refine Met.ofW (cc := cX4_seenAs) (maxL := 5) (ret := (some .int)) (by decide) rfl ?_
  intro p e s m args below meth c s₁ B hml hv
  obtain ⟨rfl, hsz, hP, hK, hN, hD0⟩ := hv
  have hx := B.exec
  have hb := B.bytes
  have hr := B.returns
  have hts := atoms_spec (ws := wsX4_seenAs) B.pre
  have hown : s.vm.findClass RX4 = some m.cls := findClass_of_methodNamed B.named
  have hlocks := B.notSynchronized
  subst hsz
  have hI := tf_start (D := D) (tf_x_ad ad cI cZ) hP hD0
  have hl := lv_entry ([.ref (ad 1), .int x1, .int x2]) (n := 5) (Nat.le_of_ble_eq_true rfl)
  rw [lg_entry_eq]
  generalize (lg_sl ([.ref (ad 1), .int x1, .int x2]) ++ List.replicate (5 - (lg_sl ([.ref (ad 1), .int x1, .int x2])).length) Slot.unset).toArray = ls at hl ⊢
  have hl : lv_has ls 5 [(0, .ref (ad 1)), (1, .int x1), (2, .int x2)] := hl
  have hn_X4 : ∀ w ∈ u_ws RX4 TX4 10, w ∈ wsX4_seenAs := by decide +kernel
  have hf_19 := hts (.fieldLink RX4 19 "TypeFlow$Types" "parent" "[I") (by decide +kernel)
  have hf_25 := hts (.fieldLink RX4 25 "TypeFlow$Types" "ofClass" "[I") (by decide +kernel)
  have hf_28 := hts (.fieldLink RX4 28 "TypeFlow$Types" "first" "[I") (by decide +kernel)
  have hf_31 := hts (.fieldLink RX4 31 "TypeFlow$Types" "second" "[I") (by decide +kernel)
  have j21 : ∀ n : Nat, ∀ (σ : tf_S) (y3 y4 : Int32) (H : Heap) (locs : List Loc) (ls : Array Slot), fX4_seenAs_21 x1 x2 n σ y3 y4 = some z → tf_I D (tf_wx ad cI cZ) s.heap σ H locs → lv_has ls 5 [(0, .ref (ad 1)), (2, .int x2), (3, .int y3), (4, .int y4)] → W p l e (headSpec wsX4_seenAs ({ frames := 2, cells := 0, slots := 0, locals := 52 })).room s m ([.ref (ad 1), .int x1, .int x2] : List Value).toArray below meth c H locs 0 0 (tf_Q below D (tf_wx ad cI cZ) z ([.ref (ad 1), .int x1, .int x2] : List Value).toArray s) (F0 m 21 ls []) := by
    intro n
    induction n with
    | zero =>
      intro σ y3 y4 H locs ls h
      rw [fX4_seenAs_21] at h
      cases h
    | succ n ih =>
      intro σ y3 y4 H locs ls h hI hl
      rw [fX4_seenAs_21] at h
      refine lv_aload_n hx hb dX4_seenAs_21 rfl (lv_at hl 0 rfl) ?_
      refine tf_get (C := RX4) (T := TX4) (N := 10) hx hb hts hn_X4 hown hK hI 1 (tf_xat_1 ad cI cZ _) rfl 4 (by decide) hf_25 rfl rfl dX4_seenAs_22 ?_
      refine lv_iload_n hx hb dX4_seenAs_25 rfl (lv_at hl 2 rfl) ?_
      obtain ⟨b5, h⟩ := tf_gin h
      refine va_iald hx hb hK hI.1 9 0 (tf_xat_9 ad cI cZ _) rfl b5 dX4_seenAs_26 ?_
      refine lv_iload_n hx hb dX4_seenAs_27 rfl (lv_at hl 1 rfl) ?_
      refine lv_icmp_eq (tgt := 81) hx hb dX4_seenAs_28 (by decide) (fun c6 => ?_) (fun c6 => ?_)
      · replace h := tf_pos c6 h
        refine lv_iload_n hx hb dX4_seenAs_81 rfl (lv_at hl 2 rfl) ?_
        exact tf_iret hx hb hr hI h dX4_seenAs_82 hlocks
      replace h := tf_neg c6 h
      refine lv_iload hx hb dX4_seenAs_31 (lv_at hl 3 rfl) ?_
      refine lv_bipush (v := 12) hx hb dX4_seenAs_33 (by decide +kernel) ?_
      refine lv_icmp_ge (tgt := 81) hx hb dX4_seenAs_35 (by decide) (fun c7 => ?_) (fun c7 => ?_)
      · replace h := tf_pos c7 h
        refine lv_iload_n hx hb dX4_seenAs_81 rfl (lv_at hl 2 rfl) ?_
        exact tf_iret hx hb hr hI h dX4_seenAs_82 hlocks
      replace h := tf_neg c7 h
      refine lv_aload_n hx hb dX4_seenAs_38 rfl (lv_at hl 0 rfl) ?_
      refine lv_aload_n hx hb dX4_seenAs_39 rfl (lv_at hl 0 rfl) ?_
      refine tf_get (C := RX4) (T := TX4) (N := 10) hx hb hts hn_X4 hown hK hI 1 (tf_xat_1 ad cI cZ _) rfl 2 (by decide) hf_19 rfl rfl dX4_seenAs_40 ?_
      refine lv_aload_n hx hb dX4_seenAs_43 rfl (lv_at hl 0 rfl) ?_
      refine tf_get (C := RX4) (T := TX4) (N := 10) hx hb hts hn_X4 hown hK hI 1 (tf_xat_1 ad cI cZ _) rfl 4 (by decide) hf_25 rfl rfl dX4_seenAs_44 ?_
      refine lv_iload_n hx hb dX4_seenAs_47 rfl (lv_at hl 2 rfl) ?_
      obtain ⟨b8, h⟩ := tf_gin h
      refine va_iald hx hb hK hI.1 9 0 (tf_xat_9 ad cI cZ _) rfl b8 dX4_seenAs_48 ?_
      obtain ⟨b9, h⟩ := tf_gin h
      refine va_iald hx hb hK hI.1 8 0 (tf_xat_8 ad cI cZ _) rfl b9 dX4_seenAs_49 ?_
      refine lv_aload_n hx hb dX4_seenAs_50 rfl (lv_at hl 0 rfl) ?_
      refine tf_get (C := RX4) (T := TX4) (N := 10) hx hb hts hn_X4 hown hK hI 1 (tf_xat_1 ad cI cZ _) rfl 5 (by decide) hf_28 rfl rfl dX4_seenAs_51 ?_
      refine lv_iload_n hx hb dX4_seenAs_54 rfl (lv_at hl 2 rfl) ?_
      obtain ⟨b10, h⟩ := tf_gin h
      refine va_iald hx hb hK hI.1 10 0 (tf_xat_10 ad cI cZ _) rfl b10 dX4_seenAs_55 ?_
      refine lv_aload_n hx hb dX4_seenAs_56 rfl (lv_at hl 0 rfl) ?_
      refine tf_get (C := RX4) (T := TX4) (N := 10) hx hb hts hn_X4 hown hK hI 1 (tf_xat_1 ad cI cZ _) rfl 6 (by decide) hf_31 rfl rfl dX4_seenAs_57 ?_
      refine lv_iload_n hx hb dX4_seenAs_60 rfl (lv_at hl 2 rfl) ?_
      obtain ⟨b11, h⟩ := tf_gin h
      refine va_iald hx hb hK hI.1 11 0 (tf_xat_11 ad cI cZ _) rfl b11 dX4_seenAs_61 ?_
      obtain ⟨u12, q13, h⟩ := tf_gbind h
      refine tf_callV (rest := []) ⟨hx, hb, hml, hown, hts⟩ hK hN hI (kX_X4_putIn l D ad cI cZ _ _ _ _ _ q13) (cwV 3 hts gX4_seenAs_X4_putIn rfl rfl rfl (by decide +kernel) ⟨Nat.le_of_ble_eq_true rfl, Nat.le_of_ble_eq_true rfl⟩) 1 4 (tf_xat_1 ad cI cZ _) rfl rfl hl.1 rfl (Nat.le_of_ble_eq_true rfl) dX4_seenAs_62 (fun H locs hI => ?_)
      obtain ⟨v14, ev14, h⟩ := tf_glet h
      refine tf_top ev14 ?_
      refine lv_istore_n (lv' := [(3, .int v14), (0, .ref (ad 1)), (2, .int x2), (4, .int y4)]) hx hb dX4_seenAs_65 rfl hl (by decide) rfl (fun ls hl => ?_)
      refine lv_iload_n hx hb dX4_seenAs_66 rfl (lv_at hl 0 rfl) ?_
      refine lv_bipush (v := -3) hx hb dX4_seenAs_67 (by decide +kernel) ?_
      refine lv_icmp_ne (tgt := 75) hx hb dX4_seenAs_69 (by decide) (fun c15 => ?_) (fun c15 => ?_)
      · replace h := tf_neg c15 h
        obtain ⟨v16, ev16, h⟩ := tf_glet h
        refine lv_iinc (v := v16) (lv' := [(4, .int v16), (3, .int v14), (0, .ref (ad 1)), (2, .int x2)]) hx hb dX4_seenAs_75 hl (k := 3) rfl (by rw [ev16]; rfl) (by decide) rfl (fun ls hl => ?_)
        refine lv_goto (tgt := 21) hx hb dX4_seenAs_78 (by decide) ?_
        exact ih _ _ _ _ _ _ h hI (lv_sub hl [2, 3, 1, 0] rfl)
      replace h := tf_pos c15 h
      refine lv_bipush (v := -3) hx hb dX4_seenAs_72 (by decide +kernel) ?_
      exact tf_iret hx hb hr hI h dX4_seenAs_74 hlocks
  unfold fX4_seenAs at h
  refine lv_aload_n hx hb dX4_seenAs_0 rfl (lv_at hl 0 rfl) ?_
  refine lv_aload_n hx hb dX4_seenAs_1 rfl (lv_at hl 0 rfl) ?_
  refine tf_get (C := RX4) (T := TX4) (N := 10) hx hb hts hn_X4 hown hK hI 1 (tf_xat_1 ad cI cZ _) rfl 4 (by decide) hf_25 rfl rfl dX4_seenAs_2 ?_
  refine lv_iload_n hx hb dX4_seenAs_5 rfl (lv_at hl 1 rfl) ?_
  obtain ⟨b1, h⟩ := tf_gin h
  refine va_iald hx hb hK hI.1 9 0 (tf_xat_9 ad cI cZ _) rfl b1 dX4_seenAs_6 ?_
  refine lv_iload_n hx hb dX4_seenAs_7 rfl (lv_at hl 2 rfl) ?_
  obtain ⟨u2, q3, h⟩ := tf_gbind h
  refine tf_callV (rest := []) ⟨hx, hb, hml, hown, hts⟩ hK hN hI (kX_X4_isFrom l D ad cI cZ _ _ _ _ q3) (cwV 2 hts gX4_seenAs_X4_isFrom rfl rfl rfl (by decide +kernel) ⟨Nat.le_of_ble_eq_true rfl, Nat.le_of_ble_eq_true rfl⟩) 1 4 (tf_xat_1 ad cI cZ _) rfl rfl hl.1 rfl (Nat.le_of_ble_eq_true rfl) dX4_seenAs_8 (fun H locs hI => ?_)
  refine lv_if_ne (tgt := 16) hx hb dX4_seenAs_11 (by decide) (fun c4 => ?_) (fun c4 => ?_)
  · replace h := tf_neg c4 h
    refine lv_iload_n hx hb dX4_seenAs_16 rfl (lv_at hl 1 rfl) ?_
    refine lv_istore_n (lv' := [(3, .int x1), (0, .ref (ad 1)), (1, .int x1), (2, .int x2)]) hx hb dX4_seenAs_17 rfl hl (by decide) rfl (fun ls hl => ?_)
    refine lv_iconst (v := 0) hx hb dX4_seenAs_18 (by decide +kernel) ?_
    refine lv_istore (lv' := [(4, .int (0 : Int32)), (3, .int x1), (0, .ref (ad 1)), (1, .int x1), (2, .int x2)]) hx hb dX4_seenAs_19 hl (by decide) rfl (fun ls hl => ?_)
    exact j21  _ _ _ _ _ _ _ h hI (lv_sub hl [2, 4, 1, 0] rfl)
  replace h := tf_pos c4 h
  refine lv_iconst (v := -1) hx hb dX4_seenAs_14 (by decide +kernel) ?_
  exact tf_iret hx hb hr hI h dX4_seenAs_15 hlocks

set_option maxHeartbeats 4000000 in
set_option maxRecDepth 100000 in
theorem kX_X3_await (l : Launch) (D : va_G) (ad : Nat → Nat) (cI cZ : ClassId) (σ : tf_S) (x1 x2 x3 : Int32) (z : Int32 × tf_S) (h : fX3_await σ x1 x2 x3 = some z) : tf_C l D (tf_wx ad cI cZ) [(cI, .int), (cZ, .boolean)] tf_nest yX3_await wsX3_await ({ frames := 0, cells := 0, slots := 0, locals := 0 }) [.ref (ad 6), .int x1, .int x2, .int x3] σ z := by
  intro sz
  refine Met.ofW (cc := cX3_await) (maxL := 4) (ret := (some .int)) (by decide) rfl ?_
  intro p e s m args below meth c s₁ B hml hv
  obtain ⟨rfl, hsz, hP, hK, hN, hD0⟩ := hv
  have hx := B.exec
  have hb := B.bytes
  have hr := B.returns
  have hts := atoms_spec (ws := wsX3_await) B.pre
  have hown : s.vm.findClass RX3 = some m.cls := findClass_of_methodNamed B.named
  have hlocks := B.notSynchronized
  subst hsz
  have hI := tf_start (D := D) (tf_x_ad ad cI cZ) hP hD0
  have hl := lv_entry ([.ref (ad 6), .int x1, .int x2, .int x3]) (n := 4) (Nat.le_of_ble_eq_true rfl)
  rw [lg_entry_eq]
  generalize (lg_sl ([.ref (ad 6), .int x1, .int x2, .int x3]) ++ List.replicate (4 - (lg_sl ([.ref (ad 6), .int x1, .int x2, .int x3])).length) Slot.unset).toArray = ls at hl ⊢
  have hl : lv_has ls 4 [(0, .ref (ad 6)), (1, .int x1), (2, .int x2), (3, .int x3)] := hl
  have hn_X3 : ∀ w ∈ u_ws RX3 TX3 7, w ∈ wsX3_await := by decide +kernel
  have hf_22 := hts (.fieldLink RX3 22 "TypeFlow$Putting" "wanted" "[I") (by decide +kernel)
  have hf_25 := hts (.fieldLink RX3 25 "TypeFlow$Putting" "given" "[I") (by decide +kernel)
  unfold fX3_await at h
  refine lv_iload_n hx hb dX3_await_0 rfl (lv_at hl 1 rfl) ?_
  refine lv_iconst (v := -1) hx hb dX3_await_1 (by decide +kernel) ?_
  refine lv_icmp_eq (tgt := 16) hx hb dX3_await_2 (by decide) (fun c1 => ?_) (fun c1 => ?_)
  · replace h := tf_pos c1 h
    refine lv_iload_n hx hb dX3_await_16 rfl (lv_at hl 3 rfl) ?_
    exact tf_iret hx hb hr hI h dX3_await_17 hlocks
  replace h := tf_neg c1 h
  refine lv_iload_n hx hb dX3_await_5 rfl (lv_at hl 2 rfl) ?_
  refine lv_iconst (v := -1) hx hb dX3_await_6 (by decide +kernel) ?_
  refine lv_icmp_eq (tgt := 16) hx hb dX3_await_7 (by decide) (fun c2 => ?_) (fun c2 => ?_)
  · replace h := tf_pos c2 h
    refine lv_iload_n hx hb dX3_await_16 rfl (lv_at hl 3 rfl) ?_
    exact tf_iret hx hb hr hI h dX3_await_17 hlocks
  replace h := tf_neg c2 h
  refine lv_iload_n hx hb dX3_await_10 rfl (lv_at hl 3 rfl) ?_
  refine lv_bipush (v := 82) hx hb dX3_await_11 (by decide +kernel) ?_
  refine lv_icmp_lt (tgt := 18) hx hb dX3_await_13 (by decide) (fun c3 => ?_) (fun c3 => ?_)
  · replace h := tf_pos c3 h
    refine lv_aload_n hx hb dX3_await_18 rfl (lv_at hl 0 rfl) ?_
    refine tf_get (C := RX3) (T := TX3) (N := 7) hx hb hts hn_X3 hown hK hI 6 (tf_xat_6 ad cI cZ _) rfl 5 (by decide) hf_22 rfl rfl dX3_await_19 ?_
    refine lv_iload_n hx hb dX3_await_22 rfl (lv_at hl 3 rfl) ?_
    refine lv_iload_n hx hb dX3_await_23 rfl (lv_at hl 1 rfl) ?_
    obtain ⟨b4, h⟩ := tf_gin h
    obtain ⟨s5, es5, h⟩ := tf_glet h
    refine tf_iast hx hb hK hI 33 0 (tf_xat_33 ad cI cZ _) (tf_xset_33 ad cI cZ _) rfl b4 es5 dX3_await_24 (fun H locs hI => ?_)
    refine lv_aload_n hx hb dX3_await_25 rfl (lv_at hl 0 rfl) ?_
    refine tf_get (C := RX3) (T := TX3) (N := 7) hx hb hts hn_X3 hown hK hI 6 (tf_xat_6 ad cI cZ _) rfl 6 (by decide) hf_25 rfl rfl dX3_await_26 ?_
    refine lv_iload_n hx hb dX3_await_29 rfl (lv_at hl 3 rfl) ?_
    refine lv_iload_n hx hb dX3_await_30 rfl (lv_at hl 2 rfl) ?_
    obtain ⟨b6, h⟩ := tf_gin h
    obtain ⟨s7, es7, h⟩ := tf_glet h
    refine tf_iast hx hb hK hI 34 0 (tf_xat_34 ad cI cZ _) (tf_xset_34 ad cI cZ _) rfl b6 es7 dX3_await_31 (fun H locs hI => ?_)
    refine lv_iload_n hx hb dX3_await_32 rfl (lv_at hl 3 rfl) ?_
    refine lv_iconst (v := 1) hx hb dX3_await_33 (by decide +kernel) ?_
    refine lv_iadd hx hb dX3_await_34 ?_
    exact tf_iret hx hb hr hI h dX3_await_35 hlocks
  replace h := tf_neg c3 h
  refine lv_iload_n hx hb dX3_await_16 rfl (lv_at hl 3 rfl) ?_
  exact tf_iret hx hb hr hI h dX3_await_17 hlocks

set_option maxHeartbeats 4000000 in
set_option maxRecDepth 100000 in
theorem kX_X3_match (l : Launch) (D : va_G) (ad : Nat → Nat) (cI cZ : ClassId) (σ : tf_S) (x1 x2 : Int32) (z : Int32 × tf_S) (h : fX3_match σ x1 x2 = some z) : tf_C l D (tf_wx ad cI cZ) [(cI, .int), (cZ, .boolean)] tf_nest yX3_match wsX3_match ({ frames := 1, cells := 0, slots := 0, locals := 23 }) [.ref (ad 6), .int x1, .int x2] σ z := by
  intro sz
  refine Met.ofW (cc := cX3_match) (maxL := 8) (ret := (some .int)) (by decide) rfl ?_
  intro p e s m args below meth c s₁ B hml hv
  obtain ⟨rfl, hsz, hP, hK, hN, hD0⟩ := hv
  have hx := B.exec
  have hb := B.bytes
  have hr := B.returns
  have hts := atoms_spec (ws := wsX3_match) B.pre
  have hown : s.vm.findClass RX3 = some m.cls := findClass_of_methodNamed B.named
  have hlocks := B.notSynchronized
  subst hsz
  have hI := tf_start (D := D) (tf_x_ad ad cI cZ) hP hD0
  have hl := lv_entry ([.ref (ad 6), .int x1, .int x2]) (n := 8) (Nat.le_of_ble_eq_true rfl)
  rw [lg_entry_eq]
  generalize (lg_sl ([.ref (ad 6), .int x1, .int x2]) ++ List.replicate (8 - (lg_sl ([.ref (ad 6), .int x1, .int x2])).length) Slot.unset).toArray = ls at hl ⊢
  have hl : lv_has ls 8 [(0, .ref (ad 6)), (1, .int x1), (2, .int x2)] := hl
  have hn_X3 : ∀ w ∈ u_ws RX3 TX3 7, w ∈ wsX3_match := by decide +kernel
  have hn_X4 : ∀ w ∈ u_ws RX4 TX4 10, w ∈ wsX3_match := by decide +kernel
  have hf_19 := hts (.fieldLink RX3 19 "TypeFlow$Putting" "alike" "[I") (by decide +kernel)
  have hf_22 := hts (.fieldLink RX3 22 "TypeFlow$Putting" "wanted" "[I") (by decide +kernel)
  have hf_25 := hts (.fieldLink RX3 25 "TypeFlow$Putting" "given" "[I") (by decide +kernel)
  have hf_28 := hts (.fieldLink RX3 28 "TypeFlow$Putting" "types" "LTypeFlow$Types;") (by decide +kernel)
  have hf_84 := hts (.fieldLink RX3 84 "TypeFlow$Types" "ofClass" "[I") (by decide +kernel)
  have hf_93 := hts (.fieldLink RX3 93 "TypeFlow$Types" "second" "[I") (by decide +kernel)
  have hf_97 := hts (.fieldLink RX3 97 "TypeFlow$Types" "first" "[I") (by decide +kernel)
  have j22 : ∀ n : Nat, ∀ (σ : tf_S) (y3 y4 y5 : Int32) (H : Heap) (locs : List Loc) (ls : Array Slot), fX3_match_22 x1 x2 n σ y3 y4 y5 = some z → tf_I D (tf_wx ad cI cZ) s.heap σ H locs → lv_has ls 8 [(0, .ref (ad 6)), (3, .int y3), (4, .int y4), (5, .int y5)] → W p l e (headSpec wsX3_match ({ frames := 1, cells := 0, slots := 0, locals := 23 })).room s m ([.ref (ad 6), .int x1, .int x2] : List Value).toArray below meth c H locs 0 0 (tf_Q below D (tf_wx ad cI cZ) z ([.ref (ad 6), .int x1, .int x2] : List Value).toArray s) (F0 m 22 ls []) := by
    intro n
    induction n with
    | zero =>
      intro σ y3 y4 y5 H locs ls h
      rw [fX3_match_22] at h
      cases h
    | succ n ih =>
      intro σ y3 y4 y5 H locs ls h hI hl
      rw [fX3_match_22] at h
      refine lv_iload_n hx hb dX3_match_22 rfl (lv_at hl 1 rfl) ?_
      refine lv_if_le (tgt := 190) hx hb dX3_match_23 (by decide) (fun c5 => ?_) (fun c5 => ?_)
      · replace h := tf_pos c5 h
        refine lv_iconst (v := 0) hx hb dX3_match_190 (by decide +kernel) ?_
        exact tf_iret hx hb hr hI h dX3_match_191 hlocks
      replace h := tf_neg c5 h
      refine lv_iload hx hb dX3_match_26 (lv_at hl 3 rfl) ?_
      refine lv_sipush (v := 6400) hx hb dX3_match_28 (by decide +kernel) ?_
      refine lv_icmp_ge (tgt := 190) hx hb dX3_match_31 (by decide) (fun c6 => ?_) (fun c6 => ?_)
      · replace h := tf_pos c6 h
        refine lv_iconst (v := 0) hx hb dX3_match_190 (by decide +kernel) ?_
        exact tf_iret hx hb hr hI h dX3_match_191 hlocks
      replace h := tf_neg c6 h
      obtain ⟨v7, ev7, h⟩ := tf_glet h
      refine lv_iinc (v := v7) (lv' := [(3, .int v7), (0, .ref (ad 6)), (4, .int y4), (5, .int y5)]) hx hb dX3_match_34 hl (k := 1) rfl (by rw [ev7]; rfl) (by decide) rfl (fun ls hl => ?_)
      refine lv_aload_n hx hb dX3_match_37 rfl (lv_at hl 1 rfl) ?_
      refine tf_get (C := RX3) (T := TX3) (N := 7) hx hb hts hn_X3 hown hK hI 6 (tf_xat_6 ad cI cZ _) rfl 5 (by decide) hf_22 rfl rfl dX3_match_38 ?_
      refine lv_iload_n hx hb dX3_match_41 rfl (lv_at hl 0 rfl) ?_
      obtain ⟨b8, h⟩ := tf_gin h
      refine va_iald hx hb hK hI.1 33 0 (tf_xat_33 ad cI cZ _) rfl b8 dX3_match_42 ?_
      obtain ⟨v9, ev9, h⟩ := tf_glet h
      refine tf_top ev9 ?_
      refine lv_istore (lv' := [(6, .int v9), (3, .int v7), (0, .ref (ad 6)), (4, .int y4), (5, .int y5)]) hx hb dX3_match_43 hl (by decide) rfl (fun ls hl => ?_)
      refine lv_aload_n hx hb dX3_match_45 rfl (lv_at hl 2 rfl) ?_
      refine tf_get (C := RX3) (T := TX3) (N := 7) hx hb hts hn_X3 hown hK hI 6 (tf_xat_6 ad cI cZ _) rfl 6 (by decide) hf_25 rfl rfl dX3_match_46 ?_
      refine lv_iload_n hx hb dX3_match_49 rfl (lv_at hl 1 rfl) ?_
      obtain ⟨b10, h⟩ := tf_gin h
      refine va_iald hx hb hK hI.1 34 0 (tf_xat_34 ad cI cZ _) rfl b10 dX3_match_50 ?_
      obtain ⟨v11, ev11, h⟩ := tf_glet h
      refine tf_top ev11 ?_
      refine lv_istore (lv' := [(7, .int v11), (6, .int v9), (3, .int v7), (0, .ref (ad 6)), (4, .int y4), (5, .int y5)]) hx hb dX3_match_51 hl (by decide) rfl (fun ls hl => ?_)
      refine lv_iload hx hb dX3_match_53 (lv_at hl 1 rfl) ?_
      obtain ⟨u12, q13, h⟩ := tf_gbind h
      refine tf_callSN (rest := []) ⟨hx, hb, hml, hown, hts⟩ hK hN hI (kX_X6_isVariable l D ad cI cZ _ _ _ q13) ⟨va_cnB 1 hts gX3_match_X6_isVariable_n78 rfl rfl rfl (hN (RX3, 78, yX6_isVariable, "TypeFlow") (by decide +kernel)) (hts (.initialized RX6) (by decide +kernel)) (by decide +kernel) ⟨Nat.le_of_ble_eq_true rfl, Nat.le_of_ble_eq_true rfl⟩, hts (.static yX6_isVariable) (by decide +kernel), trivial⟩ rfl hl.1 rfl (Nat.le_of_ble_eq_true rfl) dX3_match_55 (fun H locs hI => ?_)
      refine lv_if_eq (tgt := 74) hx hb dX3_match_58 (by decide) (fun c14 => ?_) (fun c14 => ?_)
      · replace h := tf_pos c14 h
        refine lv_aload_n hx hb dX3_match_74 rfl (lv_at hl 3 rfl) ?_
        refine tf_get (C := RX3) (T := TX3) (N := 7) hx hb hts hn_X3 hown hK hI 6 (tf_xat_6 ad cI cZ _) rfl 0 (by decide) hf_28 rfl rfl dX3_match_75 ?_
        refine tf_get (C := RX4) (T := TX4) (N := 10) hx hb hts hn_X4 hown hK hI 1 (tf_xat_1 ad cI cZ _) rfl 4 (by decide) hf_84 rfl rfl dX3_match_78 ?_
        refine lv_iload hx hb dX3_match_81 (lv_at hl 1 rfl) ?_
        obtain ⟨b15, h⟩ := tf_gin h
        refine va_iald hx hb hK hI.1 9 0 (tf_xat_9 ad cI cZ _) rfl b15 dX3_match_83 ?_
        refine lv_aload_n hx hb dX3_match_84 rfl (lv_at hl 3 rfl) ?_
        refine tf_get (C := RX3) (T := TX3) (N := 7) hx hb hts hn_X3 hown hK hI 6 (tf_xat_6 ad cI cZ _) rfl 0 (by decide) hf_28 rfl rfl dX3_match_85 ?_
        refine tf_get (C := RX4) (T := TX4) (N := 10) hx hb hts hn_X4 hown hK hI 1 (tf_xat_1 ad cI cZ _) rfl 4 (by decide) hf_84 rfl rfl dX3_match_88 ?_
        refine lv_iload hx hb dX3_match_91 (lv_at hl 0 rfl) ?_
        obtain ⟨b16, h⟩ := tf_gin h
        refine va_iald hx hb hK hI.1 9 0 (tf_xat_9 ad cI cZ _) rfl b16 dX3_match_93 ?_
        refine lv_icmp_eq (tgt := 103) hx hb dX3_match_94 (by decide) (fun c17 => ?_) (fun c17 => ?_)
        · replace h := tf_pos c17 h
          refine lv_aload_n hx hb dX3_match_103 rfl (lv_at hl 3 rfl) ?_
          refine tf_get (C := RX3) (T := TX3) (N := 7) hx hb hts hn_X3 hown hK hI 6 (tf_xat_6 ad cI cZ _) rfl 4 (by decide) hf_19 rfl rfl dX3_match_104 ?_
          refine lv_iload hx hb dX3_match_107 (lv_at hl 1 rfl) ?_
          obtain ⟨b18, h⟩ := tf_gin h
          refine va_iald hx hb hK hI.1 32 0 (tf_xat_32 ad cI cZ _) rfl b18 dX3_match_109 ?_
          refine lv_iload hx hb dX3_match_110 (lv_at hl 0 rfl) ?_
          refine lv_icmp_eq (tgt := 176) hx hb dX3_match_112 (by decide) (fun c19 => ?_) (fun c19 => ?_)
          · replace h := tf_pos c19 h
            refine lv_iload hx hb dX3_match_176 (lv_at hl 4 rfl) ?_
            refine lv_if_eq (tgt := 184) hx hb dX3_match_178 (by decide) (fun c20 => ?_) (fun c20 => ?_)
            · replace h := tf_pos c20 h
              obtain ⟨v21, ev21, h⟩ := tf_glet h
              refine lv_iinc (v := v21) (lv' := [(5, .int v21), (7, .int v11), (6, .int v9), (3, .int v7), (0, .ref (ad 6)), (4, .int y4)]) hx hb dX3_match_184 hl (k := 5) rfl (by rw [ev21]; rfl) (by decide) rfl (fun ls hl => ?_)
              refine lv_goto (tgt := 22) hx hb dX3_match_187 (by decide) ?_
              exact ih _ _ _ _ _ _ _ h hI (lv_sub hl [4, 3, 5, 0] rfl)
            replace h := tf_neg c20 h
            refine lv_iload hx hb dX3_match_181 (lv_at hl 4 rfl) ?_
            exact tf_iret hx hb hr hI h dX3_match_183 hlocks
          replace h := tf_neg c19 h
          refine lv_aload_n hx hb dX3_match_115 rfl (lv_at hl 3 rfl) ?_
          refine tf_get (C := RX3) (T := TX3) (N := 7) hx hb hts hn_X3 hown hK hI 6 (tf_xat_6 ad cI cZ _) rfl 4 (by decide) hf_19 rfl rfl dX3_match_116 ?_
          refine lv_iload hx hb dX3_match_119 (lv_at hl 1 rfl) ?_
          refine lv_iload hx hb dX3_match_121 (lv_at hl 0 rfl) ?_
          obtain ⟨b22, h⟩ := tf_gin h
          obtain ⟨s23, es23, h⟩ := tf_glet h
          refine tf_iast hx hb hK hI 32 0 (tf_xat_32 ad cI cZ _) (tf_xset_32 ad cI cZ _) rfl b22 es23 dX3_match_123 (fun H locs hI => ?_)
          refine lv_aload_n hx hb dX3_match_124 rfl (lv_at hl 3 rfl) ?_
          refine lv_aload_n hx hb dX3_match_125 rfl (lv_at hl 3 rfl) ?_
          refine tf_get (C := RX3) (T := TX3) (N := 7) hx hb hts hn_X3 hown hK hI 6 (tf_xat_6 ad cI cZ _) rfl 0 (by decide) hf_28 rfl rfl dX3_match_126 ?_
          refine tf_get (C := RX4) (T := TX4) (N := 10) hx hb hts hn_X4 hown hK hI 1 (tf_xat_1 ad cI cZ _) rfl 6 (by decide) hf_93 rfl rfl dX3_match_129 ?_
          refine lv_iload hx hb dX3_match_132 (lv_at hl 1 rfl) ?_
          obtain ⟨b24, h⟩ := tf_gin h
          refine va_iald hx hb hK hI.1 11 0 (tf_xat_11 ad cI cZ _) rfl b24 dX3_match_134 ?_
          refine lv_aload_n hx hb dX3_match_135 rfl (lv_at hl 3 rfl) ?_
          refine tf_get (C := RX3) (T := TX3) (N := 7) hx hb hts hn_X3 hown hK hI 6 (tf_xat_6 ad cI cZ _) rfl 0 (by decide) hf_28 rfl rfl dX3_match_136 ?_
          refine tf_get (C := RX4) (T := TX4) (N := 10) hx hb hts hn_X4 hown hK hI 1 (tf_xat_1 ad cI cZ _) rfl 6 (by decide) hf_93 rfl rfl dX3_match_139 ?_
          refine lv_iload hx hb dX3_match_142 (lv_at hl 0 rfl) ?_
          obtain ⟨b25, h⟩ := tf_gin h
          refine va_iald hx hb hK hI.1 11 0 (tf_xat_11 ad cI cZ _) rfl b25 dX3_match_144 ?_
          refine lv_iload_n hx hb dX3_match_145 rfl (lv_at hl 2 rfl) ?_
          obtain ⟨u26, q27, h⟩ := tf_gbind h
          refine tf_callV (rest := []) ⟨hx, hb, hml, hown, hts⟩ hK hN hI (kX_X3_await l D ad cI cZ _ _ _ _ _ q27) (cwV 3 hts gX3_match_X3_await rfl rfl rfl (by decide +kernel) ⟨Nat.le_of_ble_eq_true rfl, Nat.le_of_ble_eq_true rfl⟩) 6 3 (tf_xat_6 ad cI cZ _) rfl rfl hl.1 rfl (Nat.le_of_ble_eq_true rfl) dX3_match_146 (fun H locs hI => ?_)
          obtain ⟨v28, ev28, h⟩ := tf_glet h
          refine tf_top ev28 ?_
          refine lv_istore_n (lv' := [(3, .int v28), (7, .int v11), (6, .int v9), (0, .ref (ad 6)), (4, .int y4), (5, .int y5)]) hx hb dX3_match_149 rfl hl (by decide) rfl (fun ls hl => ?_)
          refine lv_aload_n hx hb dX3_match_150 rfl (lv_at hl 3 rfl) ?_
          refine lv_aload_n hx hb dX3_match_151 rfl (lv_at hl 3 rfl) ?_
          refine tf_get (C := RX3) (T := TX3) (N := 7) hx hb hts hn_X3 hown hK hI 6 (tf_xat_6 ad cI cZ _) rfl 0 (by decide) hf_28 rfl rfl dX3_match_152 ?_
          refine tf_get (C := RX4) (T := TX4) (N := 10) hx hb hts hn_X4 hown hK hI 1 (tf_xat_1 ad cI cZ _) rfl 5 (by decide) hf_97 rfl rfl dX3_match_155 ?_
          refine lv_iload hx hb dX3_match_158 (lv_at hl 2 rfl) ?_
          obtain ⟨b29, h⟩ := tf_gin h
          refine va_iald hx hb hK hI.1 10 0 (tf_xat_10 ad cI cZ _) rfl b29 dX3_match_160 ?_
          refine lv_aload_n hx hb dX3_match_161 rfl (lv_at hl 3 rfl) ?_
          refine tf_get (C := RX3) (T := TX3) (N := 7) hx hb hts hn_X3 hown hK hI 6 (tf_xat_6 ad cI cZ _) rfl 0 (by decide) hf_28 rfl rfl dX3_match_162 ?_
          refine tf_get (C := RX4) (T := TX4) (N := 10) hx hb hts hn_X4 hown hK hI 1 (tf_xat_1 ad cI cZ _) rfl 5 (by decide) hf_97 rfl rfl dX3_match_165 ?_
          refine lv_iload hx hb dX3_match_168 (lv_at hl 1 rfl) ?_
          obtain ⟨b30, h⟩ := tf_gin h
          refine va_iald hx hb hK hI.1 10 0 (tf_xat_10 ad cI cZ _) rfl b30 dX3_match_170 ?_
          refine lv_iload_n hx hb dX3_match_171 rfl (lv_at hl 0 rfl) ?_
          obtain ⟨u31, q32, h⟩ := tf_gbind h
          refine tf_callV (rest := []) ⟨hx, hb, hml, hown, hts⟩ hK hN hI (kX_X3_await l D ad cI cZ _ _ _ _ _ q32) (cwV 3 hts gX3_match_X3_await rfl rfl rfl (by decide +kernel) ⟨Nat.le_of_ble_eq_true rfl, Nat.le_of_ble_eq_true rfl⟩) 6 3 (tf_xat_6 ad cI cZ _) rfl rfl hl.1 rfl (Nat.le_of_ble_eq_true rfl) dX3_match_172 (fun H locs hI => ?_)
          obtain ⟨v33, ev33, h⟩ := tf_glet h
          refine tf_top ev33 ?_
          refine lv_istore_n (lv' := [(3, .int v33), (7, .int v11), (6, .int v9), (0, .ref (ad 6)), (4, .int y4), (5, .int y5)]) hx hb dX3_match_175 rfl hl (by decide) rfl (fun ls hl => ?_)
          refine lv_iload hx hb dX3_match_176 (lv_at hl 4 rfl) ?_
          refine lv_if_eq (tgt := 184) hx hb dX3_match_178 (by decide) (fun c34 => ?_) (fun c34 => ?_)
          · replace h := tf_pos c34 h
            obtain ⟨v35, ev35, h⟩ := tf_glet h
            refine lv_iinc (v := v35) (lv' := [(5, .int v35), (3, .int v33), (7, .int v11), (6, .int v9), (0, .ref (ad 6)), (4, .int y4)]) hx hb dX3_match_184 hl (k := 5) rfl (by rw [ev35]; rfl) (by decide) rfl (fun ls hl => ?_)
            refine lv_goto (tgt := 22) hx hb dX3_match_187 (by decide) ?_
            exact ih _ _ _ _ _ _ _ h hI (lv_sub hl [4, 1, 5, 0] rfl)
          replace h := tf_neg c34 h
          refine lv_iload hx hb dX3_match_181 (lv_at hl 4 rfl) ?_
          exact tf_iret hx hb hr hI h dX3_match_183 hlocks
        replace h := tf_neg c17 h
        refine lv_iconst (v := 1) hx hb dX3_match_97 (by decide +kernel) ?_
        refine lv_istore (lv' := [(4, .int (1 : Int32)), (7, .int v11), (6, .int v9), (3, .int v7), (0, .ref (ad 6)), (5, .int y5)]) hx hb dX3_match_98 hl (by decide) rfl (fun ls hl => ?_)
        refine lv_goto (tgt := 176) hx hb dX3_match_100 (by decide) ?_
        refine lv_iload hx hb dX3_match_176 (lv_at hl 0 rfl) ?_
        refine lv_if_eq (tgt := 184) hx hb dX3_match_178 (by decide) (fun c36 => ?_) (fun c36 => ?_)
        · replace h := tf_pos c36 h
          obtain ⟨v37, ev37, h⟩ := tf_glet h
          refine lv_iinc (v := v37) (lv' := [(5, .int v37), (4, .int (1 : Int32)), (7, .int v11), (6, .int v9), (3, .int v7), (0, .ref (ad 6))]) hx hb dX3_match_184 hl (k := 5) rfl (by rw [ev37]; rfl) (by decide) rfl (fun ls hl => ?_)
          refine lv_goto (tgt := 22) hx hb dX3_match_187 (by decide) ?_
          exact ih _ _ _ _ _ _ _ h hI (lv_sub hl [5, 4, 1, 0] rfl)
        replace h := tf_neg c36 h
        refine lv_iload hx hb dX3_match_181 (lv_at hl 0 rfl) ?_
        exact tf_iret hx hb hr hI h dX3_match_183 hlocks
      replace h := tf_neg c14 h
      refine lv_aload_n hx hb dX3_match_61 rfl (lv_at hl 3 rfl) ?_
      refine lv_iload hx hb dX3_match_62 (lv_at hl 1 rfl) ?_
      refine lv_iload hx hb dX3_match_64 (lv_at hl 0 rfl) ?_
      obtain ⟨u38, q39, h⟩ := tf_gbind h
      refine tf_callV (rest := []) ⟨hx, hb, hml, hown, hts⟩ hK hN hI (kX_X3_bindTo l D ad cI cZ _ _ _ _ q39) (cwV 2 hts gX3_match_X3_bindTo rfl rfl rfl (by decide +kernel) ⟨Nat.le_of_ble_eq_true rfl, Nat.le_of_ble_eq_true rfl⟩) 6 3 (tf_xat_6 ad cI cZ _) rfl rfl hl.1 rfl (Nat.le_of_ble_eq_true rfl) dX3_match_66 (fun H locs hI => ?_)
      obtain ⟨v40, ev40, h⟩ := tf_glet h
      refine tf_top ev40 ?_
      refine lv_istore (lv' := [(4, .int v40), (7, .int v11), (6, .int v9), (3, .int v7), (0, .ref (ad 6)), (5, .int y5)]) hx hb dX3_match_69 hl (by decide) rfl (fun ls hl => ?_)
      refine lv_goto (tgt := 176) hx hb dX3_match_71 (by decide) ?_
      refine lv_iload hx hb dX3_match_176 (lv_at hl 0 rfl) ?_
      refine lv_if_eq (tgt := 184) hx hb dX3_match_178 (by decide) (fun c41 => ?_) (fun c41 => ?_)
      · replace h := tf_pos c41 h
        obtain ⟨v42, ev42, h⟩ := tf_glet h
        refine lv_iinc (v := v42) (lv' := [(5, .int v42), (4, .int v40), (7, .int v11), (6, .int v9), (3, .int v7), (0, .ref (ad 6))]) hx hb dX3_match_184 hl (k := 5) rfl (by rw [ev42]; rfl) (by decide) rfl (fun ls hl => ?_)
        refine lv_goto (tgt := 22) hx hb dX3_match_187 (by decide) ?_
        exact ih _ _ _ _ _ _ _ h hI (lv_sub hl [5, 4, 1, 0] rfl)
      replace h := tf_neg c41 h
      refine lv_iload hx hb dX3_match_181 (lv_at hl 0 rfl) ?_
      exact tf_iret hx hb hr hI h dX3_match_183 hlocks
  unfold fX3_match at h
  refine lv_aload_n hx hb dX3_match_0 rfl (lv_at hl 0 rfl) ?_
  refine tf_get (C := RX3) (T := TX3) (N := 7) hx hb hts hn_X3 hown hK hI 6 (tf_xat_6 ad cI cZ _) rfl 5 (by decide) hf_22 rfl rfl dX3_match_1 ?_
  refine lv_iconst (v := 0) hx hb dX3_match_4 (by decide +kernel) ?_
  refine lv_iload_n hx hb dX3_match_5 rfl (lv_at hl 1 rfl) ?_
  obtain ⟨b1, h⟩ := tf_gin h
  obtain ⟨s2, es2, h⟩ := tf_glet h
  refine tf_iast hx hb hK hI 33 0 (tf_xat_33 ad cI cZ _) (tf_xset_33 ad cI cZ _) rfl b1 es2 dX3_match_6 (fun H locs hI => ?_)
  refine lv_aload_n hx hb dX3_match_7 rfl (lv_at hl 0 rfl) ?_
  refine tf_get (C := RX3) (T := TX3) (N := 7) hx hb hts hn_X3 hown hK hI 6 (tf_xat_6 ad cI cZ _) rfl 6 (by decide) hf_25 rfl rfl dX3_match_8 ?_
  refine lv_iconst (v := 0) hx hb dX3_match_11 (by decide +kernel) ?_
  refine lv_iload_n hx hb dX3_match_12 rfl (lv_at hl 2 rfl) ?_
  obtain ⟨b3, h⟩ := tf_gin h
  obtain ⟨s4, es4, h⟩ := tf_glet h
  refine tf_iast hx hb hK hI 34 0 (tf_xat_34 ad cI cZ _) (tf_xset_34 ad cI cZ _) rfl b3 es4 dX3_match_13 (fun H locs hI => ?_)
  refine lv_iconst (v := 1) hx hb dX3_match_14 (by decide +kernel) ?_
  refine lv_istore_n (lv' := [(3, .int (1 : Int32)), (0, .ref (ad 6)), (1, .int x1), (2, .int x2)]) hx hb dX3_match_15 rfl hl (by decide) rfl (fun ls hl => ?_)
  refine lv_iconst (v := 0) hx hb dX3_match_16 (by decide +kernel) ?_
  refine lv_istore (lv' := [(4, .int (0 : Int32)), (3, .int (1 : Int32)), (0, .ref (ad 6)), (1, .int x1), (2, .int x2)]) hx hb dX3_match_17 hl (by decide) rfl (fun ls hl => ?_)
  refine lv_iconst (v := 0) hx hb dX3_match_19 (by decide +kernel) ?_
  refine lv_istore (lv' := [(5, .int (0 : Int32)), (4, .int (0 : Int32)), (3, .int (1 : Int32)), (0, .ref (ad 6)), (1, .int x1), (2, .int x2)]) hx hb dX3_match_20 hl (by decide) rfl (fun ls hl => ?_)
  exact j22  _ _ _ _ _ _ _ _ h hI (lv_sub hl [3, 2, 1, 0] rfl)

set_option maxHeartbeats 4000000 in
set_option maxRecDepth 100000 in
theorem kX_X3_take (l : Launch) (D : va_G) (ad : Nat → Nat) (cI cZ : ClassId) (σ : tf_S) (x1 x2 : Int32) (z : Int32 × tf_S) (h : fX3_take σ x1 x2 = some z) : tf_C l D (tf_wx ad cI cZ) [(cI, .int), (cZ, .boolean)] tf_nest yX3_take wsX3_take ({ frames := 3, cells := 0, slots := 0, locals := 76 }) [.ref (ad 6), .int x1, .int x2] σ z := by
  intro sz
  refine Met.ofW (cc := cX3_take) (maxL := 4) (ret := (some .int)) (by decide) rfl ?_
  intro p e s m args below meth c s₁ B hml hv
  obtain ⟨rfl, hsz, hP, hK, hN, hD0⟩ := hv
  have hx := B.exec
  have hb := B.bytes
  have hr := B.returns
  have hts := atoms_spec (ws := wsX3_take) B.pre
  have hown : s.vm.findClass RX3 = some m.cls := findClass_of_methodNamed B.named
  have hlocks := B.notSynchronized
  subst hsz
  have hI := tf_start (D := D) (tf_x_ad ad cI cZ) hP hD0
  have hl := lv_entry ([.ref (ad 6), .int x1, .int x2]) (n := 4) (Nat.le_of_ble_eq_true rfl)
  rw [lg_entry_eq]
  generalize (lg_sl ([.ref (ad 6), .int x1, .int x2]) ++ List.replicate (4 - (lg_sl ([.ref (ad 6), .int x1, .int x2])).length) Slot.unset).toArray = ls at hl ⊢
  have hl : lv_has ls 4 [(0, .ref (ad 6)), (1, .int x1), (2, .int x2)] := hl
  have hn_X3 : ∀ w ∈ u_ws RX3 TX3 7, w ∈ wsX3_take := by decide +kernel
  have hn_X4 : ∀ w ∈ u_ws RX4 TX4 10, w ∈ wsX3_take := by decide +kernel
  have hf_28 := hts (.fieldLink RX3 28 "TypeFlow$Putting" "types" "LTypeFlow$Types;") (by decide +kernel)
  have hf_84 := hts (.fieldLink RX3 84 "TypeFlow$Types" "ofClass" "[I") (by decide +kernel)
  unfold fX3_take at h
  refine lv_iload_n hx hb dX3_take_0 rfl (lv_at hl 1 rfl) ?_
  obtain ⟨u1, q2, h⟩ := tf_gbind h
  refine tf_callSN (rest := []) ⟨hx, hb, hml, hown, hts⟩ hK hN hI (kX_X6_isPrimitive l D ad cI cZ _ _ _ q2) ⟨va_cnB 1 hts gX3_take_X6_isPrimitive_n71 rfl rfl rfl (hN (RX3, 71, yX6_isPrimitive, "TypeFlow") (by decide +kernel)) (hts (.initialized RX6) (by decide +kernel)) (by decide +kernel) ⟨Nat.le_of_ble_eq_true rfl, Nat.le_of_ble_eq_true rfl⟩, hts (.static yX6_isPrimitive) (by decide +kernel), trivial⟩ rfl hl.1 rfl (Nat.le_of_ble_eq_true rfl) dX3_take_1 (fun H locs hI => ?_)
  refine lv_if_eq (tgt := 26) hx hb dX3_take_4 (by decide) (fun c3 => ?_) (fun c3 => ?_)
  · replace h := tf_pos c3 h
    refine lv_iload_n hx hb dX3_take_26 rfl (lv_at hl 2 rfl) ?_
    obtain ⟨u4, q5, h⟩ := tf_gbind h
    refine tf_callSN (rest := []) ⟨hx, hb, hml, hown, hts⟩ hK hN hI (kX_X6_isPrimitive l D ad cI cZ _ _ _ q5) ⟨va_cnB 1 hts gX3_take_X6_isPrimitive_n71 rfl rfl rfl (hN (RX3, 71, yX6_isPrimitive, "TypeFlow") (by decide +kernel)) (hts (.initialized RX6) (by decide +kernel)) (by decide +kernel) ⟨Nat.le_of_ble_eq_true rfl, Nat.le_of_ble_eq_true rfl⟩, hts (.static yX6_isPrimitive) (by decide +kernel), trivial⟩ rfl hl.1 rfl (Nat.le_of_ble_eq_true rfl) dX3_take_27 (fun H locs hI => ?_)
    refine lv_if_eq (tgt := 35) hx hb dX3_take_30 (by decide) (fun c6 => ?_) (fun c6 => ?_)
    · replace h := tf_pos c6 h
      refine lv_iload_n hx hb dX3_take_35 rfl (lv_at hl 1 rfl) ?_
      obtain ⟨u7, q8, h⟩ := tf_gbind h
      refine tf_callSN (rest := []) ⟨hx, hb, hml, hown, hts⟩ hK hN hI (kX_X6_isVariable l D ad cI cZ _ _ _ q8) ⟨va_cnB 1 hts gX3_take_X6_isVariable_n78 rfl rfl rfl (hN (RX3, 78, yX6_isVariable, "TypeFlow") (by decide +kernel)) (hts (.initialized RX6) (by decide +kernel)) (by decide +kernel) ⟨Nat.le_of_ble_eq_true rfl, Nat.le_of_ble_eq_true rfl⟩, hts (.static yX6_isVariable) (by decide +kernel), trivial⟩ rfl hl.1 rfl (Nat.le_of_ble_eq_true rfl) dX3_take_36 (fun H locs hI => ?_)
      refine lv_if_eq (tgt := 49) hx hb dX3_take_39 (by decide) (fun c9 => ?_) (fun c9 => ?_)
      · replace h := tf_pos c9 h
        refine lv_aload_n hx hb dX3_take_49 rfl (lv_at hl 0 rfl) ?_
        refine tf_get (C := RX3) (T := TX3) (N := 7) hx hb hts hn_X3 hown hK hI 6 (tf_xat_6 ad cI cZ _) rfl 0 (by decide) hf_28 rfl rfl dX3_take_50 ?_
        refine lv_iload_n hx hb dX3_take_53 rfl (lv_at hl 2 rfl) ?_
        refine lv_aload_n hx hb dX3_take_54 rfl (lv_at hl 0 rfl) ?_
        refine tf_get (C := RX3) (T := TX3) (N := 7) hx hb hts hn_X3 hown hK hI 6 (tf_xat_6 ad cI cZ _) rfl 0 (by decide) hf_28 rfl rfl dX3_take_55 ?_
        refine tf_get (C := RX4) (T := TX4) (N := 10) hx hb hts hn_X4 hown hK hI 1 (tf_xat_1 ad cI cZ _) rfl 4 (by decide) hf_84 rfl rfl dX3_take_58 ?_
        refine lv_iload_n hx hb dX3_take_61 rfl (lv_at hl 1 rfl) ?_
        obtain ⟨b10, h⟩ := tf_gin h
        refine va_iald hx hb hK hI.1 9 0 (tf_xat_9 ad cI cZ _) rfl b10 dX3_take_62 ?_
        obtain ⟨u11, q12, h⟩ := tf_gbind h
        refine tf_callV (rest := []) ⟨hx, hb, hml, hown, hts⟩ hK hN hI (kX_X4_seenAs l D ad cI cZ _ _ _ _ q12) (cwV 2 hts gX3_take_X4_seenAs rfl rfl rfl (by decide +kernel) ⟨Nat.le_of_ble_eq_true rfl, Nat.le_of_ble_eq_true rfl⟩) 1 4 (tf_xat_1 ad cI cZ _) rfl rfl hl.1 rfl (Nat.le_of_ble_eq_true rfl) dX3_take_63 (fun H locs hI => ?_)
        obtain ⟨v13, ev13, h⟩ := tf_glet h
        refine tf_top ev13 ?_
        refine lv_istore_n (lv' := [(3, .int v13), (0, .ref (ad 6)), (1, .int x1), (2, .int x2)]) hx hb dX3_take_66 rfl hl (by decide) rfl (fun ls hl => ?_)
        refine lv_iload_n hx hb dX3_take_67 rfl (lv_at hl 0 rfl) ?_
        refine lv_bipush (v := -3) hx hb dX3_take_68 (by decide +kernel) ?_
        refine lv_icmp_ne (tgt := 76) hx hb dX3_take_70 (by decide) (fun c14 => ?_) (fun c14 => ?_)
        · replace h := tf_neg c14 h
          refine lv_iload_n hx hb dX3_take_76 rfl (lv_at hl 0 rfl) ?_
          refine lv_iconst (v := -1) hx hb dX3_take_77 (by decide +kernel) ?_
          refine lv_icmp_ne (tgt := 85) hx hb dX3_take_78 (by decide) (fun c15 => ?_) (fun c15 => ?_)
          · replace h := tf_neg c15 h
            refine lv_aload_n hx hb dX3_take_85 rfl (lv_at hl 1 rfl) ?_
            refine lv_iload_n hx hb dX3_take_86 rfl (lv_at hl 2 rfl) ?_
            refine lv_iload_n hx hb dX3_take_87 rfl (lv_at hl 0 rfl) ?_
            obtain ⟨u16, q17, h⟩ := tf_gbind h
            refine tf_callV (rest := []) ⟨hx, hb, hml, hown, hts⟩ hK hN hI (kX_X3_match l D ad cI cZ _ _ _ _ q17) (cwV 2 hts gX3_take_X3_match rfl rfl rfl (by decide +kernel) ⟨Nat.le_of_ble_eq_true rfl, Nat.le_of_ble_eq_true rfl⟩) 6 3 (tf_xat_6 ad cI cZ _) rfl rfl hl.1 rfl (Nat.le_of_ble_eq_true rfl) dX3_take_88 (fun H locs hI => ?_)
            exact tf_iret hx hb hr hI h dX3_take_91 hlocks
          replace h := tf_pos c15 h
          refine lv_iconst (v := 1) hx hb dX3_take_81 (by decide +kernel) ?_
          refine lv_goto (tgt := 91) hx hb dX3_take_82 (by decide) ?_
          exact tf_iret hx hb hr hI h dX3_take_91 hlocks
        replace h := tf_pos c14 h
        refine lv_bipush (v := 8) hx hb dX3_take_73 (by decide +kernel) ?_
        exact tf_iret hx hb hr hI h dX3_take_75 hlocks
      replace h := tf_neg c9 h
      refine lv_aload_n hx hb dX3_take_42 rfl (lv_at hl 0 rfl) ?_
      refine lv_iload_n hx hb dX3_take_43 rfl (lv_at hl 1 rfl) ?_
      refine lv_iload_n hx hb dX3_take_44 rfl (lv_at hl 2 rfl) ?_
      obtain ⟨u18, q19, h⟩ := tf_gbind h
      refine tf_callV (rest := []) ⟨hx, hb, hml, hown, hts⟩ hK hN hI (kX_X3_bindTo l D ad cI cZ _ _ _ _ q19) (cwV 2 hts gX3_take_X3_bindTo rfl rfl rfl (by decide +kernel) ⟨Nat.le_of_ble_eq_true rfl, Nat.le_of_ble_eq_true rfl⟩) 6 3 (tf_xat_6 ad cI cZ _) rfl rfl hl.1 rfl (Nat.le_of_ble_eq_true rfl) dX3_take_45 (fun H locs hI => ?_)
      exact tf_iret hx hb hr hI h dX3_take_48 hlocks
    replace h := tf_neg c6 h
    refine lv_iconst (v := 1) hx hb dX3_take_33 (by decide +kernel) ?_
    exact tf_iret hx hb hr hI h dX3_take_34 hlocks
  replace h := tf_neg c3 h
  refine lv_iload_n hx hb dX3_take_7 rfl (lv_at hl 2 rfl) ?_
  refine lv_iload_n hx hb dX3_take_8 rfl (lv_at hl 1 rfl) ?_
  refine lv_icmp_eq (tgt := 20) hx hb dX3_take_9 (by decide) (fun c20 => ?_) (fun c20 => ?_)
  · replace h := tf_pos c20 h
    refine lv_iconst (v := 0) hx hb dX3_take_20 (by decide +kernel) ?_
    refine lv_goto (tgt := 25) hx hb dX3_take_21 (by decide) ?_
    exact tf_iret hx hb hr hI h dX3_take_25 hlocks
  replace h := tf_neg c20 h
  refine lv_iload_n hx hb dX3_take_12 rfl (lv_at hl 2 rfl) ?_
  refine lv_iload_n hx hb dX3_take_13 rfl (lv_at hl 1 rfl) ?_
  obtain ⟨u21, q22, h⟩ := tf_gbind h
  refine tf_callSN (rest := []) ⟨hx, hb, hml, hown, hts⟩ hK hN hI (kX_X6_widens l D ad cI cZ _ _ _ _ q22) ⟨va_cnB 2 hts gX3_take_X6_widens_n74 rfl rfl rfl (hN (RX3, 74, yX6_widens, "TypeFlow") (by decide +kernel)) (hts (.initialized RX6) (by decide +kernel)) (by decide +kernel) ⟨Nat.le_of_ble_eq_true rfl, Nat.le_of_ble_eq_true rfl⟩, hts (.static yX6_widens) (by decide +kernel), trivial⟩ rfl hl.1 rfl (Nat.le_of_ble_eq_true rfl) dX3_take_14 (fun H locs hI => ?_)
  refine lv_if_eq (tgt := 24) hx hb dX3_take_17 (by decide) (fun c23 => ?_) (fun c23 => ?_)
  · replace h := tf_pos c23 h
    refine lv_iconst (v := 1) hx hb dX3_take_24 (by decide +kernel) ?_
    exact tf_iret hx hb hr hI h dX3_take_25 hlocks
  replace h := tf_neg c23 h
  refine lv_iconst (v := 0) hx hb dX3_take_20 (by decide +kernel) ?_
  refine lv_goto (tgt := 25) hx hb dX3_take_21 (by decide) ?_
  exact tf_iret hx hb hr hI h dX3_take_25 hlocks

set_option maxHeartbeats 4000000 in
set_option maxRecDepth 100000 in
theorem kX_X4_goesFor (l : Launch) (D : va_G) (ad : Nat → Nat) (cI cZ : ClassId) (σ : tf_S) (x1 x2 : Int32) (z : Int32 × tf_S) (h : fX4_goesFor σ x1 x2 = some z) : tf_C l D (tf_wx ad cI cZ) [(cI, .int), (cZ, .boolean)] tf_nest yX4_goesFor wsX4_goesFor ({ frames := 3, cells := 0, slots := 0, locals := 76 }) [.ref (ad 1), .int x1, .int x2] σ z := by
  intro sz
  refine Met.ofW (cc := cX4_goesFor) (maxL := 4) (ret := (some .int)) (by decide) rfl ?_
  intro p e s m args below meth c s₁ B hml hv
  obtain ⟨rfl, hsz, hP, hK, hN, hD0⟩ := hv
  have hx := B.exec
  have hb := B.bytes
  have hr := B.returns
  have hts := atoms_spec (ws := wsX4_goesFor) B.pre
  have hown : s.vm.findClass RX4 = some m.cls := findClass_of_methodNamed B.named
  have hlocks := B.notSynchronized
  subst hsz
  have hI := tf_start (D := D) (tf_x_ad ad cI cZ) hP hD0
  have hl := lv_entry ([.ref (ad 1), .int x1, .int x2]) (n := 4) (Nat.le_of_ble_eq_true rfl)
  rw [lg_entry_eq]
  generalize (lg_sl ([.ref (ad 1), .int x1, .int x2]) ++ List.replicate (4 - (lg_sl ([.ref (ad 1), .int x1, .int x2])).length) Slot.unset).toArray = ls at hl ⊢
  have hl : lv_has ls 4 [(0, .ref (ad 1)), (1, .int x1), (2, .int x2)] := hl
  have hn_X4 : ∀ w ∈ u_ws RX4 TX4 10, w ∈ wsX4_goesFor := by decide +kernel
  have hf_25 := hts (.fieldLink RX4 25 "TypeFlow$Types" "ofClass" "[I") (by decide +kernel)
  unfold fX4_goesFor at h
  refine lv_iload_n hx hb dX4_goesFor_0 rfl (lv_at hl 1 rfl) ?_
  refine lv_iload_n hx hb dX4_goesFor_1 rfl (lv_at hl 2 rfl) ?_
  refine lv_icmp_eq (tgt := 13) hx hb dX4_goesFor_2 (by decide) (fun c1 => ?_) (fun c1 => ?_)
  · replace h := tf_pos c1 h
    refine lv_iconst (v := 1) hx hb dX4_goesFor_13 (by decide +kernel) ?_
    exact tf_iret hx hb hr hI h dX4_goesFor_14 hlocks
  replace h := tf_neg c1 h
  refine lv_iload_n hx hb dX4_goesFor_5 rfl (lv_at hl 1 rfl) ?_
  refine lv_iload_n hx hb dX4_goesFor_6 rfl (lv_at hl 2 rfl) ?_
  obtain ⟨u2, q3, h⟩ := tf_gbind h
  refine tf_callSN (rest := []) ⟨hx, hb, hml, hown, hts⟩ hK hN hI (kX_X6_widens l D ad cI cZ _ _ _ _ q3) ⟨va_cnB 2 hts gX4_goesFor_X6_widens_n78 rfl rfl rfl (hN (RX4, 78, yX6_widens, "TypeFlow") (by decide +kernel)) (hts (.initialized RX6) (by decide +kernel)) (by decide +kernel) ⟨Nat.le_of_ble_eq_true rfl, Nat.le_of_ble_eq_true rfl⟩, hts (.static yX6_widens) (by decide +kernel), trivial⟩ rfl hl.1 rfl (Nat.le_of_ble_eq_true rfl) dX4_goesFor_7 (fun H locs hI => ?_)
  refine lv_if_eq (tgt := 15) hx hb dX4_goesFor_10 (by decide) (fun c4 => ?_) (fun c4 => ?_)
  · replace h := tf_pos c4 h
    refine lv_iload_n hx hb dX4_goesFor_15 rfl (lv_at hl 1 rfl) ?_
    obtain ⟨u5, q6, h⟩ := tf_gbind h
    refine tf_callSN (rest := []) ⟨hx, hb, hml, hown, hts⟩ hK hN hI (kX_X6_isPrimitive l D ad cI cZ _ _ _ q6) ⟨va_cnB 1 hts gX4_goesFor_X6_isPrimitive_n81 rfl rfl rfl (hN (RX4, 81, yX6_isPrimitive, "TypeFlow") (by decide +kernel)) (hts (.initialized RX6) (by decide +kernel)) (by decide +kernel) ⟨Nat.le_of_ble_eq_true rfl, Nat.le_of_ble_eq_true rfl⟩, hts (.static yX6_isPrimitive) (by decide +kernel), trivial⟩ rfl hl.1 rfl (Nat.le_of_ble_eq_true rfl) dX4_goesFor_16 (fun H locs hI => ?_)
    refine lv_if_ne (tgt := 29) hx hb dX4_goesFor_19 (by decide) (fun c7 => ?_) (fun c7 => ?_)
    · replace h := tf_neg c7 h
      refine lv_iconst (v := 0) hx hb dX4_goesFor_29 (by decide +kernel) ?_
      exact tf_iret hx hb hr hI h dX4_goesFor_30 hlocks
    replace h := tf_pos c7 h
    refine lv_iload_n hx hb dX4_goesFor_22 rfl (lv_at hl 2 rfl) ?_
    obtain ⟨u8, q9, h⟩ := tf_gbind h
    refine tf_callSN (rest := []) ⟨hx, hb, hml, hown, hts⟩ hK hN hI (kX_X6_isPrimitive l D ad cI cZ _ _ _ q9) ⟨va_cnB 1 hts gX4_goesFor_X6_isPrimitive_n81 rfl rfl rfl (hN (RX4, 81, yX6_isPrimitive, "TypeFlow") (by decide +kernel)) (hts (.initialized RX6) (by decide +kernel)) (by decide +kernel) ⟨Nat.le_of_ble_eq_true rfl, Nat.le_of_ble_eq_true rfl⟩, hts (.static yX6_isPrimitive) (by decide +kernel), trivial⟩ rfl hl.1 rfl (Nat.le_of_ble_eq_true rfl) dX4_goesFor_23 (fun H locs hI => ?_)
    refine lv_if_eq (tgt := 31) hx hb dX4_goesFor_26 (by decide) (fun c10 => ?_) (fun c10 => ?_)
    · replace h := tf_pos c10 h
      refine lv_aload_n hx hb dX4_goesFor_31 rfl (lv_at hl 0 rfl) ?_
      refine lv_iload_n hx hb dX4_goesFor_32 rfl (lv_at hl 1 rfl) ?_
      refine lv_aload_n hx hb dX4_goesFor_33 rfl (lv_at hl 0 rfl) ?_
      refine tf_get (C := RX4) (T := TX4) (N := 10) hx hb hts hn_X4 hown hK hI 1 (tf_xat_1 ad cI cZ _) rfl 4 (by decide) hf_25 rfl rfl dX4_goesFor_34 ?_
      refine lv_iload_n hx hb dX4_goesFor_37 rfl (lv_at hl 2 rfl) ?_
      obtain ⟨b11, h⟩ := tf_gin h
      refine va_iald hx hb hK hI.1 9 0 (tf_xat_9 ad cI cZ _) rfl b11 dX4_goesFor_38 ?_
      obtain ⟨u12, q13, h⟩ := tf_gbind h
      refine tf_callV (rest := []) ⟨hx, hb, hml, hown, hts⟩ hK hN hI (kX_X4_seenAs l D ad cI cZ _ _ _ _ q13) (cwV 2 hts gX4_goesFor_X4_seenAs rfl rfl rfl (by decide +kernel) ⟨Nat.le_of_ble_eq_true rfl, Nat.le_of_ble_eq_true rfl⟩) 1 4 (tf_xat_1 ad cI cZ _) rfl rfl hl.1 rfl (Nat.le_of_ble_eq_true rfl) dX4_goesFor_39 (fun H locs hI => ?_)
      obtain ⟨v14, ev14, h⟩ := tf_glet h
      refine tf_top ev14 ?_
      refine lv_istore_n (lv' := [(3, .int v14), (0, .ref (ad 1)), (1, .int x1), (2, .int x2)]) hx hb dX4_goesFor_42 rfl hl (by decide) rfl (fun ls hl => ?_)
      refine lv_iload_n hx hb dX4_goesFor_43 rfl (lv_at hl 0 rfl) ?_
      refine lv_bipush (v := -3) hx hb dX4_goesFor_44 (by decide +kernel) ?_
      refine lv_icmp_ne (tgt := 52) hx hb dX4_goesFor_46 (by decide) (fun c15 => ?_) (fun c15 => ?_)
      · replace h := tf_neg c15 h
        refine lv_iload_n hx hb dX4_goesFor_52 rfl (lv_at hl 0 rfl) ?_
        refine lv_iload_n hx hb dX4_goesFor_53 rfl (lv_at hl 3 rfl) ?_
        refine lv_icmp_ne (tgt := 61) hx hb dX4_goesFor_54 (by decide) (fun c16 => ?_) (fun c16 => ?_)
        · replace h := tf_neg c16 h
          refine lv_iconst (v := 0) hx hb dX4_goesFor_61 (by decide +kernel) ?_
          exact tf_iret hx hb hr hI h dX4_goesFor_62 hlocks
        replace h := tf_pos c16 h
        refine lv_iconst (v := 1) hx hb dX4_goesFor_57 (by decide +kernel) ?_
        refine lv_goto (tgt := 62) hx hb dX4_goesFor_58 (by decide) ?_
        exact tf_iret hx hb hr hI h dX4_goesFor_62 hlocks
      replace h := tf_pos c15 h
      refine lv_bipush (v := -3) hx hb dX4_goesFor_49 (by decide +kernel) ?_
      exact tf_iret hx hb hr hI h dX4_goesFor_51 hlocks
    replace h := tf_neg c10 h
    refine lv_iconst (v := 0) hx hb dX4_goesFor_29 (by decide +kernel) ?_
    exact tf_iret hx hb hr hI h dX4_goesFor_30 hlocks
  replace h := tf_neg c4 h
  refine lv_iconst (v := 1) hx hb dX4_goesFor_13 (by decide +kernel) ?_
  exact tf_iret hx hb hr hI h dX4_goesFor_14 hlocks
