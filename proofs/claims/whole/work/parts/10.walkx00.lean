set_option maxHeartbeats 4000000 in
set_option maxRecDepth 100000 in
theorem kX_X0_has (l : Launch) (D : va_G) (ad : Nat → Nat) (cI cZ : ClassId) (σ : tf_S) (x1 : Int32) (z : Int32 × tf_S) (h : fX0_has σ x1 = some z) : tf_C l D (tf_wx ad cI cZ) [(cI, .int), (cZ, .boolean)] tf_nest yX0_has wsX0_has ({ frames := 0, cells := 0, slots := 0, locals := 0 }) [.ref (ad 3), .int x1] σ z := by
  intro sz
  refine Met.ofW (cc := cX0_has) (maxL := 2) (ret := (some .boolean)) (by decide) rfl ?_
  intro p e s m args below meth c s₁ B hml hv
  obtain ⟨rfl, hsz, hP, hK, hN, hD0⟩ := hv
  have hx := B.exec
  have hb := B.bytes
  have hr := B.returns
  have hts := atoms_spec (ws := wsX0_has) B.pre
  have hown : s.vm.findClass RX0 = some m.cls := findClass_of_methodNamed B.named
  have hlocks := B.notSynchronized
  subst hsz
  have hI := tf_start (D := D) (tf_x_ad ad cI cZ) hP hD0
  have hl := lv_entry ([.ref (ad 3), .int x1]) (n := 2) (Nat.le_of_ble_eq_true rfl)
  rw [lg_entry_eq]
  generalize (lg_sl ([.ref (ad 3), .int x1]) ++ List.replicate (2 - (lg_sl ([.ref (ad 3), .int x1])).length) Slot.unset).toArray = ls at hl ⊢
  have hl : lv_has ls 2 [(0, .ref (ad 3)), (1, .int x1)] := hl
  have hn_X0 : ∀ w ∈ u_ws RX0 TX0 5, w ∈ wsX0_has := by decide +kernel
  have hf_9 := hts (.fieldLink RX0 9 "TypeFlow$Functions" "size" "I") (by decide +kernel)
  unfold fX0_has at h
  refine lv_iload_n hx hb dX0_has_0 rfl (lv_at hl 1 rfl) ?_
  refine lv_if_lt (tgt := 16) hx hb dX0_has_1 (by decide) (fun c1 => ?_) (fun c1 => ?_)
  · replace h := tf_pos c1 h
    refine lv_iconst (v := 0) hx hb dX0_has_16 (by decide +kernel) ?_
    exact tf_zret hx hb hr (Or.inl rfl) hI h dX0_has_17 hlocks
  replace h := tf_neg c1 h
  refine lv_iload_n hx hb dX0_has_4 rfl (lv_at hl 1 rfl) ?_
  refine lv_aload_n hx hb dX0_has_5 rfl (lv_at hl 0 rfl) ?_
  refine tf_get (C := RX0) (T := TX0) (N := 5) hx hb hts hn_X0 hown hK hI 3 (tf_xat_3 ad cI cZ _) rfl 0 (by decide) hf_9 rfl rfl dX0_has_6 ?_
  refine lv_icmp_ge (tgt := 16) hx hb dX0_has_9 (by decide) (fun c2 => ?_) (fun c2 => ?_)
  · replace h := tf_pos c2 h
    refine lv_iconst (v := 0) hx hb dX0_has_16 (by decide +kernel) ?_
    exact tf_zret hx hb hr (Or.inl rfl) hI h dX0_has_17 hlocks
  replace h := tf_neg c2 h
  refine lv_iconst (v := 1) hx hb dX0_has_12 (by decide +kernel) ?_
  refine lv_goto (tgt := 17) hx hb dX0_has_13 (by decide) ?_
  exact tf_zret hx hb hr (Or.inr rfl) hI h dX0_has_17 hlocks

set_option maxHeartbeats 4000000 in
set_option maxRecDepth 100000 in
theorem kX_X0_hasWith (l : Launch) (D : va_G) (ad : Nat → Nat) (cI cZ : ClassId) (σ : tf_S) (x1 x2 : Int32) (z : Int32 × tf_S) (h : fX0_hasWith σ x1 x2 = some z) : tf_C l D (tf_wx ad cI cZ) [(cI, .int), (cZ, .boolean)] tf_nest yX0_hasWith wsX0_hasWith ({ frames := 1, cells := 0, slots := 0, locals := 21 }) [.ref (ad 3), .int x1, .int x2] σ z := by
  intro sz
  refine Met.ofW (cc := cX0_hasWith) (maxL := 3) (ret := (some .boolean)) (by decide) rfl ?_
  intro p e s m args below meth c s₁ B hml hv
  obtain ⟨rfl, hsz, hP, hK, hN, hD0⟩ := hv
  have hx := B.exec
  have hb := B.bytes
  have hr := B.returns
  have hts := atoms_spec (ws := wsX0_hasWith) B.pre
  have hown : s.vm.findClass RX0 = some m.cls := findClass_of_methodNamed B.named
  have hlocks := B.notSynchronized
  subst hsz
  have hI := tf_start (D := D) (tf_x_ad ad cI cZ) hP hD0
  have hl := lv_entry ([.ref (ad 3), .int x1, .int x2]) (n := 3) (Nat.le_of_ble_eq_true rfl)
  rw [lg_entry_eq]
  generalize (lg_sl ([.ref (ad 3), .int x1, .int x2]) ++ List.replicate (3 - (lg_sl ([.ref (ad 3), .int x1, .int x2])).length) Slot.unset).toArray = ls at hl ⊢
  have hl : lv_has ls 3 [(0, .ref (ad 3)), (1, .int x1), (2, .int x2)] := hl
  have hn_X0 : ∀ w ∈ u_ws RX0 TX0 5, w ∈ wsX0_hasWith := by decide +kernel
  have hf_19 := hts (.fieldLink RX0 19 "TypeFlow$Functions" "second" "[I") (by decide +kernel)
  unfold fX0_hasWith at h
  refine lv_aload_n hx hb dX0_hasWith_0 rfl (lv_at hl 0 rfl) ?_
  refine lv_iload_n hx hb dX0_hasWith_1 rfl (lv_at hl 1 rfl) ?_
  obtain ⟨u1, q2, h⟩ := tf_gbind h
  refine tf_callV (rest := []) ⟨hx, hb, hml, hown, hts⟩ hK hN hI (kX_X0_has l D ad cI cZ _ _ _ q2) (cwV 1 hts gX0_hasWith_X0_has rfl rfl rfl (by decide +kernel) ⟨Nat.le_of_ble_eq_true rfl, Nat.le_of_ble_eq_true rfl⟩) 3 0 (tf_xat_3 ad cI cZ _) rfl rfl hl.1 rfl (Nat.le_of_ble_eq_true rfl) dX0_hasWith_2 (fun H locs hI => ?_)
  refine lv_if_eq (tgt := 31) hx hb dX0_hasWith_5 (by decide) (fun c3 => ?_) (fun c3 => ?_)
  · replace h := tf_pos c3 h
    refine lv_iconst (v := 0) hx hb dX0_hasWith_31 (by decide +kernel) ?_
    exact tf_zret hx hb hr (Or.inl rfl) hI h dX0_hasWith_32 hlocks
  replace h := tf_neg c3 h
  refine lv_aload_n hx hb dX0_hasWith_8 rfl (lv_at hl 0 rfl) ?_
  refine tf_get (C := RX0) (T := TX0) (N := 5) hx hb hts hn_X0 hown hK hI 3 (tf_xat_3 ad cI cZ _) rfl 2 (by decide) hf_19 rfl rfl dX0_hasWith_9 ?_
  refine lv_iload_n hx hb dX0_hasWith_12 rfl (lv_at hl 1 rfl) ?_
  obtain ⟨b4, h⟩ := tf_gin h
  refine va_iald hx hb hK hI.1 18 0 (tf_xat_18 ad cI cZ _) rfl b4 dX0_hasWith_13 ?_
  refine lv_iconst (v := -1) hx hb dX0_hasWith_14 (by decide +kernel) ?_
  refine lv_icmp_ne (tgt := 22) hx hb dX0_hasWith_15 (by decide) (fun c5 => ?_) (fun c5 => ?_)
  · replace h := tf_neg c5 h
    refine lv_iconst (v := 2) hx hb dX0_hasWith_22 (by decide +kernel) ?_
    refine lv_iload_n hx hb dX0_hasWith_23 rfl (lv_at hl 2 rfl) ?_
    refine lv_icmp_ne (tgt := 31) hx hb dX0_hasWith_24 (by decide) (fun c6 => ?_) (fun c6 => ?_)
    · replace h := tf_neg c6 h
      refine lv_iconst (v := 0) hx hb dX0_hasWith_31 (by decide +kernel) ?_
      exact tf_zret hx hb hr (Or.inl rfl) hI h dX0_hasWith_32 hlocks
    replace h := tf_pos c6 h
    refine lv_iconst (v := 1) hx hb dX0_hasWith_27 (by decide +kernel) ?_
    refine lv_goto (tgt := 32) hx hb dX0_hasWith_28 (by decide) ?_
    exact tf_zret hx hb hr (Or.inr rfl) hI h dX0_hasWith_32 hlocks
  replace h := tf_pos c5 h
  refine lv_iconst (v := 1) hx hb dX0_hasWith_18 (by decide +kernel) ?_
  refine lv_goto (tgt := 23) hx hb dX0_hasWith_19 (by decide) ?_
  refine lv_iload_n hx hb dX0_hasWith_23 rfl (lv_at hl 2 rfl) ?_
  refine lv_icmp_ne (tgt := 31) hx hb dX0_hasWith_24 (by decide) (fun c7 => ?_) (fun c7 => ?_)
  · replace h := tf_neg c7 h
    refine lv_iconst (v := 0) hx hb dX0_hasWith_31 (by decide +kernel) ?_
    exact tf_zret hx hb hr (Or.inl rfl) hI h dX0_hasWith_32 hlocks
  replace h := tf_pos c7 h
  refine lv_iconst (v := 1) hx hb dX0_hasWith_27 (by decide +kernel) ?_
  refine lv_goto (tgt := 32) hx hb dX0_hasWith_28 (by decide) ?_
  exact tf_zret hx hb hr (Or.inr rfl) hI h dX0_hasWith_32 hlocks

set_option maxHeartbeats 4000000 in
set_option maxRecDepth 100000 in
theorem kX_X0_add (l : Launch) (D : va_G) (ad : Nat → Nat) (cI cZ : ClassId) (σ : tf_S) (x1 x2 x3 : Int32) (z : Int32 × tf_S) (h : fX0_add σ x1 x2 x3 = some z) : tf_C l D (tf_wx ad cI cZ) [(cI, .int), (cZ, .boolean)] tf_nest yX0_add wsX0_add ({ frames := 0, cells := 0, slots := 0, locals := 0 }) [.ref (ad 3), .int x1, .int x2, .int x3] σ z := by
  intro sz
  refine Met.ofW (cc := cX0_add) (maxL := 5) (ret := (some .int)) (by decide) rfl ?_
  intro p e s m args below meth c s₁ B hml hv
  obtain ⟨rfl, hsz, hP, hK, hN, hD0⟩ := hv
  have hx := B.exec
  have hb := B.bytes
  have hr := B.returns
  have hts := atoms_spec (ws := wsX0_add) B.pre
  have hown : s.vm.findClass RX0 = some m.cls := findClass_of_methodNamed B.named
  have hlocks := B.notSynchronized
  subst hsz
  have hI := tf_start (D := D) (tf_x_ad ad cI cZ) hP hD0
  have hl := lv_entry ([.ref (ad 3), .int x1, .int x2, .int x3]) (n := 5) (Nat.le_of_ble_eq_true rfl)
  rw [lg_entry_eq]
  generalize (lg_sl ([.ref (ad 3), .int x1, .int x2, .int x3]) ++ List.replicate (5 - (lg_sl ([.ref (ad 3), .int x1, .int x2, .int x3])).length) Slot.unset).toArray = ls at hl ⊢
  have hl : lv_has ls 5 [(0, .ref (ad 3)), (1, .int x1), (2, .int x2), (3, .int x3)] := hl
  have hn_X0 : ∀ w ∈ u_ws RX0 TX0 5, w ∈ wsX0_add := by decide +kernel
  have hf_9 := hts (.fieldLink RX0 9 "TypeFlow$Functions" "size" "I") (by decide +kernel)
  have hf_15 := hts (.fieldLink RX0 15 "TypeFlow$Functions" "first" "[I") (by decide +kernel)
  have hf_19 := hts (.fieldLink RX0 19 "TypeFlow$Functions" "second" "[I") (by decide +kernel)
  have hf_22 := hts (.fieldLink RX0 22 "TypeFlow$Functions" "result" "[I") (by decide +kernel)
  have hf_25 := hts (.fieldLink RX0 25 "TypeFlow$Functions" "bounds" "[I") (by decide +kernel)
  have j45 : ∀ n : Nat, ∀ (σ : tf_S) (y4 : Int32) (H : Heap) (locs : List Loc) (ls : Array Slot), fX0_add_45 x1 x2 x3 n σ y4 = some z → tf_I D (tf_wx ad cI cZ) s.heap σ H locs → lv_has ls 5 [(0, .ref (ad 3)), (4, .int y4)] → W p l e (headSpec wsX0_add ({ frames := 0, cells := 0, slots := 0, locals := 0 })).room s m ([.ref (ad 3), .int x1, .int x2, .int x3] : List Value).toArray below meth c H locs 0 0 (tf_Q below D (tf_wx ad cI cZ) z ([.ref (ad 3), .int x1, .int x2, .int x3] : List Value).toArray s) (F0 m 45 ls []) := by
    intro n
    induction n with
    | zero =>
      intro σ y4 H locs ls h
      rw [fX0_add_45] at h
      cases h
    | succ n ih =>
      intro σ y4 H locs ls h hI hl
      rw [fX0_add_45] at h
      refine lv_iload hx hb dX0_add_45 (lv_at hl 1 rfl) ?_
      refine lv_iconst (v := 2) hx hb dX0_add_47 (by decide +kernel) ?_
      refine lv_icmp_ge (tgt := 72) hx hb dX0_add_48 (by decide) (fun c8 => ?_) (fun c8 => ?_)
      · replace h := tf_pos c8 h
        refine lv_aload_n hx hb dX0_add_72 rfl (lv_at hl 0 rfl) ?_
        refine lv_dup hx hb dX0_add_73 rfl ?_
        refine tf_get (C := RX0) (T := TX0) (N := 5) hx hb hts hn_X0 hown hK hI 3 (tf_xat_3 ad cI cZ _) rfl 0 (by decide) hf_9 rfl rfl dX0_add_74 ?_
        refine lv_dup_x1 hx hb dX0_add_77 rfl rfl ?_
        refine lv_iconst (v := 1) hx hb dX0_add_78 (by decide +kernel) ?_
        refine lv_iadd hx hb dX0_add_79 ?_
        obtain ⟨s9, es9, h⟩ := tf_glet h
        refine tf_put (C := RX0) (T := TX0) (N := 5) (ty := .int) hx hb hts hn_X0 tyX0 tyX0_ok nmX0 hown hK hI 3 (tf_xat_3 ad cI cZ _) rfl 0 (by decide) hf_9 rfl rfl (by decide +kernel) rfl rfl (Nat.le_of_ble_eq_true rfl) (tf_xput_3_0 ad cI cZ _ _) es9 dX0_add_80 (fun H locs hI => ?_)
        exact tf_iret hx hb hr hI h dX0_add_83 hlocks
      replace h := tf_neg c8 h
      refine lv_aload_n hx hb dX0_add_51 rfl (lv_at hl 0 rfl) ?_
      refine tf_get (C := RX0) (T := TX0) (N := 5) hx hb hts hn_X0 hown hK hI 3 (tf_xat_3 ad cI cZ _) rfl 4 (by decide) hf_25 rfl rfl dX0_add_52 ?_
      refine lv_aload_n hx hb dX0_add_55 rfl (lv_at hl 0 rfl) ?_
      refine tf_get (C := RX0) (T := TX0) (N := 5) hx hb hts hn_X0 hown hK hI 3 (tf_xat_3 ad cI cZ _) rfl 0 (by decide) hf_9 rfl rfl dX0_add_56 ?_
      refine lv_iconst (v := 2) hx hb dX0_add_59 (by decide +kernel) ?_
      refine lv_imul hx hb dX0_add_60 ?_
      refine lv_iload hx hb dX0_add_61 (lv_at hl 1 rfl) ?_
      refine lv_iadd hx hb dX0_add_63 ?_
      refine lv_iconst (v := -1) hx hb dX0_add_64 (by decide +kernel) ?_
      obtain ⟨b10, h⟩ := tf_gin h
      obtain ⟨s11, es11, h⟩ := tf_glet h
      refine tf_iast hx hb hK hI 20 0 (tf_xat_20 ad cI cZ _) (tf_xset_20 ad cI cZ _) rfl b10 es11 dX0_add_65 (fun H locs hI => ?_)
      obtain ⟨v12, ev12, h⟩ := tf_glet h
      refine lv_iinc (v := v12) (lv' := [(4, .int v12), (0, .ref (ad 3))]) hx hb dX0_add_66 hl (k := 1) rfl (by rw [ev12]; rfl) (by decide) rfl (fun ls hl => ?_)
      refine lv_goto (tgt := 45) hx hb dX0_add_69 (by decide) ?_
      exact ih _ _ _ _ _ h hI (lv_sub hl [1, 0] rfl)
  unfold fX0_add at h
  refine lv_aload_n hx hb dX0_add_0 rfl (lv_at hl 0 rfl) ?_
  refine tf_get (C := RX0) (T := TX0) (N := 5) hx hb hts hn_X0 hown hK hI 3 (tf_xat_3 ad cI cZ _) rfl 0 (by decide) hf_9 rfl rfl dX0_add_1 ?_
  refine lv_bipush (v := 16) hx hb dX0_add_4 (by decide +kernel) ?_
  refine lv_icmp_lt (tgt := 12) hx hb dX0_add_6 (by decide) (fun c1 => ?_) (fun c1 => ?_)
  · replace h := tf_pos c1 h
    refine lv_aload_n hx hb dX0_add_12 rfl (lv_at hl 0 rfl) ?_
    refine tf_get (C := RX0) (T := TX0) (N := 5) hx hb hts hn_X0 hown hK hI 3 (tf_xat_3 ad cI cZ _) rfl 1 (by decide) hf_15 rfl rfl dX0_add_13 ?_
    refine lv_aload_n hx hb dX0_add_16 rfl (lv_at hl 0 rfl) ?_
    refine tf_get (C := RX0) (T := TX0) (N := 5) hx hb hts hn_X0 hown hK hI 3 (tf_xat_3 ad cI cZ _) rfl 0 (by decide) hf_9 rfl rfl dX0_add_17 ?_
    refine lv_iload_n hx hb dX0_add_20 rfl (lv_at hl 1 rfl) ?_
    obtain ⟨b2, h⟩ := tf_gin h
    obtain ⟨s3, es3, h⟩ := tf_glet h
    refine tf_iast hx hb hK hI 17 0 (tf_xat_17 ad cI cZ _) (tf_xset_17 ad cI cZ _) rfl b2 es3 dX0_add_21 (fun H locs hI => ?_)
    refine lv_aload_n hx hb dX0_add_22 rfl (lv_at hl 0 rfl) ?_
    refine tf_get (C := RX0) (T := TX0) (N := 5) hx hb hts hn_X0 hown hK hI 3 (tf_xat_3 ad cI cZ _) rfl 2 (by decide) hf_19 rfl rfl dX0_add_23 ?_
    refine lv_aload_n hx hb dX0_add_26 rfl (lv_at hl 0 rfl) ?_
    refine tf_get (C := RX0) (T := TX0) (N := 5) hx hb hts hn_X0 hown hK hI 3 (tf_xat_3 ad cI cZ _) rfl 0 (by decide) hf_9 rfl rfl dX0_add_27 ?_
    refine lv_iload_n hx hb dX0_add_30 rfl (lv_at hl 2 rfl) ?_
    obtain ⟨b4, h⟩ := tf_gin h
    obtain ⟨s5, es5, h⟩ := tf_glet h
    refine tf_iast hx hb hK hI 18 0 (tf_xat_18 ad cI cZ _) (tf_xset_18 ad cI cZ _) rfl b4 es5 dX0_add_31 (fun H locs hI => ?_)
    refine lv_aload_n hx hb dX0_add_32 rfl (lv_at hl 0 rfl) ?_
    refine tf_get (C := RX0) (T := TX0) (N := 5) hx hb hts hn_X0 hown hK hI 3 (tf_xat_3 ad cI cZ _) rfl 3 (by decide) hf_22 rfl rfl dX0_add_33 ?_
    refine lv_aload_n hx hb dX0_add_36 rfl (lv_at hl 0 rfl) ?_
    refine tf_get (C := RX0) (T := TX0) (N := 5) hx hb hts hn_X0 hown hK hI 3 (tf_xat_3 ad cI cZ _) rfl 0 (by decide) hf_9 rfl rfl dX0_add_37 ?_
    refine lv_iload_n hx hb dX0_add_40 rfl (lv_at hl 3 rfl) ?_
    obtain ⟨b6, h⟩ := tf_gin h
    obtain ⟨s7, es7, h⟩ := tf_glet h
    refine tf_iast hx hb hK hI 19 0 (tf_xat_19 ad cI cZ _) (tf_xset_19 ad cI cZ _) rfl b6 es7 dX0_add_41 (fun H locs hI => ?_)
    refine lv_iconst (v := 0) hx hb dX0_add_42 (by decide +kernel) ?_
    refine lv_istore (lv' := [(4, .int (0 : Int32)), (0, .ref (ad 3)), (1, .int x1), (2, .int x2), (3, .int x3)]) hx hb dX0_add_43 hl (by decide) rfl (fun ls hl => ?_)
    exact j45  _ _ _ _ _ _ h hI (lv_sub hl [1, 0] rfl)
  replace h := tf_neg c1 h
  refine lv_bipush (v := -3) hx hb dX0_add_9 (by decide +kernel) ?_
  exact tf_iret hx hb hr hI h dX0_add_11 hlocks

set_option maxHeartbeats 4000000 in
set_option maxRecDepth 100000 in
theorem kX_X1_has (l : Launch) (D : va_G) (ad : Nat → Nat) (cI cZ : ClassId) (σ : tf_S) (x1 : Int32) (z : Int32 × tf_S) (h : fX1_has σ x1 = some z) : tf_C l D (tf_wx ad cI cZ) [(cI, .int), (cZ, .boolean)] tf_nest yX1_has wsX1_has ({ frames := 0, cells := 0, slots := 0, locals := 0 }) [.ref (ad 2), .int x1] σ z := by
  intro sz
  refine Met.ofW (cc := cX1_has) (maxL := 2) (ret := (some .boolean)) (by decide) rfl ?_
  intro p e s m args below meth c s₁ B hml hv
  obtain ⟨rfl, hsz, hP, hK, hN, hD0⟩ := hv
  have hx := B.exec
  have hb := B.bytes
  have hr := B.returns
  have hts := atoms_spec (ws := wsX1_has) B.pre
  have hown : s.vm.findClass RX1 = some m.cls := findClass_of_methodNamed B.named
  have hlocks := B.notSynchronized
  subst hsz
  have hI := tf_start (D := D) (tf_x_ad ad cI cZ) hP hD0
  have hl := lv_entry ([.ref (ad 2), .int x1]) (n := 2) (Nat.le_of_ble_eq_true rfl)
  rw [lg_entry_eq]
  generalize (lg_sl ([.ref (ad 2), .int x1]) ++ List.replicate (2 - (lg_sl ([.ref (ad 2), .int x1])).length) Slot.unset).toArray = ls at hl ⊢
  have hl : lv_has ls 2 [(0, .ref (ad 2)), (1, .int x1)] := hl
  have hn_X1 : ∀ w ∈ u_ws RX1 TX1 3, w ∈ wsX1_has := by decide +kernel
  have hf_9 := hts (.fieldLink RX1 9 "TypeFlow$Members" "size" "I") (by decide +kernel)
  unfold fX1_has at h
  refine lv_iload_n hx hb dX1_has_0 rfl (lv_at hl 1 rfl) ?_
  refine lv_if_lt (tgt := 16) hx hb dX1_has_1 (by decide) (fun c1 => ?_) (fun c1 => ?_)
  · replace h := tf_pos c1 h
    refine lv_iconst (v := 0) hx hb dX1_has_16 (by decide +kernel) ?_
    exact tf_zret hx hb hr (Or.inl rfl) hI h dX1_has_17 hlocks
  replace h := tf_neg c1 h
  refine lv_iload_n hx hb dX1_has_4 rfl (lv_at hl 1 rfl) ?_
  refine lv_aload_n hx hb dX1_has_5 rfl (lv_at hl 0 rfl) ?_
  refine tf_get (C := RX1) (T := TX1) (N := 3) hx hb hts hn_X1 hown hK hI 2 (tf_xat_2 ad cI cZ _) rfl 0 (by decide) hf_9 rfl rfl dX1_has_6 ?_
  refine lv_icmp_ge (tgt := 16) hx hb dX1_has_9 (by decide) (fun c2 => ?_) (fun c2 => ?_)
  · replace h := tf_pos c2 h
    refine lv_iconst (v := 0) hx hb dX1_has_16 (by decide +kernel) ?_
    exact tf_zret hx hb hr (Or.inl rfl) hI h dX1_has_17 hlocks
  replace h := tf_neg c2 h
  refine lv_iconst (v := 1) hx hb dX1_has_12 (by decide +kernel) ?_
  refine lv_goto (tgt := 17) hx hb dX1_has_13 (by decide) ?_
  exact tf_zret hx hb hr (Or.inr rfl) hI h dX1_has_17 hlocks

set_option maxHeartbeats 4000000 in
set_option maxRecDepth 100000 in
theorem kX_X1_add (l : Launch) (D : va_G) (ad : Nat → Nat) (cI cZ : ClassId) (σ : tf_S) (x1 x2 : Int32) (z : Int32 × tf_S) (h : fX1_add σ x1 x2 = some z) : tf_C l D (tf_wx ad cI cZ) [(cI, .int), (cZ, .boolean)] tf_nest yX1_add wsX1_add ({ frames := 0, cells := 0, slots := 0, locals := 0 }) [.ref (ad 2), .int x1, .int x2] σ z := by
  intro sz
  refine Met.ofW (cc := cX1_add) (maxL := 3) (ret := (some .int)) (by decide) rfl ?_
  intro p e s m args below meth c s₁ B hml hv
  obtain ⟨rfl, hsz, hP, hK, hN, hD0⟩ := hv
  have hx := B.exec
  have hb := B.bytes
  have hr := B.returns
  have hts := atoms_spec (ws := wsX1_add) B.pre
  have hown : s.vm.findClass RX1 = some m.cls := findClass_of_methodNamed B.named
  have hlocks := B.notSynchronized
  subst hsz
  have hI := tf_start (D := D) (tf_x_ad ad cI cZ) hP hD0
  have hl := lv_entry ([.ref (ad 2), .int x1, .int x2]) (n := 3) (Nat.le_of_ble_eq_true rfl)
  rw [lg_entry_eq]
  generalize (lg_sl ([.ref (ad 2), .int x1, .int x2]) ++ List.replicate (3 - (lg_sl ([.ref (ad 2), .int x1, .int x2])).length) Slot.unset).toArray = ls at hl ⊢
  have hl : lv_has ls 3 [(0, .ref (ad 2)), (1, .int x1), (2, .int x2)] := hl
  have hn_X1 : ∀ w ∈ u_ws RX1 TX1 3, w ∈ wsX1_add := by decide +kernel
  have hf_9 := hts (.fieldLink RX1 9 "TypeFlow$Members" "size" "I") (by decide +kernel)
  have hf_15 := hts (.fieldLink RX1 15 "TypeFlow$Members" "ofClass" "[I") (by decide +kernel)
  have hf_19 := hts (.fieldLink RX1 19 "TypeFlow$Members" "type" "[I") (by decide +kernel)
  unfold fX1_add at h
  refine lv_aload_n hx hb dX1_add_0 rfl (lv_at hl 0 rfl) ?_
  refine tf_get (C := RX1) (T := TX1) (N := 3) hx hb hts hn_X1 hown hK hI 2 (tf_xat_2 ad cI cZ _) rfl 0 (by decide) hf_9 rfl rfl dX1_add_1 ?_
  refine lv_bipush (v := 24) hx hb dX1_add_4 (by decide +kernel) ?_
  refine lv_icmp_lt (tgt := 12) hx hb dX1_add_6 (by decide) (fun c1 => ?_) (fun c1 => ?_)
  · replace h := tf_pos c1 h
    refine lv_aload_n hx hb dX1_add_12 rfl (lv_at hl 0 rfl) ?_
    refine tf_get (C := RX1) (T := TX1) (N := 3) hx hb hts hn_X1 hown hK hI 2 (tf_xat_2 ad cI cZ _) rfl 1 (by decide) hf_15 rfl rfl dX1_add_13 ?_
    refine lv_aload_n hx hb dX1_add_16 rfl (lv_at hl 0 rfl) ?_
    refine tf_get (C := RX1) (T := TX1) (N := 3) hx hb hts hn_X1 hown hK hI 2 (tf_xat_2 ad cI cZ _) rfl 0 (by decide) hf_9 rfl rfl dX1_add_17 ?_
    refine lv_iload_n hx hb dX1_add_20 rfl (lv_at hl 1 rfl) ?_
    obtain ⟨b2, h⟩ := tf_gin h
    obtain ⟨s3, es3, h⟩ := tf_glet h
    refine tf_iast hx hb hK hI 15 0 (tf_xat_15 ad cI cZ _) (tf_xset_15 ad cI cZ _) rfl b2 es3 dX1_add_21 (fun H locs hI => ?_)
    refine lv_aload_n hx hb dX1_add_22 rfl (lv_at hl 0 rfl) ?_
    refine tf_get (C := RX1) (T := TX1) (N := 3) hx hb hts hn_X1 hown hK hI 2 (tf_xat_2 ad cI cZ _) rfl 2 (by decide) hf_19 rfl rfl dX1_add_23 ?_
    refine lv_aload_n hx hb dX1_add_26 rfl (lv_at hl 0 rfl) ?_
    refine tf_get (C := RX1) (T := TX1) (N := 3) hx hb hts hn_X1 hown hK hI 2 (tf_xat_2 ad cI cZ _) rfl 0 (by decide) hf_9 rfl rfl dX1_add_27 ?_
    refine lv_iload_n hx hb dX1_add_30 rfl (lv_at hl 2 rfl) ?_
    obtain ⟨b4, h⟩ := tf_gin h
    obtain ⟨s5, es5, h⟩ := tf_glet h
    refine tf_iast hx hb hK hI 16 0 (tf_xat_16 ad cI cZ _) (tf_xset_16 ad cI cZ _) rfl b4 es5 dX1_add_31 (fun H locs hI => ?_)
    refine lv_aload_n hx hb dX1_add_32 rfl (lv_at hl 0 rfl) ?_
    refine lv_dup hx hb dX1_add_33 rfl ?_
    refine tf_get (C := RX1) (T := TX1) (N := 3) hx hb hts hn_X1 hown hK hI 2 (tf_xat_2 ad cI cZ _) rfl 0 (by decide) hf_9 rfl rfl dX1_add_34 ?_
    refine lv_dup_x1 hx hb dX1_add_37 rfl rfl ?_
    refine lv_iconst (v := 1) hx hb dX1_add_38 (by decide +kernel) ?_
    refine lv_iadd hx hb dX1_add_39 ?_
    obtain ⟨s6, es6, h⟩ := tf_glet h
    refine tf_put (C := RX1) (T := TX1) (N := 3) (ty := .int) hx hb hts hn_X1 tyX1 tyX1_ok nmX1 hown hK hI 2 (tf_xat_2 ad cI cZ _) rfl 0 (by decide) hf_9 rfl rfl (by decide +kernel) rfl rfl (Nat.le_of_ble_eq_true rfl) (tf_xput_2_0 ad cI cZ _ _) es6 dX1_add_40 (fun H locs hI => ?_)
    exact tf_iret hx hb hr hI h dX1_add_43 hlocks
  replace h := tf_neg c1 h
  refine lv_bipush (v := -3) hx hb dX1_add_9 (by decide +kernel) ?_
  exact tf_iret hx hb hr hI h dX1_add_11 hlocks

set_option maxHeartbeats 4000000 in
set_option maxRecDepth 100000 in
theorem kX_X2_has (l : Launch) (D : va_G) (ad : Nat → Nat) (cI cZ : ClassId) (σ : tf_S) (x1 : Int32) (z : Int32 × tf_S) (h : fX2_has σ x1 = some z) : tf_C l D (tf_wx ad cI cZ) [(cI, .int), (cZ, .boolean)] tf_nest yX2_has wsX2_has ({ frames := 0, cells := 0, slots := 0, locals := 0 }) [.ref (ad 4), .int x1] σ z := by
  intro sz
  refine Met.ofW (cc := cX2_has) (maxL := 2) (ret := (some .boolean)) (by decide) rfl ?_
  intro p e s m args below meth c s₁ B hml hv
  obtain ⟨rfl, hsz, hP, hK, hN, hD0⟩ := hv
  have hx := B.exec
  have hb := B.bytes
  have hr := B.returns
  have hts := atoms_spec (ws := wsX2_has) B.pre
  have hown : s.vm.findClass RX2 = some m.cls := findClass_of_methodNamed B.named
  have hlocks := B.notSynchronized
  subst hsz
  have hI := tf_start (D := D) (tf_x_ad ad cI cZ) hP hD0
  have hl := lv_entry ([.ref (ad 4), .int x1]) (n := 2) (Nat.le_of_ble_eq_true rfl)
  rw [lg_entry_eq]
  generalize (lg_sl ([.ref (ad 4), .int x1]) ++ List.replicate (2 - (lg_sl ([.ref (ad 4), .int x1])).length) Slot.unset).toArray = ls at hl ⊢
  have hl : lv_has ls 2 [(0, .ref (ad 4)), (1, .int x1)] := hl
  have hn_X2 : ∀ w ∈ u_ws RX2 TX2 11, w ∈ wsX2_has := by decide +kernel
  have hf_9 := hts (.fieldLink RX2 9 "TypeFlow$Operators" "size" "I") (by decide +kernel)
  unfold fX2_has at h
  refine lv_iload_n hx hb dX2_has_0 rfl (lv_at hl 1 rfl) ?_
  refine lv_if_lt (tgt := 16) hx hb dX2_has_1 (by decide) (fun c1 => ?_) (fun c1 => ?_)
  · replace h := tf_pos c1 h
    refine lv_iconst (v := 0) hx hb dX2_has_16 (by decide +kernel) ?_
    exact tf_zret hx hb hr (Or.inl rfl) hI h dX2_has_17 hlocks
  replace h := tf_neg c1 h
  refine lv_iload_n hx hb dX2_has_4 rfl (lv_at hl 1 rfl) ?_
  refine lv_aload_n hx hb dX2_has_5 rfl (lv_at hl 0 rfl) ?_
  refine tf_get (C := RX2) (T := TX2) (N := 11) hx hb hts hn_X2 hown hK hI 4 (tf_xat_4 ad cI cZ _) rfl 0 (by decide) hf_9 rfl rfl dX2_has_6 ?_
  refine lv_icmp_ge (tgt := 16) hx hb dX2_has_9 (by decide) (fun c2 => ?_) (fun c2 => ?_)
  · replace h := tf_pos c2 h
    refine lv_iconst (v := 0) hx hb dX2_has_16 (by decide +kernel) ?_
    exact tf_zret hx hb hr (Or.inl rfl) hI h dX2_has_17 hlocks
  replace h := tf_neg c2 h
  refine lv_iconst (v := 1) hx hb dX2_has_12 (by decide +kernel) ?_
  refine lv_goto (tgt := 17) hx hb dX2_has_13 (by decide) ?_
  exact tf_zret hx hb hr (Or.inr rfl) hI h dX2_has_17 hlocks

set_option maxHeartbeats 4000000 in
set_option maxRecDepth 100000 in
theorem kX_X2_tell (l : Launch) (D : va_G) (ad : Nat → Nat) (cI cZ : ClassId) (σ : tf_S) (x1 x2 x3 x4 : Int32) (z : tf_S) (h : fX2_tell σ x1 x2 x3 x4 = some z) : tf_Cv l D (tf_wx ad cI cZ) [(cI, .int), (cZ, .boolean)] tf_nest yX2_tell wsX2_tell ({ frames := 0, cells := 0, slots := 0, locals := 0 }) [.ref (ad 4), .int x1, .int x2, .int x3, .int x4] σ z := by
  intro sz
  refine Met.ofW (cc := cX2_tell) (maxL := 5) (ret := none) (by decide) rfl ?_
  intro p e s m args below meth c s₁ B hml hv
  obtain ⟨rfl, hsz, hP, hK, hN, hD0⟩ := hv
  have hx := B.exec
  have hb := B.bytes
  have hr := B.returns
  have hts := atoms_spec (ws := wsX2_tell) B.pre
  have hown : s.vm.findClass RX2 = some m.cls := findClass_of_methodNamed B.named
  have hlocks := B.notSynchronized
  subst hsz
  have hI := tf_start (D := D) (tf_x_ad ad cI cZ) hP hD0
  have hl := lv_entry ([.ref (ad 4), .int x1, .int x2, .int x3, .int x4]) (n := 5) (Nat.le_of_ble_eq_true rfl)
  rw [lg_entry_eq]
  generalize (lg_sl ([.ref (ad 4), .int x1, .int x2, .int x3, .int x4]) ++ List.replicate (5 - (lg_sl ([.ref (ad 4), .int x1, .int x2, .int x3, .int x4])).length) Slot.unset).toArray = ls at hl ⊢
  have hl : lv_has ls 5 [(0, .ref (ad 4)), (1, .int x1), (2, .int x2), (3, .int x3), (4, .int x4)] := hl
  have hn_X2 : ∀ w ∈ u_ws RX2 TX2 11, w ∈ wsX2_tell := by decide +kernel
  have hf_34 := hts (.fieldLink RX2 34 "TypeFlow$Operators" "type" "[I") (by decide +kernel)
  have hf_37 := hts (.fieldLink RX2 37 "TypeFlow$Operators" "fault" "[I") (by decide +kernel)
  have hf_40 := hts (.fieldLink RX2 40 "TypeFlow$Operators" "risky" "[Z") (by decide +kernel)
  unfold fX2_tell at h
  refine lv_aload_n hx hb dX2_tell_0 rfl (lv_at hl 0 rfl) ?_
  refine tf_get (C := RX2) (T := TX2) (N := 11) hx hb hts hn_X2 hown hK hI 4 (tf_xat_4 ad cI cZ _) rfl 7 (by decide) hf_34 rfl rfl dX2_tell_1 ?_
  refine lv_iload_n hx hb dX2_tell_4 rfl (lv_at hl 1 rfl) ?_
  refine lv_iload_n hx hb dX2_tell_5 rfl (lv_at hl 2 rfl) ?_
  obtain ⟨b1, h⟩ := tf_gin h
  obtain ⟨s2, es2, h⟩ := tf_glet h
  refine tf_iast hx hb hK hI 27 0 (tf_xat_27 ad cI cZ _) (tf_xset_27 ad cI cZ _) rfl b1 es2 dX2_tell_6 (fun H locs hI => ?_)
  refine lv_aload_n hx hb dX2_tell_7 rfl (lv_at hl 0 rfl) ?_
  refine tf_get (C := RX2) (T := TX2) (N := 11) hx hb hts hn_X2 hown hK hI 4 (tf_xat_4 ad cI cZ _) rfl 8 (by decide) hf_37 rfl rfl dX2_tell_8 ?_
  refine lv_iload_n hx hb dX2_tell_11 rfl (lv_at hl 1 rfl) ?_
  refine lv_iload_n hx hb dX2_tell_12 rfl (lv_at hl 3 rfl) ?_
  obtain ⟨b3, h⟩ := tf_gin h
  obtain ⟨s4, es4, h⟩ := tf_glet h
  refine tf_iast hx hb hK hI 28 0 (tf_xat_28 ad cI cZ _) (tf_xset_28 ad cI cZ _) rfl b3 es4 dX2_tell_13 (fun H locs hI => ?_)
  refine lv_aload_n hx hb dX2_tell_14 rfl (lv_at hl 0 rfl) ?_
  refine tf_get (C := RX2) (T := TX2) (N := 11) hx hb hts hn_X2 hown hK hI 4 (tf_xat_4 ad cI cZ _) rfl 9 (by decide) hf_40 rfl rfl dX2_tell_15 ?_
  refine lv_iload_n hx hb dX2_tell_18 rfl (lv_at hl 1 rfl) ?_
  refine lv_iload hx hb dX2_tell_19 (lv_at hl 4 rfl) ?_
  obtain ⟨b5, h⟩ := tf_gin h
  obtain ⟨b7, h⟩ := tf_gbz h
  obtain ⟨s6, es6, h⟩ := tf_glet h
  refine tf_zast hx hb hK hI 29 1 (tf_xat_29 ad cI cZ _) (tf_xset_29 ad cI cZ _) rfl b5 b7 es6 dX2_tell_21 (fun H locs hI => ?_)
  exact tf_vret hx hb hr hI h dX2_tell_22 hlocks

set_option maxHeartbeats 4000000 in
set_option maxRecDepth 100000 in
theorem kX_X2_bind (l : Launch) (D : va_G) (ad : Nat → Nat) (cI cZ : ClassId) (σ : tf_S) (x1 x2 x3 : Int32) (z : tf_S) (h : fX2_bind σ x1 x2 x3 = some z) : tf_Cv l D (tf_wx ad cI cZ) [(cI, .int), (cZ, .boolean)] tf_nest yX2_bind wsX2_bind ({ frames := 0, cells := 0, slots := 0, locals := 0 }) [.ref (ad 4), .int x1, .int x2, .int x3] σ z := by
  intro sz
  refine Met.ofW (cc := cX2_bind) (maxL := 4) (ret := none) (by decide) rfl ?_
  intro p e s m args below meth c s₁ B hml hv
  obtain ⟨rfl, hsz, hP, hK, hN, hD0⟩ := hv
  have hx := B.exec
  have hb := B.bytes
  have hr := B.returns
  have hts := atoms_spec (ws := wsX2_bind) B.pre
  have hown : s.vm.findClass RX2 = some m.cls := findClass_of_methodNamed B.named
  have hlocks := B.notSynchronized
  subst hsz
  have hI := tf_start (D := D) (tf_x_ad ad cI cZ) hP hD0
  have hl := lv_entry ([.ref (ad 4), .int x1, .int x2, .int x3]) (n := 4) (Nat.le_of_ble_eq_true rfl)
  rw [lg_entry_eq]
  generalize (lg_sl ([.ref (ad 4), .int x1, .int x2, .int x3]) ++ List.replicate (4 - (lg_sl ([.ref (ad 4), .int x1, .int x2, .int x3])).length) Slot.unset).toArray = ls at hl ⊢
  have hl : lv_has ls 4 [(0, .ref (ad 4)), (1, .int x1), (2, .int x2), (3, .int x3)] := hl
  have hn_X2 : ∀ w ∈ u_ws RX2 TX2 11, w ∈ wsX2_bind := by decide +kernel
  have hf_44 := hts (.fieldLink RX2 44 "TypeFlow$Operators" "bindings" "[I") (by decide +kernel)
  unfold fX2_bind at h
  refine lv_aload_n hx hb dX2_bind_0 rfl (lv_at hl 0 rfl) ?_
  refine tf_get (C := RX2) (T := TX2) (N := 11) hx hb hts hn_X2 hown hK hI 4 (tf_xat_4 ad cI cZ _) rfl 10 (by decide) hf_44 rfl rfl dX2_bind_1 ?_
  refine lv_iload_n hx hb dX2_bind_4 rfl (lv_at hl 1 rfl) ?_
  refine lv_iconst (v := 2) hx hb dX2_bind_5 (by decide +kernel) ?_
  refine lv_imul hx hb dX2_bind_6 ?_
  refine lv_iload_n hx hb dX2_bind_7 rfl (lv_at hl 2 rfl) ?_
  obtain ⟨b1, h⟩ := tf_gin h
  obtain ⟨s2, es2, h⟩ := tf_glet h
  refine tf_iast hx hb hK hI 30 0 (tf_xat_30 ad cI cZ _) (tf_xset_30 ad cI cZ _) rfl b1 es2 dX2_bind_8 (fun H locs hI => ?_)
  refine lv_aload_n hx hb dX2_bind_9 rfl (lv_at hl 0 rfl) ?_
  refine tf_get (C := RX2) (T := TX2) (N := 11) hx hb hts hn_X2 hown hK hI 4 (tf_xat_4 ad cI cZ _) rfl 10 (by decide) hf_44 rfl rfl dX2_bind_10 ?_
  refine lv_iload_n hx hb dX2_bind_13 rfl (lv_at hl 1 rfl) ?_
  refine lv_iconst (v := 2) hx hb dX2_bind_14 (by decide +kernel) ?_
  refine lv_imul hx hb dX2_bind_15 ?_
  refine lv_iconst (v := 1) hx hb dX2_bind_16 (by decide +kernel) ?_
  refine lv_iadd hx hb dX2_bind_17 ?_
  refine lv_iload_n hx hb dX2_bind_18 rfl (lv_at hl 3 rfl) ?_
  obtain ⟨b3, h⟩ := tf_gin h
  obtain ⟨s4, es4, h⟩ := tf_glet h
  refine tf_iast hx hb hK hI 30 0 (tf_xat_30 ad cI cZ _) (tf_xset_30 ad cI cZ _) rfl b3 es4 dX2_bind_19 (fun H locs hI => ?_)
  exact tf_vret hx hb hr hI h dX2_bind_20 hlocks

set_option maxHeartbeats 4000000 in
set_option maxRecDepth 100000 in
theorem kX_X2_add (l : Launch) (D : va_G) (ad : Nat → Nat) (cI cZ : ClassId) (σ : tf_S) (x1 x2 x3 x4 x5 x6 : Int32) (z : Int32 × tf_S) (h : fX2_add σ x1 x2 x3 x4 x5 x6 = some z) : tf_C l D (tf_wx ad cI cZ) [(cI, .int), (cZ, .boolean)] tf_nest yX2_add wsX2_add ({ frames := 1, cells := 0, slots := 0, locals := 24 }) [.ref (ad 4), .int x1, .int x2, .int x3, .int x4, .int x5, .int x6] σ z := by
  intro sz
  refine Met.ofW (cc := cX2_add) (maxL := 7) (ret := (some .int)) (by decide) rfl ?_
  intro p e s m args below meth c s₁ B hml hv
  obtain ⟨rfl, hsz, hP, hK, hN, hD0⟩ := hv
  have hx := B.exec
  have hb := B.bytes
  have hr := B.returns
  have hts := atoms_spec (ws := wsX2_add) B.pre
  have hown : s.vm.findClass RX2 = some m.cls := findClass_of_methodNamed B.named
  have hlocks := B.notSynchronized
  subst hsz
  have hI := tf_start (D := D) (tf_x_ad ad cI cZ) hP hD0
  have hl := lv_entry ([.ref (ad 4), .int x1, .int x2, .int x3, .int x4, .int x5, .int x6]) (n := 7) (Nat.le_of_ble_eq_true rfl)
  rw [lg_entry_eq]
  generalize (lg_sl ([.ref (ad 4), .int x1, .int x2, .int x3, .int x4, .int x5, .int x6]) ++ List.replicate (7 - (lg_sl ([.ref (ad 4), .int x1, .int x2, .int x3, .int x4, .int x5, .int x6])).length) Slot.unset).toArray = ls at hl ⊢
  have hl : lv_has ls 7 [(0, .ref (ad 4)), (1, .int x1), (2, .int x2), (3, .int x3), (4, .int x4), (5, .int x5), (6, .int x6)] := hl
  have hn_X2 : ∀ w ∈ u_ws RX2 TX2 11, w ∈ wsX2_add := by decide +kernel
  have hf_9 := hts (.fieldLink RX2 9 "TypeFlow$Operators" "size" "I") (by decide +kernel)
  have hf_15 := hts (.fieldLink RX2 15 "TypeFlow$Operators" "kind" "[I") (by decide +kernel)
  have hf_19 := hts (.fieldLink RX2 19 "TypeFlow$Operators" "a" "[I") (by decide +kernel)
  have hf_22 := hts (.fieldLink RX2 22 "TypeFlow$Operators" "b" "[I") (by decide +kernel)
  have hf_25 := hts (.fieldLink RX2 25 "TypeFlow$Operators" "f" "[I") (by decide +kernel)
  have hf_28 := hts (.fieldLink RX2 28 "TypeFlow$Operators" "g" "[I") (by decide +kernel)
  have hf_31 := hts (.fieldLink RX2 31 "TypeFlow$Operators" "c" "[I") (by decide +kernel)
  unfold fX2_add at h
  refine lv_aload_n hx hb dX2_add_0 rfl (lv_at hl 0 rfl) ?_
  refine tf_get (C := RX2) (T := TX2) (N := 11) hx hb hts hn_X2 hown hK hI 4 (tf_xat_4 ad cI cZ _) rfl 0 (by decide) hf_9 rfl rfl dX2_add_1 ?_
  refine lv_bipush (v := 24) hx hb dX2_add_4 (by decide +kernel) ?_
  refine lv_icmp_lt (tgt := 12) hx hb dX2_add_6 (by decide) (fun c1 => ?_) (fun c1 => ?_)
  · replace h := tf_pos c1 h
    refine lv_aload_n hx hb dX2_add_12 rfl (lv_at hl 0 rfl) ?_
    refine tf_get (C := RX2) (T := TX2) (N := 11) hx hb hts hn_X2 hown hK hI 4 (tf_xat_4 ad cI cZ _) rfl 1 (by decide) hf_15 rfl rfl dX2_add_13 ?_
    refine lv_aload_n hx hb dX2_add_16 rfl (lv_at hl 0 rfl) ?_
    refine tf_get (C := RX2) (T := TX2) (N := 11) hx hb hts hn_X2 hown hK hI 4 (tf_xat_4 ad cI cZ _) rfl 0 (by decide) hf_9 rfl rfl dX2_add_17 ?_
    refine lv_iload_n hx hb dX2_add_20 rfl (lv_at hl 1 rfl) ?_
    obtain ⟨b2, h⟩ := tf_gin h
    obtain ⟨s3, es3, h⟩ := tf_glet h
    refine tf_iast hx hb hK hI 21 0 (tf_xat_21 ad cI cZ _) (tf_xset_21 ad cI cZ _) rfl b2 es3 dX2_add_21 (fun H locs hI => ?_)
    refine lv_aload_n hx hb dX2_add_22 rfl (lv_at hl 0 rfl) ?_
    refine tf_get (C := RX2) (T := TX2) (N := 11) hx hb hts hn_X2 hown hK hI 4 (tf_xat_4 ad cI cZ _) rfl 2 (by decide) hf_19 rfl rfl dX2_add_23 ?_
    refine lv_aload_n hx hb dX2_add_26 rfl (lv_at hl 0 rfl) ?_
    refine tf_get (C := RX2) (T := TX2) (N := 11) hx hb hts hn_X2 hown hK hI 4 (tf_xat_4 ad cI cZ _) rfl 0 (by decide) hf_9 rfl rfl dX2_add_27 ?_
    refine lv_iload_n hx hb dX2_add_30 rfl (lv_at hl 2 rfl) ?_
    obtain ⟨b4, h⟩ := tf_gin h
    obtain ⟨s5, es5, h⟩ := tf_glet h
    refine tf_iast hx hb hK hI 22 0 (tf_xat_22 ad cI cZ _) (tf_xset_22 ad cI cZ _) rfl b4 es5 dX2_add_31 (fun H locs hI => ?_)
    refine lv_aload_n hx hb dX2_add_32 rfl (lv_at hl 0 rfl) ?_
    refine tf_get (C := RX2) (T := TX2) (N := 11) hx hb hts hn_X2 hown hK hI 4 (tf_xat_4 ad cI cZ _) rfl 3 (by decide) hf_22 rfl rfl dX2_add_33 ?_
    refine lv_aload_n hx hb dX2_add_36 rfl (lv_at hl 0 rfl) ?_
    refine tf_get (C := RX2) (T := TX2) (N := 11) hx hb hts hn_X2 hown hK hI 4 (tf_xat_4 ad cI cZ _) rfl 0 (by decide) hf_9 rfl rfl dX2_add_37 ?_
    refine lv_iload_n hx hb dX2_add_40 rfl (lv_at hl 3 rfl) ?_
    obtain ⟨b6, h⟩ := tf_gin h
    obtain ⟨s7, es7, h⟩ := tf_glet h
    refine tf_iast hx hb hK hI 23 0 (tf_xat_23 ad cI cZ _) (tf_xset_23 ad cI cZ _) rfl b6 es7 dX2_add_41 (fun H locs hI => ?_)
    refine lv_aload_n hx hb dX2_add_42 rfl (lv_at hl 0 rfl) ?_
    refine tf_get (C := RX2) (T := TX2) (N := 11) hx hb hts hn_X2 hown hK hI 4 (tf_xat_4 ad cI cZ _) rfl 4 (by decide) hf_25 rfl rfl dX2_add_43 ?_
    refine lv_aload_n hx hb dX2_add_46 rfl (lv_at hl 0 rfl) ?_
    refine tf_get (C := RX2) (T := TX2) (N := 11) hx hb hts hn_X2 hown hK hI 4 (tf_xat_4 ad cI cZ _) rfl 0 (by decide) hf_9 rfl rfl dX2_add_47 ?_
    refine lv_iload hx hb dX2_add_50 (lv_at hl 4 rfl) ?_
    obtain ⟨b8, h⟩ := tf_gin h
    obtain ⟨s9, es9, h⟩ := tf_glet h
    refine tf_iast hx hb hK hI 24 0 (tf_xat_24 ad cI cZ _) (tf_xset_24 ad cI cZ _) rfl b8 es9 dX2_add_52 (fun H locs hI => ?_)
    refine lv_aload_n hx hb dX2_add_53 rfl (lv_at hl 0 rfl) ?_
    refine tf_get (C := RX2) (T := TX2) (N := 11) hx hb hts hn_X2 hown hK hI 4 (tf_xat_4 ad cI cZ _) rfl 5 (by decide) hf_28 rfl rfl dX2_add_54 ?_
    refine lv_aload_n hx hb dX2_add_57 rfl (lv_at hl 0 rfl) ?_
    refine tf_get (C := RX2) (T := TX2) (N := 11) hx hb hts hn_X2 hown hK hI 4 (tf_xat_4 ad cI cZ _) rfl 0 (by decide) hf_9 rfl rfl dX2_add_58 ?_
    refine lv_iload hx hb dX2_add_61 (lv_at hl 5 rfl) ?_
    obtain ⟨b10, h⟩ := tf_gin h
    obtain ⟨s11, es11, h⟩ := tf_glet h
    refine tf_iast hx hb hK hI 25 0 (tf_xat_25 ad cI cZ _) (tf_xset_25 ad cI cZ _) rfl b10 es11 dX2_add_63 (fun H locs hI => ?_)
    refine lv_aload_n hx hb dX2_add_64 rfl (lv_at hl 0 rfl) ?_
    refine tf_get (C := RX2) (T := TX2) (N := 11) hx hb hts hn_X2 hown hK hI 4 (tf_xat_4 ad cI cZ _) rfl 6 (by decide) hf_31 rfl rfl dX2_add_65 ?_
    refine lv_aload_n hx hb dX2_add_68 rfl (lv_at hl 0 rfl) ?_
    refine tf_get (C := RX2) (T := TX2) (N := 11) hx hb hts hn_X2 hown hK hI 4 (tf_xat_4 ad cI cZ _) rfl 0 (by decide) hf_9 rfl rfl dX2_add_69 ?_
    refine lv_iload hx hb dX2_add_72 (lv_at hl 6 rfl) ?_
    obtain ⟨b12, h⟩ := tf_gin h
    obtain ⟨s13, es13, h⟩ := tf_glet h
    refine tf_iast hx hb hK hI 26 0 (tf_xat_26 ad cI cZ _) (tf_xset_26 ad cI cZ _) rfl b12 es13 dX2_add_74 (fun H locs hI => ?_)
    refine lv_aload_n hx hb dX2_add_75 rfl (lv_at hl 0 rfl) ?_
    refine lv_aload_n hx hb dX2_add_76 rfl (lv_at hl 0 rfl) ?_
    refine tf_get (C := RX2) (T := TX2) (N := 11) hx hb hts hn_X2 hown hK hI 4 (tf_xat_4 ad cI cZ _) rfl 0 (by decide) hf_9 rfl rfl dX2_add_77 ?_
    refine lv_iconst (v := -1) hx hb dX2_add_80 (by decide +kernel) ?_
    refine lv_iconst (v := 0) hx hb dX2_add_81 (by decide +kernel) ?_
    refine lv_iconst (v := 0) hx hb dX2_add_82 (by decide +kernel) ?_
    obtain ⟨u14, q15, h⟩ := tf_gbind h
    refine tf_callVv (rest := []) ⟨hx, hb, hml, hown, hts⟩ hK hN hI (kX_X2_tell l D ad cI cZ _ _ _ _ _ _ q15) (cwV 4 hts gX2_add_X2_tell rfl rfl rfl (by decide +kernel) ⟨Nat.le_of_ble_eq_true rfl, Nat.le_of_ble_eq_true rfl⟩) 4 2 (tf_xat_4 ad cI cZ _) rfl rfl hl.1 rfl (Nat.le_of_ble_eq_true rfl) dX2_add_83 (fun H locs hI => ?_)
    refine lv_aload_n hx hb dX2_add_86 rfl (lv_at hl 0 rfl) ?_
    refine lv_aload_n hx hb dX2_add_87 rfl (lv_at hl 0 rfl) ?_
    refine tf_get (C := RX2) (T := TX2) (N := 11) hx hb hts hn_X2 hown hK hI 4 (tf_xat_4 ad cI cZ _) rfl 0 (by decide) hf_9 rfl rfl dX2_add_88 ?_
    refine lv_iconst (v := -1) hx hb dX2_add_91 (by decide +kernel) ?_
    refine lv_iconst (v := -1) hx hb dX2_add_92 (by decide +kernel) ?_
    obtain ⟨u16, q17, h⟩ := tf_gbind h
    refine tf_callVv (rest := []) ⟨hx, hb, hml, hown, hts⟩ hK hN hI (kX_X2_bind l D ad cI cZ _ _ _ _ _ q17) (cwV 3 hts gX2_add_X2_bind rfl rfl rfl (by decide +kernel) ⟨Nat.le_of_ble_eq_true rfl, Nat.le_of_ble_eq_true rfl⟩) 4 2 (tf_xat_4 ad cI cZ _) rfl rfl hl.1 rfl (Nat.le_of_ble_eq_true rfl) dX2_add_93 (fun H locs hI => ?_)
    refine lv_aload_n hx hb dX2_add_96 rfl (lv_at hl 0 rfl) ?_
    refine lv_dup hx hb dX2_add_97 rfl ?_
    refine tf_get (C := RX2) (T := TX2) (N := 11) hx hb hts hn_X2 hown hK hI 4 (tf_xat_4 ad cI cZ _) rfl 0 (by decide) hf_9 rfl rfl dX2_add_98 ?_
    refine lv_dup_x1 hx hb dX2_add_101 rfl rfl ?_
    refine lv_iconst (v := 1) hx hb dX2_add_102 (by decide +kernel) ?_
    refine lv_iadd hx hb dX2_add_103 ?_
    obtain ⟨s18, es18, h⟩ := tf_glet h
    refine tf_put (C := RX2) (T := TX2) (N := 11) (ty := .int) hx hb hts hn_X2 tyX2 tyX2_ok nmX2 hown hK hI 4 (tf_xat_4 ad cI cZ _) rfl 0 (by decide) hf_9 rfl rfl (by decide +kernel) rfl rfl (Nat.le_of_ble_eq_true rfl) (tf_xput_4_0 ad cI cZ _ _) es18 dX2_add_104 (fun H locs hI => ?_)
    exact tf_iret hx hb hr hI h dX2_add_107 hlocks
  replace h := tf_neg c1 h
  refine lv_bipush (v := -3) hx hb dX2_add_9 (by decide +kernel) ?_
  exact tf_iret hx hb hr hI h dX2_add_11 hlocks

set_option maxHeartbeats 4000000 in
set_option maxRecDepth 100000 in
theorem kX_X2_hasTwoInputs (l : Launch) (D : va_G) (ad : Nat → Nat) (cI cZ : ClassId) (σ : tf_S) (x1 : Int32) (z : Int32 × tf_S) (h : fX2_hasTwoInputs σ x1 = some z) : tf_C l D (tf_wx ad cI cZ) [(cI, .int), (cZ, .boolean)] tf_nest yX2_hasTwoInputs wsX2_hasTwoInputs ({ frames := 0, cells := 0, slots := 0, locals := 0 }) [.ref (ad 4), .int x1] σ z := by
  intro sz
  refine Met.ofW (cc := cX2_hasTwoInputs) (maxL := 2) (ret := (some .boolean)) (by decide) rfl ?_
  intro p e s m args below meth c s₁ B hml hv
  obtain ⟨rfl, hsz, hP, hK, hN, hD0⟩ := hv
  have hx := B.exec
  have hb := B.bytes
  have hr := B.returns
  have hts := atoms_spec (ws := wsX2_hasTwoInputs) B.pre
  have hown : s.vm.findClass RX2 = some m.cls := findClass_of_methodNamed B.named
  have hlocks := B.notSynchronized
  subst hsz
  have hI := tf_start (D := D) (tf_x_ad ad cI cZ) hP hD0
  have hl := lv_entry ([.ref (ad 4), .int x1]) (n := 2) (Nat.le_of_ble_eq_true rfl)
  rw [lg_entry_eq]
  generalize (lg_sl ([.ref (ad 4), .int x1]) ++ List.replicate (2 - (lg_sl ([.ref (ad 4), .int x1])).length) Slot.unset).toArray = ls at hl ⊢
  have hl : lv_has ls 2 [(0, .ref (ad 4)), (1, .int x1)] := hl
  have hn_X2 : ∀ w ∈ u_ws RX2 TX2 11, w ∈ wsX2_hasTwoInputs := by decide +kernel
  have hf_15 := hts (.fieldLink RX2 15 "TypeFlow$Operators" "kind" "[I") (by decide +kernel)
  unfold fX2_hasTwoInputs at h
  refine lv_aload_n hx hb dX2_hasTwoInputs_0 rfl (lv_at hl 0 rfl) ?_
  refine tf_get (C := RX2) (T := TX2) (N := 11) hx hb hts hn_X2 hown hK hI 4 (tf_xat_4 ad cI cZ _) rfl 1 (by decide) hf_15 rfl rfl dX2_hasTwoInputs_1 ?_
  refine lv_iload_n hx hb dX2_hasTwoInputs_4 rfl (lv_at hl 1 rfl) ?_
  obtain ⟨b1, h⟩ := tf_gin h
  refine va_iald hx hb hK hI.1 21 0 (tf_xat_21 ad cI cZ _) rfl b1 dX2_hasTwoInputs_5 ?_
  refine lv_iconst (v := 4) hx hb dX2_hasTwoInputs_6 (by decide +kernel) ?_
  refine lv_icmp_eq (tgt := 31) hx hb dX2_hasTwoInputs_7 (by decide) (fun c2 => ?_) (fun c2 => ?_)
  · replace h := tf_pos c2 h
    refine lv_iconst (v := 1) hx hb dX2_hasTwoInputs_31 (by decide +kernel) ?_
    refine lv_goto (tgt := 36) hx hb dX2_hasTwoInputs_32 (by decide) ?_
    exact tf_zret hx hb hr (Or.inr rfl) hI h dX2_hasTwoInputs_36 hlocks
  replace h := tf_neg c2 h
  refine lv_aload_n hx hb dX2_hasTwoInputs_10 rfl (lv_at hl 0 rfl) ?_
  refine tf_get (C := RX2) (T := TX2) (N := 11) hx hb hts hn_X2 hown hK hI 4 (tf_xat_4 ad cI cZ _) rfl 1 (by decide) hf_15 rfl rfl dX2_hasTwoInputs_11 ?_
  refine lv_iload_n hx hb dX2_hasTwoInputs_14 rfl (lv_at hl 1 rfl) ?_
  obtain ⟨b3, h⟩ := tf_gin h
  refine va_iald hx hb hK hI.1 21 0 (tf_xat_21 ad cI cZ _) rfl b3 dX2_hasTwoInputs_15 ?_
  refine lv_iconst (v := 5) hx hb dX2_hasTwoInputs_16 (by decide +kernel) ?_
  refine lv_icmp_eq (tgt := 31) hx hb dX2_hasTwoInputs_17 (by decide) (fun c4 => ?_) (fun c4 => ?_)
  · replace h := tf_pos c4 h
    refine lv_iconst (v := 1) hx hb dX2_hasTwoInputs_31 (by decide +kernel) ?_
    refine lv_goto (tgt := 36) hx hb dX2_hasTwoInputs_32 (by decide) ?_
    exact tf_zret hx hb hr (Or.inr rfl) hI h dX2_hasTwoInputs_36 hlocks
  replace h := tf_neg c4 h
  refine lv_aload_n hx hb dX2_hasTwoInputs_20 rfl (lv_at hl 0 rfl) ?_
  refine tf_get (C := RX2) (T := TX2) (N := 11) hx hb hts hn_X2 hown hK hI 4 (tf_xat_4 ad cI cZ _) rfl 1 (by decide) hf_15 rfl rfl dX2_hasTwoInputs_21 ?_
  refine lv_iload_n hx hb dX2_hasTwoInputs_24 rfl (lv_at hl 1 rfl) ?_
  obtain ⟨b5, h⟩ := tf_gin h
  refine va_iald hx hb hK hI.1 21 0 (tf_xat_21 ad cI cZ _) rfl b5 dX2_hasTwoInputs_25 ?_
  refine lv_bipush (v := 6) hx hb dX2_hasTwoInputs_26 (by decide +kernel) ?_
  refine lv_icmp_ne (tgt := 35) hx hb dX2_hasTwoInputs_28 (by decide) (fun c6 => ?_) (fun c6 => ?_)
  · replace h := tf_neg c6 h
    refine lv_iconst (v := 0) hx hb dX2_hasTwoInputs_35 (by decide +kernel) ?_
    exact tf_zret hx hb hr (Or.inl rfl) hI h dX2_hasTwoInputs_36 hlocks
  replace h := tf_pos c6 h
  refine lv_iconst (v := 1) hx hb dX2_hasTwoInputs_31 (by decide +kernel) ?_
  refine lv_goto (tgt := 36) hx hb dX2_hasTwoInputs_32 (by decide) ?_
  exact tf_zret hx hb hr (Or.inr rfl) hI h dX2_hasTwoInputs_36 hlocks

set_option maxHeartbeats 4000000 in
set_option maxRecDepth 100000 in
theorem kX_X2_howManyRisky (l : Launch) (D : va_G) (ad : Nat → Nat) (cI cZ : ClassId) (σ : tf_S) (z : Int32 × tf_S) (h : fX2_howManyRisky σ = some z) : tf_C l D (tf_wx ad cI cZ) [(cI, .int), (cZ, .boolean)] tf_nest yX2_howManyRisky wsX2_howManyRisky ({ frames := 0, cells := 0, slots := 0, locals := 0 }) [.ref (ad 4)] σ z := by
  intro sz
  refine Met.ofW (cc := cX2_howManyRisky) (maxL := 3) (ret := (some .int)) (by decide) rfl ?_
  intro p e s m args below meth c s₁ B hml hv
  obtain ⟨rfl, hsz, hP, hK, hN, hD0⟩ := hv
  have hx := B.exec
  have hb := B.bytes
  have hr := B.returns
  have hts := atoms_spec (ws := wsX2_howManyRisky) B.pre
  have hown : s.vm.findClass RX2 = some m.cls := findClass_of_methodNamed B.named
  have hlocks := B.notSynchronized
  subst hsz
  have hI := tf_start (D := D) (tf_x_ad ad cI cZ) hP hD0
  have hl := lv_entry ([.ref (ad 4)]) (n := 3) (Nat.le_of_ble_eq_true rfl)
  rw [lg_entry_eq]
  generalize (lg_sl ([.ref (ad 4)]) ++ List.replicate (3 - (lg_sl ([.ref (ad 4)])).length) Slot.unset).toArray = ls at hl ⊢
  have hl : lv_has ls 3 [(0, .ref (ad 4))] := hl
  have hn_X2 : ∀ w ∈ u_ws RX2 TX2 11, w ∈ wsX2_howManyRisky := by decide +kernel
  have hf_9 := hts (.fieldLink RX2 9 "TypeFlow$Operators" "size" "I") (by decide +kernel)
  have hf_40 := hts (.fieldLink RX2 40 "TypeFlow$Operators" "risky" "[Z") (by decide +kernel)
  have j4 : ∀ n : Nat, ∀ (σ : tf_S) (y1 y2 : Int32) (H : Heap) (locs : List Loc) (ls : Array Slot), fX2_howManyRisky_4 n σ y1 y2 = some z → tf_I D (tf_wx ad cI cZ) s.heap σ H locs → lv_has ls 3 [(0, .ref (ad 4)), (1, .int y1), (2, .int y2)] → W p l e (headSpec wsX2_howManyRisky ({ frames := 0, cells := 0, slots := 0, locals := 0 })).room s m ([.ref (ad 4)] : List Value).toArray below meth c H locs 0 0 (tf_Q below D (tf_wx ad cI cZ) z ([.ref (ad 4)] : List Value).toArray s) (F0 m 4 ls []) := by
    intro n
    induction n with
    | zero =>
      intro σ y1 y2 H locs ls h
      rw [fX2_howManyRisky_4] at h
      cases h
    | succ n ih =>
      intro σ y1 y2 H locs ls h hI hl
      rw [fX2_howManyRisky_4] at h
      refine lv_iload_n hx hb dX2_howManyRisky_4 rfl (lv_at hl 2 rfl) ?_
      refine lv_aload_n hx hb dX2_howManyRisky_5 rfl (lv_at hl 0 rfl) ?_
      refine tf_get (C := RX2) (T := TX2) (N := 11) hx hb hts hn_X2 hown hK hI 4 (tf_xat_4 ad cI cZ _) rfl 0 (by decide) hf_9 rfl rfl dX2_howManyRisky_6 ?_
      refine lv_icmp_ge (tgt := 30) hx hb dX2_howManyRisky_9 (by decide) (fun c1 => ?_) (fun c1 => ?_)
      · replace h := tf_pos c1 h
        refine lv_iload_n hx hb dX2_howManyRisky_30 rfl (lv_at hl 1 rfl) ?_
        exact tf_iret hx hb hr hI h dX2_howManyRisky_31 hlocks
      replace h := tf_neg c1 h
      refine lv_aload_n hx hb dX2_howManyRisky_12 rfl (lv_at hl 0 rfl) ?_
      refine tf_get (C := RX2) (T := TX2) (N := 11) hx hb hts hn_X2 hown hK hI 4 (tf_xat_4 ad cI cZ _) rfl 9 (by decide) hf_40 rfl rfl dX2_howManyRisky_13 ?_
      refine lv_iload_n hx hb dX2_howManyRisky_16 rfl (lv_at hl 2 rfl) ?_
      obtain ⟨b2, h⟩ := tf_gin h
      refine va_zald hx hb hK hI.1 29 1 (tf_xat_29 ad cI cZ _) rfl b2 dX2_howManyRisky_17 ?_
      refine lv_if_eq (tgt := 24) hx hb dX2_howManyRisky_18 (by decide) (fun c3 => ?_) (fun c3 => ?_)
      · replace h := tf_pos c3 h
        obtain ⟨v4, ev4, h⟩ := tf_glet h
        refine lv_iinc (v := v4) (lv' := [(2, .int v4), (0, .ref (ad 4)), (1, .int y1)]) hx hb dX2_howManyRisky_24 hl (k := 2) rfl (by rw [ev4]; rfl) (by decide) rfl (fun ls hl => ?_)
        refine lv_goto (tgt := 4) hx hb dX2_howManyRisky_27 (by decide) ?_
        exact ih _ _ _ _ _ _ h hI (lv_sub hl [1, 2, 0] rfl)
      replace h := tf_neg c3 h
      obtain ⟨v5, ev5, h⟩ := tf_glet h
      refine lv_iinc (v := v5) (lv' := [(1, .int v5), (0, .ref (ad 4)), (2, .int y2)]) hx hb dX2_howManyRisky_21 hl (k := 1) rfl (by rw [ev5]; rfl) (by decide) rfl (fun ls hl => ?_)
      obtain ⟨v6, ev6, h⟩ := tf_glet h
      refine lv_iinc (v := v6) (lv' := [(2, .int v6), (1, .int v5), (0, .ref (ad 4))]) hx hb dX2_howManyRisky_24 hl (k := 2) rfl (by rw [ev6]; rfl) (by decide) rfl (fun ls hl => ?_)
      refine lv_goto (tgt := 4) hx hb dX2_howManyRisky_27 (by decide) ?_
      exact ih _ _ _ _ _ _ h hI (lv_sub hl [2, 1, 0] rfl)
  unfold fX2_howManyRisky at h
  refine lv_iconst (v := 0) hx hb dX2_howManyRisky_0 (by decide +kernel) ?_
  refine lv_istore_n (lv' := [(1, .int (0 : Int32)), (0, .ref (ad 4))]) hx hb dX2_howManyRisky_1 rfl hl (by decide) rfl (fun ls hl => ?_)
  refine lv_iconst (v := 0) hx hb dX2_howManyRisky_2 (by decide +kernel) ?_
  refine lv_istore_n (lv' := [(2, .int (0 : Int32)), (1, .int (0 : Int32)), (0, .ref (ad 4))]) hx hb dX2_howManyRisky_3 rfl hl (by decide) rfl (fun ls hl => ?_)
  exact j4  _ _ _ _ _ _ _ h hI (lv_sub hl [2, 1, 0] rfl)

set_option maxHeartbeats 4000000 in
set_option maxRecDepth 100000 in
theorem kX_X6_isPrimitive (l : Launch) (D : va_G) (ad : Nat → Nat) (cI cZ : ClassId) (σ : tf_S) (x0 : Int32) (z : Int32 × tf_S) (h : fX6_isPrimitive σ x0 = some z) : tf_C l D (tf_wx ad cI cZ) [(cI, .int), (cZ, .boolean)] tf_nest yX6_isPrimitive wsX6_isPrimitive ({ frames := 0, cells := 0, slots := 0, locals := 0 }) [.int x0] σ z := by
  intro sz
  refine Met.ofW (cc := cX6_isPrimitive) (maxL := 1) (ret := (some .boolean)) (by decide) rfl ?_
  intro p e s m args below meth c s₁ B hml hv
  obtain ⟨rfl, hsz, hP, hK, hN, hD0⟩ := hv
  have hx := B.exec
  have hb := B.bytes
  have hr := B.returns
  have hts := atoms_spec (ws := wsX6_isPrimitive) B.pre
  have hown : s.vm.findClass RX6 = some m.cls := findClass_of_methodNamed B.named
  have hlocks := B.notSynchronized
  subst hsz
  have hI := tf_start (D := D) (tf_x_ad ad cI cZ) hP hD0
  have hl := lv_entry ([.int x0]) (n := 1) (Nat.le_of_ble_eq_true rfl)
  rw [lg_entry_eq]
  generalize (lg_sl ([.int x0]) ++ List.replicate (1 - (lg_sl ([.int x0])).length) Slot.unset).toArray = ls at hl ⊢
  have hl : lv_has ls 1 [(0, .int x0)] := hl
  unfold fX6_isPrimitive at h
  refine lv_iload_n hx hb dX6_isPrimitive_0 rfl (lv_at hl 0 rfl) ?_
  refine lv_if_lt (tgt := 13) hx hb dX6_isPrimitive_1 (by decide) (fun c1 => ?_) (fun c1 => ?_)
  · replace h := tf_pos c1 h
    refine lv_iconst (v := 0) hx hb dX6_isPrimitive_13 (by decide +kernel) ?_
    exact tf_zret hx hb hr (Or.inl rfl) hI h dX6_isPrimitive_14 hlocks
  replace h := tf_neg c1 h
  refine lv_iload_n hx hb dX6_isPrimitive_4 rfl (lv_at hl 0 rfl) ?_
  refine lv_iconst (v := 3) hx hb dX6_isPrimitive_5 (by decide +kernel) ?_
  refine lv_icmp_gt (tgt := 13) hx hb dX6_isPrimitive_6 (by decide) (fun c2 => ?_) (fun c2 => ?_)
  · replace h := tf_pos c2 h
    refine lv_iconst (v := 0) hx hb dX6_isPrimitive_13 (by decide +kernel) ?_
    exact tf_zret hx hb hr (Or.inl rfl) hI h dX6_isPrimitive_14 hlocks
  replace h := tf_neg c2 h
  refine lv_iconst (v := 1) hx hb dX6_isPrimitive_9 (by decide +kernel) ?_
  refine lv_goto (tgt := 14) hx hb dX6_isPrimitive_10 (by decide) ?_
  exact tf_zret hx hb hr (Or.inr rfl) hI h dX6_isPrimitive_14 hlocks

set_option maxHeartbeats 4000000 in
set_option maxRecDepth 100000 in
theorem kX_X6_widens (l : Launch) (D : va_G) (ad : Nat → Nat) (cI cZ : ClassId) (σ : tf_S) (x0 x1 : Int32) (z : Int32 × tf_S) (h : fX6_widens σ x0 x1 = some z) : tf_C l D (tf_wx ad cI cZ) [(cI, .int), (cZ, .boolean)] tf_nest yX6_widens wsX6_widens ({ frames := 0, cells := 0, slots := 0, locals := 0 }) [.int x0, .int x1] σ z := by
  intro sz
  refine Met.ofW (cc := cX6_widens) (maxL := 2) (ret := (some .boolean)) (by decide) rfl ?_
  intro p e s m args below meth c s₁ B hml hv
  obtain ⟨rfl, hsz, hP, hK, hN, hD0⟩ := hv
  have hx := B.exec
  have hb := B.bytes
  have hr := B.returns
  have hts := atoms_spec (ws := wsX6_widens) B.pre
  have hown : s.vm.findClass RX6 = some m.cls := findClass_of_methodNamed B.named
  have hlocks := B.notSynchronized
  subst hsz
  have hI := tf_start (D := D) (tf_x_ad ad cI cZ) hP hD0
  have hl := lv_entry ([.int x0, .int x1]) (n := 2) (Nat.le_of_ble_eq_true rfl)
  rw [lg_entry_eq]
  generalize (lg_sl ([.int x0, .int x1]) ++ List.replicate (2 - (lg_sl ([.int x0, .int x1])).length) Slot.unset).toArray = ls at hl ⊢
  have hl : lv_has ls 2 [(0, .int x0), (1, .int x1)] := hl
  unfold fX6_widens at h
  refine lv_iload_n hx hb dX6_widens_0 rfl (lv_at hl 0 rfl) ?_
  refine lv_iconst (v := 1) hx hb dX6_widens_1 (by decide +kernel) ?_
  refine lv_icmp_ne (tgt := 19) hx hb dX6_widens_2 (by decide) (fun c1 => ?_) (fun c1 => ?_)
  · replace h := tf_neg c1 h
    refine lv_iconst (v := 0) hx hb dX6_widens_19 (by decide +kernel) ?_
    exact tf_zret hx hb hr (Or.inl rfl) hI h dX6_widens_20 hlocks
  replace h := tf_pos c1 h
  refine lv_iload_n hx hb dX6_widens_5 rfl (lv_at hl 1 rfl) ?_
  refine lv_iconst (v := 2) hx hb dX6_widens_6 (by decide +kernel) ?_
  refine lv_icmp_eq (tgt := 15) hx hb dX6_widens_7 (by decide) (fun c2 => ?_) (fun c2 => ?_)
  · replace h := tf_pos c2 h
    refine lv_iconst (v := 1) hx hb dX6_widens_15 (by decide +kernel) ?_
    refine lv_goto (tgt := 20) hx hb dX6_widens_16 (by decide) ?_
    exact tf_zret hx hb hr (Or.inr rfl) hI h dX6_widens_20 hlocks
  replace h := tf_neg c2 h
  refine lv_iload_n hx hb dX6_widens_10 rfl (lv_at hl 1 rfl) ?_
  refine lv_iconst (v := 3) hx hb dX6_widens_11 (by decide +kernel) ?_
  refine lv_icmp_ne (tgt := 19) hx hb dX6_widens_12 (by decide) (fun c3 => ?_) (fun c3 => ?_)
  · replace h := tf_neg c3 h
    refine lv_iconst (v := 0) hx hb dX6_widens_19 (by decide +kernel) ?_
    exact tf_zret hx hb hr (Or.inl rfl) hI h dX6_widens_20 hlocks
  replace h := tf_pos c3 h
  refine lv_iconst (v := 1) hx hb dX6_widens_15 (by decide +kernel) ?_
  refine lv_goto (tgt := 20) hx hb dX6_widens_16 (by decide) ?_
  exact tf_zret hx hb hr (Or.inr rfl) hI h dX6_widens_20 hlocks

set_option maxHeartbeats 4000000 in
set_option maxRecDepth 100000 in
theorem kX_X6_isVariable (l : Launch) (D : va_G) (ad : Nat → Nat) (cI cZ : ClassId) (σ : tf_S) (x0 : Int32) (z : Int32 × tf_S) (h : fX6_isVariable σ x0 = some z) : tf_C l D (tf_wx ad cI cZ) [(cI, .int), (cZ, .boolean)] tf_nest yX6_isVariable wsX6_isVariable ({ frames := 0, cells := 0, slots := 0, locals := 0 }) [.int x0] σ z := by
  intro sz
  refine Met.ofW (cc := cX6_isVariable) (maxL := 1) (ret := (some .boolean)) (by decide) rfl ?_
  intro p e s m args below meth c s₁ B hml hv
  obtain ⟨rfl, hsz, hP, hK, hN, hD0⟩ := hv
  have hx := B.exec
  have hb := B.bytes
  have hr := B.returns
  have hts := atoms_spec (ws := wsX6_isVariable) B.pre
  have hown : s.vm.findClass RX6 = some m.cls := findClass_of_methodNamed B.named
  have hlocks := B.notSynchronized
  subst hsz
  have hI := tf_start (D := D) (tf_x_ad ad cI cZ) hP hD0
  have hl := lv_entry ([.int x0]) (n := 1) (Nat.le_of_ble_eq_true rfl)
  rw [lg_entry_eq]
  generalize (lg_sl ([.int x0]) ++ List.replicate (1 - (lg_sl ([.int x0])).length) Slot.unset).toArray = ls at hl ⊢
  have hl : lv_has ls 1 [(0, .int x0)] := hl
  unfold fX6_isVariable at h
  refine lv_iload_n hx hb dX6_isVariable_0 rfl (lv_at hl 0 rfl) ?_
  refine lv_iconst (v := 4) hx hb dX6_isVariable_1 (by decide +kernel) ?_
  refine lv_icmp_eq (tgt := 10) hx hb dX6_isVariable_2 (by decide) (fun c1 => ?_) (fun c1 => ?_)
  · replace h := tf_pos c1 h
    refine lv_iconst (v := 1) hx hb dX6_isVariable_10 (by decide +kernel) ?_
    refine lv_goto (tgt := 15) hx hb dX6_isVariable_11 (by decide) ?_
    exact tf_zret hx hb hr (Or.inr rfl) hI h dX6_isVariable_15 hlocks
  replace h := tf_neg c1 h
  refine lv_iload_n hx hb dX6_isVariable_5 rfl (lv_at hl 0 rfl) ?_
  refine lv_iconst (v := 5) hx hb dX6_isVariable_6 (by decide +kernel) ?_
  refine lv_icmp_ne (tgt := 14) hx hb dX6_isVariable_7 (by decide) (fun c2 => ?_) (fun c2 => ?_)
  · replace h := tf_neg c2 h
    refine lv_iconst (v := 0) hx hb dX6_isVariable_14 (by decide +kernel) ?_
    exact tf_zret hx hb hr (Or.inl rfl) hI h dX6_isVariable_15 hlocks
  replace h := tf_pos c2 h
  refine lv_iconst (v := 1) hx hb dX6_isVariable_10 (by decide +kernel) ?_
  refine lv_goto (tgt := 15) hx hb dX6_isVariable_11 (by decide) ?_
  exact tf_zret hx hb hr (Or.inr rfl) hI h dX6_isVariable_15 hlocks

set_option maxHeartbeats 4000000 in
set_option maxRecDepth 100000 in
theorem kX_X3_bindTo (l : Launch) (D : va_G) (ad : Nat → Nat) (cI cZ : ClassId) (σ : tf_S) (x1 x2 : Int32) (z : Int32 × tf_S) (h : fX3_bindTo σ x1 x2 = some z) : tf_C l D (tf_wx ad cI cZ) [(cI, .int), (cZ, .boolean)] tf_nest yX3_bindTo wsX3_bindTo ({ frames := 0, cells := 0, slots := 0, locals := 0 }) [.ref (ad 6), .int x1, .int x2] σ z := by
  intro sz
  refine Met.ofW (cc := cX3_bindTo) (maxL := 4) (ret := (some .int)) (by decide) rfl ?_
  intro p e s m args below meth c s₁ B hml hv
  obtain ⟨rfl, hsz, hP, hK, hN, hD0⟩ := hv
  have hx := B.exec
  have hb := B.bytes
  have hr := B.returns
  have hts := atoms_spec (ws := wsX3_bindTo) B.pre
  have hown : s.vm.findClass RX3 = some m.cls := findClass_of_methodNamed B.named
  have hlocks := B.notSynchronized
  subst hsz
  have hI := tf_start (D := D) (tf_x_ad ad cI cZ) hP hD0
  have hl := lv_entry ([.ref (ad 6), .int x1, .int x2]) (n := 4) (Nat.le_of_ble_eq_true rfl)
  rw [lg_entry_eq]
  generalize (lg_sl ([.ref (ad 6), .int x1, .int x2]) ++ List.replicate (4 - (lg_sl ([.ref (ad 6), .int x1, .int x2])).length) Slot.unset).toArray = ls at hl ⊢
  have hl : lv_has ls 4 [(0, .ref (ad 6)), (1, .int x1), (2, .int x2)] := hl
  have hn_X3 : ∀ w ∈ u_ws RX3 TX3 7, w ∈ wsX3_bindTo := by decide +kernel
  have hf_9 := hts (.fieldLink RX3 9 "TypeFlow$Putting" "bound" "[I") (by decide +kernel)
  unfold fX3_bindTo at h
  refine lv_iload_n hx hb dX3_bindTo_0 rfl (lv_at hl 1 rfl) ?_
  refine lv_iconst (v := 4) hx hb dX3_bindTo_1 (by decide +kernel) ?_
  refine lv_isub hx hb dX3_bindTo_2 ?_
  obtain ⟨v1, ev1, h⟩ := tf_glet h
  refine tf_top ev1 ?_
  refine lv_istore_n (lv' := [(3, .int v1), (0, .ref (ad 6)), (1, .int x1), (2, .int x2)]) hx hb dX3_bindTo_3 rfl hl (by decide) rfl (fun ls hl => ?_)
  refine lv_aload_n hx hb dX3_bindTo_4 rfl (lv_at hl 1 rfl) ?_
  refine tf_get (C := RX3) (T := TX3) (N := 7) hx hb hts hn_X3 hown hK hI 6 (tf_xat_6 ad cI cZ _) rfl 2 (by decide) hf_9 rfl rfl dX3_bindTo_5 ?_
  refine lv_iload_n hx hb dX3_bindTo_8 rfl (lv_at hl 0 rfl) ?_
  obtain ⟨b2, h⟩ := tf_gin h
  refine va_iald hx hb hK hI.1 31 0 (tf_xat_31 ad cI cZ _) rfl b2 dX3_bindTo_9 ?_
  refine lv_iconst (v := -1) hx hb dX3_bindTo_10 (by decide +kernel) ?_
  refine lv_icmp_ne (tgt := 21) hx hb dX3_bindTo_11 (by decide) (fun c3 => ?_) (fun c3 => ?_)
  · replace h := tf_neg c3 h
    refine lv_aload_n hx hb dX3_bindTo_21 rfl (lv_at hl 1 rfl) ?_
    refine tf_get (C := RX3) (T := TX3) (N := 7) hx hb hts hn_X3 hown hK hI 6 (tf_xat_6 ad cI cZ _) rfl 2 (by decide) hf_9 rfl rfl dX3_bindTo_22 ?_
    refine lv_iload_n hx hb dX3_bindTo_25 rfl (lv_at hl 0 rfl) ?_
    obtain ⟨b4, h⟩ := tf_gin h
    refine va_iald hx hb hK hI.1 31 0 (tf_xat_31 ad cI cZ _) rfl b4 dX3_bindTo_26 ?_
    refine lv_iload_n hx hb dX3_bindTo_27 rfl (lv_at hl 3 rfl) ?_
    refine lv_icmp_ne (tgt := 35) hx hb dX3_bindTo_28 (by decide) (fun c5 => ?_) (fun c5 => ?_)
    · replace h := tf_neg c5 h
      refine lv_iconst (v := 2) hx hb dX3_bindTo_35 (by decide +kernel) ?_
      exact tf_iret hx hb hr hI h dX3_bindTo_36 hlocks
    replace h := tf_pos c5 h
    refine lv_iconst (v := 0) hx hb dX3_bindTo_31 (by decide +kernel) ?_
    refine lv_goto (tgt := 36) hx hb dX3_bindTo_32 (by decide) ?_
    exact tf_iret hx hb hr hI h dX3_bindTo_36 hlocks
  replace h := tf_pos c3 h
  refine lv_aload_n hx hb dX3_bindTo_14 rfl (lv_at hl 1 rfl) ?_
  refine tf_get (C := RX3) (T := TX3) (N := 7) hx hb hts hn_X3 hown hK hI 6 (tf_xat_6 ad cI cZ _) rfl 2 (by decide) hf_9 rfl rfl dX3_bindTo_15 ?_
  refine lv_iload_n hx hb dX3_bindTo_18 rfl (lv_at hl 0 rfl) ?_
  refine lv_iload_n hx hb dX3_bindTo_19 rfl (lv_at hl 3 rfl) ?_
  obtain ⟨b6, h⟩ := tf_gin h
  obtain ⟨s7, es7, h⟩ := tf_glet h
  refine tf_iast hx hb hK hI 31 0 (tf_xat_31 ad cI cZ _) (tf_xset_31 ad cI cZ _) rfl b6 es7 dX3_bindTo_20 (fun H locs hI => ?_)
  refine lv_aload_n hx hb dX3_bindTo_21 rfl (lv_at hl 1 rfl) ?_
  refine tf_get (C := RX3) (T := TX3) (N := 7) hx hb hts hn_X3 hown hK hI 6 (tf_xat_6 ad cI cZ _) rfl 2 (by decide) hf_9 rfl rfl dX3_bindTo_22 ?_
  refine lv_iload_n hx hb dX3_bindTo_25 rfl (lv_at hl 0 rfl) ?_
  obtain ⟨b8, h⟩ := tf_gin h
  refine va_iald hx hb hK hI.1 31 0 (tf_xat_31 ad cI cZ _) rfl b8 dX3_bindTo_26 ?_
  refine lv_iload_n hx hb dX3_bindTo_27 rfl (lv_at hl 3 rfl) ?_
  refine lv_icmp_ne (tgt := 35) hx hb dX3_bindTo_28 (by decide) (fun c9 => ?_) (fun c9 => ?_)
  · replace h := tf_neg c9 h
    refine lv_iconst (v := 2) hx hb dX3_bindTo_35 (by decide +kernel) ?_
    exact tf_iret hx hb hr hI h dX3_bindTo_36 hlocks
  replace h := tf_pos c9 h
  refine lv_iconst (v := 0) hx hb dX3_bindTo_31 (by decide +kernel) ?_
  refine lv_goto (tgt := 36) hx hb dX3_bindTo_32 (by decide) ?_
  exact tf_iret hx hb hr hI h dX3_bindTo_36 hlocks

set_option maxHeartbeats 4000000 in
set_option maxRecDepth 100000 in
theorem kX_X4_classAbove (l : Launch) (D : va_G) (ad : Nat → Nat) (cI cZ : ClassId) (σ : tf_S) (x1 : Int32) (z : Int32 × tf_S) (h : fX4_classAbove σ x1 = some z) : tf_C l D (tf_wx ad cI cZ) [(cI, .int), (cZ, .boolean)] tf_nest yX4_classAbove wsX4_classAbove ({ frames := 0, cells := 0, slots := 0, locals := 0 }) [.ref (ad 1), .int x1] σ z := by
  intro sz
  refine Met.ofW (cc := cX4_classAbove) (maxL := 2) (ret := (some .int)) (by decide) rfl ?_
  intro p e s m args below meth c s₁ B hml hv
  obtain ⟨rfl, hsz, hP, hK, hN, hD0⟩ := hv
  have hx := B.exec
  have hb := B.bytes
  have hr := B.returns
  have hts := atoms_spec (ws := wsX4_classAbove) B.pre
  have hown : s.vm.findClass RX4 = some m.cls := findClass_of_methodNamed B.named
  have hlocks := B.notSynchronized
  subst hsz
  have hI := tf_start (D := D) (tf_x_ad ad cI cZ) hP hD0
  have hl := lv_entry ([.ref (ad 1), .int x1]) (n := 2) (Nat.le_of_ble_eq_true rfl)
  rw [lg_entry_eq]
  generalize (lg_sl ([.ref (ad 1), .int x1]) ++ List.replicate (2 - (lg_sl ([.ref (ad 1), .int x1])).length) Slot.unset).toArray = ls at hl ⊢
  have hl : lv_has ls 2 [(0, .ref (ad 1)), (1, .int x1)] := hl
  have hn_X4 : ∀ w ∈ u_ws RX4 TX4 10, w ∈ wsX4_classAbove := by decide +kernel
  have hf_19 := hts (.fieldLink RX4 19 "TypeFlow$Types" "parent" "[I") (by decide +kernel)
  have hf_25 := hts (.fieldLink RX4 25 "TypeFlow$Types" "ofClass" "[I") (by decide +kernel)
  unfold fX4_classAbove at h
  refine lv_iload_n hx hb dX4_classAbove_0 rfl (lv_at hl 1 rfl) ?_
  refine lv_if_ne (tgt := 8) hx hb dX4_classAbove_1 (by decide) (fun c1 => ?_) (fun c1 => ?_)
  · replace h := tf_neg c1 h
    refine lv_aload_n hx hb dX4_classAbove_8 rfl (lv_at hl 0 rfl) ?_
    refine tf_get (C := RX4) (T := TX4) (N := 10) hx hb hts hn_X4 hown hK hI 1 (tf_xat_1 ad cI cZ _) rfl 4 (by decide) hf_25 rfl rfl dX4_classAbove_9 ?_
    refine lv_aload_n hx hb dX4_classAbove_12 rfl (lv_at hl 0 rfl) ?_
    refine tf_get (C := RX4) (T := TX4) (N := 10) hx hb hts hn_X4 hown hK hI 1 (tf_xat_1 ad cI cZ _) rfl 2 (by decide) hf_19 rfl rfl dX4_classAbove_13 ?_
    refine lv_iload_n hx hb dX4_classAbove_16 rfl (lv_at hl 1 rfl) ?_
    obtain ⟨b2, h⟩ := tf_gin h
    refine va_iald hx hb hK hI.1 8 0 (tf_xat_8 ad cI cZ _) rfl b2 dX4_classAbove_17 ?_
    obtain ⟨b3, h⟩ := tf_gin h
    refine va_iald hx hb hK hI.1 9 0 (tf_xat_9 ad cI cZ _) rfl b3 dX4_classAbove_18 ?_
    exact tf_iret hx hb hr hI h dX4_classAbove_19 hlocks
  replace h := tf_pos c1 h
  refine lv_iconst (v := -1) hx hb dX4_classAbove_4 (by decide +kernel) ?_
  refine lv_goto (tgt := 19) hx hb dX4_classAbove_5 (by decide) ?_
  exact tf_iret hx hb hr hI h dX4_classAbove_19 hlocks

set_option maxHeartbeats 4000000 in
set_option maxRecDepth 100000 in
theorem kX_X4_isFrom (l : Launch) (D : va_G) (ad : Nat → Nat) (cI cZ : ClassId) (σ : tf_S) (x1 x2 : Int32) (z : Int32 × tf_S) (h : fX4_isFrom σ x1 x2 = some z) : tf_C l D (tf_wx ad cI cZ) [(cI, .int), (cZ, .boolean)] tf_nest yX4_isFrom wsX4_isFrom ({ frames := 1, cells := 0, slots := 0, locals := 21 }) [.ref (ad 1), .int x1, .int x2] σ z := by
  intro sz
  refine Met.ofW (cc := cX4_isFrom) (maxL := 5) (ret := (some .boolean)) (by decide) rfl ?_
  intro p e s m args below meth c s₁ B hml hv
  obtain ⟨rfl, hsz, hP, hK, hN, hD0⟩ := hv
  have hx := B.exec
  have hb := B.bytes
  have hr := B.returns
  have hts := atoms_spec (ws := wsX4_isFrom) B.pre
  have hown : s.vm.findClass RX4 = some m.cls := findClass_of_methodNamed B.named
  have hlocks := B.notSynchronized
  subst hsz
  have hI := tf_start (D := D) (tf_x_ad ad cI cZ) hP hD0
  have hl := lv_entry ([.ref (ad 1), .int x1, .int x2]) (n := 5) (Nat.le_of_ble_eq_true rfl)
  rw [lg_entry_eq]
  generalize (lg_sl ([.ref (ad 1), .int x1, .int x2]) ++ List.replicate (5 - (lg_sl ([.ref (ad 1), .int x1, .int x2])).length) Slot.unset).toArray = ls at hl ⊢
  have hl : lv_has ls 5 [(0, .ref (ad 1)), (1, .int x1), (2, .int x2)] := hl
  have j5 : ∀ n : Nat, ∀ (σ : tf_S) (y3 y4 : Int32) (H : Heap) (locs : List Loc) (ls : Array Slot), fX4_isFrom_5 x1 x2 n σ y3 y4 = some z → tf_I D (tf_wx ad cI cZ) s.heap σ H locs → lv_has ls 5 [(0, .ref (ad 1)), (2, .int x2), (3, .int y3), (4, .int y4)] → W p l e (headSpec wsX4_isFrom ({ frames := 1, cells := 0, slots := 0, locals := 21 })).room s m ([.ref (ad 1), .int x1, .int x2] : List Value).toArray below meth c H locs 0 0 (tf_Q below D (tf_wx ad cI cZ) z ([.ref (ad 1), .int x1, .int x2] : List Value).toArray s) (F0 m 5 ls []) := by
    intro n
    induction n with
    | zero =>
      intro σ y3 y4 H locs ls h
      rw [fX4_isFrom_5] at h
      cases h
    | succ n ih =>
      intro σ y3 y4 H locs ls h hI hl
      rw [fX4_isFrom_5] at h
      refine lv_iload_n hx hb dX4_isFrom_5 rfl (lv_at hl 2 rfl) ?_
      refine lv_iload_n hx hb dX4_isFrom_6 rfl (lv_at hl 1 rfl) ?_
      refine lv_icmp_le (tgt := 29) hx hb dX4_isFrom_7 (by decide) (fun c1 => ?_) (fun c1 => ?_)
      · replace h := tf_pos c1 h
        refine lv_iload_n hx hb dX4_isFrom_29 rfl (lv_at hl 2 rfl) ?_
        refine lv_iload_n hx hb dX4_isFrom_30 rfl (lv_at hl 1 rfl) ?_
        refine lv_icmp_ne (tgt := 38) hx hb dX4_isFrom_31 (by decide) (fun c2 => ?_) (fun c2 => ?_)
        · replace h := tf_neg c2 h
          refine lv_iconst (v := 0) hx hb dX4_isFrom_38 (by decide +kernel) ?_
          exact tf_zret hx hb hr (Or.inl rfl) hI h dX4_isFrom_39 hlocks
        replace h := tf_pos c2 h
        refine lv_iconst (v := 1) hx hb dX4_isFrom_34 (by decide +kernel) ?_
        refine lv_goto (tgt := 39) hx hb dX4_isFrom_35 (by decide) ?_
        exact tf_zret hx hb hr (Or.inr rfl) hI h dX4_isFrom_39 hlocks
      replace h := tf_neg c1 h
      refine lv_iload hx hb dX4_isFrom_10 (lv_at hl 3 rfl) ?_
      refine lv_bipush (v := 12) hx hb dX4_isFrom_12 (by decide +kernel) ?_
      refine lv_icmp_ge (tgt := 29) hx hb dX4_isFrom_14 (by decide) (fun c3 => ?_) (fun c3 => ?_)
      · replace h := tf_pos c3 h
        refine lv_iload_n hx hb dX4_isFrom_29 rfl (lv_at hl 2 rfl) ?_
        refine lv_iload_n hx hb dX4_isFrom_30 rfl (lv_at hl 1 rfl) ?_
        refine lv_icmp_ne (tgt := 38) hx hb dX4_isFrom_31 (by decide) (fun c4 => ?_) (fun c4 => ?_)
        · replace h := tf_neg c4 h
          refine lv_iconst (v := 0) hx hb dX4_isFrom_38 (by decide +kernel) ?_
          exact tf_zret hx hb hr (Or.inl rfl) hI h dX4_isFrom_39 hlocks
        replace h := tf_pos c4 h
        refine lv_iconst (v := 1) hx hb dX4_isFrom_34 (by decide +kernel) ?_
        refine lv_goto (tgt := 39) hx hb dX4_isFrom_35 (by decide) ?_
        exact tf_zret hx hb hr (Or.inr rfl) hI h dX4_isFrom_39 hlocks
      replace h := tf_neg c3 h
      refine lv_aload_n hx hb dX4_isFrom_17 rfl (lv_at hl 0 rfl) ?_
      refine lv_iload_n hx hb dX4_isFrom_18 rfl (lv_at hl 2 rfl) ?_
      obtain ⟨u5, q6, h⟩ := tf_gbind h
      refine tf_callV (rest := []) ⟨hx, hb, hml, hown, hts⟩ hK hN hI (kX_X4_classAbove l D ad cI cZ _ _ _ q6) (cwV 1 hts gX4_isFrom_X4_classAbove rfl rfl rfl (by decide +kernel) ⟨Nat.le_of_ble_eq_true rfl, Nat.le_of_ble_eq_true rfl⟩) 1 4 (tf_xat_1 ad cI cZ _) rfl rfl hl.1 rfl (Nat.le_of_ble_eq_true rfl) dX4_isFrom_19 (fun H locs hI => ?_)
      obtain ⟨v7, ev7, h⟩ := tf_glet h
      refine tf_top ev7 ?_
      refine lv_istore_n (lv' := [(3, .int v7), (0, .ref (ad 1)), (2, .int x2), (4, .int y4)]) hx hb dX4_isFrom_22 rfl hl (by decide) rfl (fun ls hl => ?_)
      obtain ⟨v8, ev8, h⟩ := tf_glet h
      refine lv_iinc (v := v8) (lv' := [(4, .int v8), (3, .int v7), (0, .ref (ad 1)), (2, .int x2)]) hx hb dX4_isFrom_23 hl (k := 3) rfl (by rw [ev8]; rfl) (by decide) rfl (fun ls hl => ?_)
      refine lv_goto (tgt := 5) hx hb dX4_isFrom_26 (by decide) ?_
      exact ih _ _ _ _ _ _ h hI (lv_sub hl [2, 3, 1, 0] rfl)
  unfold fX4_isFrom at h
  refine lv_iload_n hx hb dX4_isFrom_0 rfl (lv_at hl 1 rfl) ?_
  refine lv_istore_n (lv' := [(3, .int x1), (0, .ref (ad 1)), (1, .int x1), (2, .int x2)]) hx hb dX4_isFrom_1 rfl hl (by decide) rfl (fun ls hl => ?_)
  refine lv_iconst (v := 0) hx hb dX4_isFrom_2 (by decide +kernel) ?_
  refine lv_istore (lv' := [(4, .int (0 : Int32)), (3, .int x1), (0, .ref (ad 1)), (1, .int x1), (2, .int x2)]) hx hb dX4_isFrom_3 hl (by decide) rfl (fun ls hl => ?_)
  exact j5  _ _ _ _ _ _ _ h hI (lv_sub hl [2, 4, 1, 0] rfl)

set_option maxHeartbeats 4000000 in
set_option maxRecDepth 100000 in
theorem kX_X4_argumentWithoutImage (l : Launch) (D : va_G) (ad : Nat → Nat) (cI cZ : ClassId) (σ : tf_S) (x1 : Int32) (z : Int32 × tf_S) (h : fX4_argumentWithoutImage σ x1 = some z) : tf_C l D (tf_wx ad cI cZ) [(cI, .int), (cZ, .boolean)] tf_nest yX4_argumentWithoutImage wsX4_argumentWithoutImage ({ frames := 0, cells := 0, slots := 0, locals := 0 }) [.ref (ad 1), .int x1] σ z := by
  intro sz
  refine Met.ofW (cc := cX4_argumentWithoutImage) (maxL := 2) (ret := (some .int)) (by decide) rfl ?_
  intro p e s m args below meth c s₁ B hml hv
  obtain ⟨rfl, hsz, hP, hK, hN, hD0⟩ := hv
  have hx := B.exec
  have hb := B.bytes
  have hr := B.returns
  have hts := atoms_spec (ws := wsX4_argumentWithoutImage) B.pre
  have hown : s.vm.findClass RX4 = some m.cls := findClass_of_methodNamed B.named
  have hlocks := B.notSynchronized
  subst hsz
  have hI := tf_start (D := D) (tf_x_ad ad cI cZ) hP hD0
  have hl := lv_entry ([.ref (ad 1), .int x1]) (n := 2) (Nat.le_of_ble_eq_true rfl)
  rw [lg_entry_eq]
  generalize (lg_sl ([.ref (ad 1), .int x1]) ++ List.replicate (2 - (lg_sl ([.ref (ad 1), .int x1])).length) Slot.unset).toArray = ls at hl ⊢
  have hl : lv_has ls 2 [(0, .ref (ad 1)), (1, .int x1)] := hl
  have hn_X4 : ∀ w ∈ u_ws RX4 TX4 10, w ∈ wsX4_argumentWithoutImage := by decide +kernel
  have hf_28 := hts (.fieldLink RX4 28 "TypeFlow$Types" "first" "[I") (by decide +kernel)
  have hf_31 := hts (.fieldLink RX4 31 "TypeFlow$Types" "second" "[I") (by decide +kernel)
  have hf_37 := hts (.fieldLink RX4 37 "TypeFlow$Types" "image" "[I") (by decide +kernel)
  have j33 : ∀ (σ : tf_S) (H : Heap) (locs : List Loc) (ls : Array Slot), fX4_argumentWithoutImage_33 x1 σ = some z → tf_I D (tf_wx ad cI cZ) s.heap σ H locs → lv_has ls 2 [(0, .ref (ad 1)), (1, .int x1)] → W p l e (headSpec wsX4_argumentWithoutImage ({ frames := 0, cells := 0, slots := 0, locals := 0 })).room s m ([.ref (ad 1), .int x1] : List Value).toArray below meth c H locs 0 0 (tf_Q below D (tf_wx ad cI cZ) z ([.ref (ad 1), .int x1] : List Value).toArray s) (F0 m 33 ls []) := by
    intro σ H locs ls h hI hl
    unfold fX4_argumentWithoutImage_33 at h
    refine lv_aload_n hx hb dX4_argumentWithoutImage_33 rfl (lv_at hl 0 rfl) ?_
    refine tf_get (C := RX4) (T := TX4) (N := 10) hx hb hts hn_X4 hown hK hI 1 (tf_xat_1 ad cI cZ _) rfl 6 (by decide) hf_31 rfl rfl dX4_argumentWithoutImage_34 ?_
    refine lv_iload_n hx hb dX4_argumentWithoutImage_37 rfl (lv_at hl 1 rfl) ?_
    obtain ⟨b3, h⟩ := tf_gin h
    refine va_iald hx hb hK hI.1 11 0 (tf_xat_11 ad cI cZ _) rfl b3 dX4_argumentWithoutImage_38 ?_
    refine lv_bipush (v := 6) hx hb dX4_argumentWithoutImage_39 (by decide +kernel) ?_
    refine lv_icmp_lt (tgt := 66) hx hb dX4_argumentWithoutImage_41 (by decide) (fun c4 => ?_) (fun c4 => ?_)
    · replace h := tf_pos c4 h
      refine lv_iconst (v := -1) hx hb dX4_argumentWithoutImage_66 (by decide +kernel) ?_
      exact tf_iret hx hb hr hI h dX4_argumentWithoutImage_67 hlocks
    replace h := tf_neg c4 h
    refine lv_aload_n hx hb dX4_argumentWithoutImage_44 rfl (lv_at hl 0 rfl) ?_
    refine tf_get (C := RX4) (T := TX4) (N := 10) hx hb hts hn_X4 hown hK hI 1 (tf_xat_1 ad cI cZ _) rfl 8 (by decide) hf_37 rfl rfl dX4_argumentWithoutImage_45 ?_
    refine lv_aload_n hx hb dX4_argumentWithoutImage_48 rfl (lv_at hl 0 rfl) ?_
    refine tf_get (C := RX4) (T := TX4) (N := 10) hx hb hts hn_X4 hown hK hI 1 (tf_xat_1 ad cI cZ _) rfl 6 (by decide) hf_31 rfl rfl dX4_argumentWithoutImage_49 ?_
    refine lv_iload_n hx hb dX4_argumentWithoutImage_52 rfl (lv_at hl 1 rfl) ?_
    obtain ⟨b5, h⟩ := tf_gin h
    refine va_iald hx hb hK hI.1 11 0 (tf_xat_11 ad cI cZ _) rfl b5 dX4_argumentWithoutImage_53 ?_
    obtain ⟨b6, h⟩ := tf_gin h
    refine va_iald hx hb hK hI.1 13 0 (tf_xat_13 ad cI cZ _) rfl b6 dX4_argumentWithoutImage_54 ?_
    refine lv_iconst (v := -1) hx hb dX4_argumentWithoutImage_55 (by decide +kernel) ?_
    refine lv_icmp_ne (tgt := 66) hx hb dX4_argumentWithoutImage_56 (by decide) (fun c7 => ?_) (fun c7 => ?_)
    · replace h := tf_neg c7 h
      refine lv_iconst (v := -1) hx hb dX4_argumentWithoutImage_66 (by decide +kernel) ?_
      exact tf_iret hx hb hr hI h dX4_argumentWithoutImage_67 hlocks
    replace h := tf_pos c7 h
    refine lv_aload_n hx hb dX4_argumentWithoutImage_59 rfl (lv_at hl 0 rfl) ?_
    refine tf_get (C := RX4) (T := TX4) (N := 10) hx hb hts hn_X4 hown hK hI 1 (tf_xat_1 ad cI cZ _) rfl 6 (by decide) hf_31 rfl rfl dX4_argumentWithoutImage_60 ?_
    refine lv_iload_n hx hb dX4_argumentWithoutImage_63 rfl (lv_at hl 1 rfl) ?_
    obtain ⟨b8, h⟩ := tf_gin h
    refine va_iald hx hb hK hI.1 11 0 (tf_xat_11 ad cI cZ _) rfl b8 dX4_argumentWithoutImage_64 ?_
    exact tf_iret hx hb hr hI h dX4_argumentWithoutImage_65 hlocks
  unfold fX4_argumentWithoutImage at h
  refine lv_aload_n hx hb dX4_argumentWithoutImage_0 rfl (lv_at hl 0 rfl) ?_
  refine tf_get (C := RX4) (T := TX4) (N := 10) hx hb hts hn_X4 hown hK hI 1 (tf_xat_1 ad cI cZ _) rfl 5 (by decide) hf_28 rfl rfl dX4_argumentWithoutImage_1 ?_
  refine lv_iload_n hx hb dX4_argumentWithoutImage_4 rfl (lv_at hl 1 rfl) ?_
  obtain ⟨b1, h⟩ := tf_gin h
  refine va_iald hx hb hK hI.1 10 0 (tf_xat_10 ad cI cZ _) rfl b1 dX4_argumentWithoutImage_5 ?_
  refine lv_bipush (v := 6) hx hb dX4_argumentWithoutImage_6 (by decide +kernel) ?_
  refine lv_icmp_lt (tgt := 33) hx hb dX4_argumentWithoutImage_8 (by decide) (fun c2 => ?_) (fun c2 => ?_)
  · replace h := tf_pos c2 h
    exact j33  _ _ _ _ h hI (lv_sub hl [0, 1] rfl)
  replace h := tf_neg c2 h
  refine lv_aload_n hx hb dX4_argumentWithoutImage_11 rfl (lv_at hl 0 rfl) ?_
  refine tf_get (C := RX4) (T := TX4) (N := 10) hx hb hts hn_X4 hown hK hI 1 (tf_xat_1 ad cI cZ _) rfl 8 (by decide) hf_37 rfl rfl dX4_argumentWithoutImage_12 ?_
  refine lv_aload_n hx hb dX4_argumentWithoutImage_15 rfl (lv_at hl 0 rfl) ?_
  refine tf_get (C := RX4) (T := TX4) (N := 10) hx hb hts hn_X4 hown hK hI 1 (tf_xat_1 ad cI cZ _) rfl 5 (by decide) hf_28 rfl rfl dX4_argumentWithoutImage_16 ?_
  refine lv_iload_n hx hb dX4_argumentWithoutImage_19 rfl (lv_at hl 1 rfl) ?_
  obtain ⟨b9, h⟩ := tf_gin h
  refine va_iald hx hb hK hI.1 10 0 (tf_xat_10 ad cI cZ _) rfl b9 dX4_argumentWithoutImage_20 ?_
  obtain ⟨b10, h⟩ := tf_gin h
  refine va_iald hx hb hK hI.1 13 0 (tf_xat_13 ad cI cZ _) rfl b10 dX4_argumentWithoutImage_21 ?_
  refine lv_iconst (v := -1) hx hb dX4_argumentWithoutImage_22 (by decide +kernel) ?_
  refine lv_icmp_ne (tgt := 33) hx hb dX4_argumentWithoutImage_23 (by decide) (fun c11 => ?_) (fun c11 => ?_)
  · replace h := tf_neg c11 h
    exact j33  _ _ _ _ h hI (lv_sub hl [0, 1] rfl)
  replace h := tf_pos c11 h
  refine lv_aload_n hx hb dX4_argumentWithoutImage_26 rfl (lv_at hl 0 rfl) ?_
  refine tf_get (C := RX4) (T := TX4) (N := 10) hx hb hts hn_X4 hown hK hI 1 (tf_xat_1 ad cI cZ _) rfl 5 (by decide) hf_28 rfl rfl dX4_argumentWithoutImage_27 ?_
  refine lv_iload_n hx hb dX4_argumentWithoutImage_30 rfl (lv_at hl 1 rfl) ?_
  obtain ⟨b12, h⟩ := tf_gin h
  refine va_iald hx hb hK hI.1 10 0 (tf_xat_10 ad cI cZ _) rfl b12 dX4_argumentWithoutImage_31 ?_
  exact tf_iret hx hb hr hI h dX4_argumentWithoutImage_32 hlocks

set_option maxHeartbeats 4000000 in
set_option maxRecDepth 100000 in
theorem kX_X4_imageOf (l : Launch) (D : va_G) (ad : Nat → Nat) (cI cZ : ClassId) (σ : tf_S) (x1 : Int32) (z : Int32 × tf_S) (h : fX4_imageOf σ x1 = some z) : tf_C l D (tf_wx ad cI cZ) [(cI, .int), (cZ, .boolean)] tf_nest yX4_imageOf wsX4_imageOf ({ frames := 0, cells := 0, slots := 0, locals := 0 }) [.ref (ad 1), .int x1] σ z := by
  intro sz
  refine Met.ofW (cc := cX4_imageOf) (maxL := 2) (ret := (some .int)) (by decide) rfl ?_
  intro p e s m args below meth c s₁ B hml hv
  obtain ⟨rfl, hsz, hP, hK, hN, hD0⟩ := hv
  have hx := B.exec
  have hb := B.bytes
  have hr := B.returns
  have hts := atoms_spec (ws := wsX4_imageOf) B.pre
  have hown : s.vm.findClass RX4 = some m.cls := findClass_of_methodNamed B.named
  have hlocks := B.notSynchronized
  subst hsz
  have hI := tf_start (D := D) (tf_x_ad ad cI cZ) hP hD0
  have hl := lv_entry ([.ref (ad 1), .int x1]) (n := 2) (Nat.le_of_ble_eq_true rfl)
  rw [lg_entry_eq]
  generalize (lg_sl ([.ref (ad 1), .int x1]) ++ List.replicate (2 - (lg_sl ([.ref (ad 1), .int x1])).length) Slot.unset).toArray = ls at hl ⊢
  have hl : lv_has ls 2 [(0, .ref (ad 1)), (1, .int x1)] := hl
  have hn_X4 : ∀ w ∈ u_ws RX4 TX4 10, w ∈ wsX4_imageOf := by decide +kernel
  have hf_37 := hts (.fieldLink RX4 37 "TypeFlow$Types" "image" "[I") (by decide +kernel)
  unfold fX4_imageOf at h
  refine lv_iload_n hx hb dX4_imageOf_0 rfl (lv_at hl 1 rfl) ?_
  refine lv_iconst (v := -1) hx hb dX4_imageOf_1 (by decide +kernel) ?_
  refine lv_icmp_ne (tgt := 9) hx hb dX4_imageOf_2 (by decide) (fun c1 => ?_) (fun c1 => ?_)
  · replace h := tf_neg c1 h
    refine lv_aload_n hx hb dX4_imageOf_9 rfl (lv_at hl 0 rfl) ?_
    refine tf_get (C := RX4) (T := TX4) (N := 10) hx hb hts hn_X4 hown hK hI 1 (tf_xat_1 ad cI cZ _) rfl 8 (by decide) hf_37 rfl rfl dX4_imageOf_10 ?_
    refine lv_iload_n hx hb dX4_imageOf_13 rfl (lv_at hl 1 rfl) ?_
    obtain ⟨b2, h⟩ := tf_gin h
    refine va_iald hx hb hK hI.1 13 0 (tf_xat_13 ad cI cZ _) rfl b2 dX4_imageOf_14 ?_
    exact tf_iret hx hb hr hI h dX4_imageOf_15 hlocks
  replace h := tf_pos c1 h
  refine lv_iconst (v := -1) hx hb dX4_imageOf_5 (by decide +kernel) ?_
  refine lv_goto (tgt := 15) hx hb dX4_imageOf_6 (by decide) ?_
  exact tf_iret hx hb hr hI h dX4_imageOf_15 hlocks
