set_option maxHeartbeats 4000000 in
set_option maxRecDepth 100000 in
theorem kX_X3_lookAtBounds (l : Launch) (D : va_G) (ad : Nat → Nat) (cI cZ : ClassId) (σ : tf_S) (x1 : Int32) (z : Int32 × tf_S) (h : fX3_lookAtBounds σ x1 = some z) : tf_C l D (tf_wx ad cI cZ) [(cI, .int), (cZ, .boolean)] tf_nest yX3_lookAtBounds wsX3_lookAtBounds ({ frames := 4, cells := 0, slots := 0, locals := 99 }) [.ref (ad 6), .int x1] σ z := by
  intro sz
  refine Met.ofW (cc := cX3_lookAtBounds) (maxL := 5) (ret := (some .int)) (by decide) rfl ?_
  intro p e s m args below meth c s₁ B hml hv
  obtain ⟨rfl, hsz, hP, hK, hN, hD0⟩ := hv
  have hx := B.exec
  have hb := B.bytes
  have hr := B.returns
  have hts := atoms_spec (ws := wsX3_lookAtBounds) B.pre
  have hown : s.vm.findClass RX3 = some m.cls := findClass_of_methodNamed B.named
  have hlocks := B.notSynchronized
  subst hsz
  have hI := tf_start (D := D) (tf_x_ad ad cI cZ) hP hD0
  have hl := lv_entry ([.ref (ad 6), .int x1]) (n := 5) (Nat.le_of_ble_eq_true rfl)
  rw [lg_entry_eq]
  generalize (lg_sl ([.ref (ad 6), .int x1]) ++ List.replicate (5 - (lg_sl ([.ref (ad 6), .int x1])).length) Slot.unset).toArray = ls at hl ⊢
  have hl : lv_has ls 5 [(0, .ref (ad 6)), (1, .int x1)] := hl
  have hn_X0 : ∀ w ∈ u_ws RX0 TX0 5, w ∈ wsX3_lookAtBounds := by decide +kernel
  have hn_X3 : ∀ w ∈ u_ws RX3 TX3 7, w ∈ wsX3_lookAtBounds := by decide +kernel
  have hf_9 := hts (.fieldLink RX3 9 "TypeFlow$Putting" "bound" "[I") (by decide +kernel)
  have hf_28 := hts (.fieldLink RX3 28 "TypeFlow$Putting" "types" "LTypeFlow$Types;") (by decide +kernel)
  have hf_32 := hts (.fieldLink RX3 32 "TypeFlow$Putting" "functions" "LTypeFlow$Functions;") (by decide +kernel)
  have hf_98 := hts (.fieldLink RX3 98 "TypeFlow$Functions" "bounds" "[I") (by decide +kernel)
  have j2 : ∀ n : Nat, ∀ (σ : tf_S) (y2 : Int32) (H : Heap) (locs : List Loc) (ls : Array Slot), fX3_lookAtBounds_2 x1 n σ y2 = some z → tf_I D (tf_wx ad cI cZ) s.heap σ H locs → lv_has ls 5 [(0, .ref (ad 6)), (1, .int x1), (2, .int y2)] → W p l e (headSpec wsX3_lookAtBounds ({ frames := 4, cells := 0, slots := 0, locals := 99 })).room s m ([.ref (ad 6), .int x1] : List Value).toArray below meth c H locs 0 0 (tf_Q below D (tf_wx ad cI cZ) z ([.ref (ad 6), .int x1] : List Value).toArray s) (F0 m 2 ls []) := by
    intro n
    induction n with
    | zero =>
      intro σ y2 H locs ls h
      rw [fX3_lookAtBounds_2] at h
      cases h
    | succ n ih =>
      intro σ y2 H locs ls h hI hl
      rw [fX3_lookAtBounds_2] at h
      refine lv_iload_n hx hb dX3_lookAtBounds_2 rfl (lv_at hl 2 rfl) ?_
      refine lv_iconst (v := 2) hx hb dX3_lookAtBounds_3 (by decide +kernel) ?_
      refine lv_icmp_ge (tgt := 78) hx hb dX3_lookAtBounds_4 (by decide) (fun c1 => ?_) (fun c1 => ?_)
      · replace h := tf_pos c1 h
        refine lv_iconst (v := 0) hx hb dX3_lookAtBounds_78 (by decide +kernel) ?_
        exact tf_iret hx hb hr hI h dX3_lookAtBounds_79 hlocks
      replace h := tf_neg c1 h
      refine lv_aload_n hx hb dX3_lookAtBounds_7 rfl (lv_at hl 0 rfl) ?_
      refine tf_get (C := RX3) (T := TX3) (N := 7) hx hb hts hn_X3 hown hK hI 6 (tf_xat_6 ad cI cZ _) rfl 1 (by decide) hf_32 rfl rfl dX3_lookAtBounds_8 ?_
      refine tf_get (C := RX0) (T := TX0) (N := 5) hx hb hts hn_X0 hown hK hI 3 (tf_xat_3 ad cI cZ _) rfl 4 (by decide) hf_98 rfl rfl dX3_lookAtBounds_11 ?_
      refine lv_iload_n hx hb dX3_lookAtBounds_14 rfl (lv_at hl 1 rfl) ?_
      refine lv_iconst (v := 2) hx hb dX3_lookAtBounds_15 (by decide +kernel) ?_
      refine lv_imul hx hb dX3_lookAtBounds_16 ?_
      refine lv_iload_n hx hb dX3_lookAtBounds_17 rfl (lv_at hl 2 rfl) ?_
      refine lv_iadd hx hb dX3_lookAtBounds_18 ?_
      obtain ⟨b2, h⟩ := tf_gin h
      refine va_iald hx hb hK hI.1 20 0 (tf_xat_20 ad cI cZ _) rfl b2 dX3_lookAtBounds_19 ?_
      obtain ⟨v3, ev3, h⟩ := tf_glet h
      refine tf_top ev3 ?_
      refine lv_istore_n (lv' := [(3, .int v3), (0, .ref (ad 6)), (1, .int x1), (2, .int y2)]) hx hb dX3_lookAtBounds_20 rfl hl (by decide) rfl (fun ls hl => ?_)
      refine lv_aload_n hx hb dX3_lookAtBounds_21 rfl (lv_at hl 1 rfl) ?_
      refine tf_get (C := RX3) (T := TX3) (N := 7) hx hb hts hn_X3 hown hK hI 6 (tf_xat_6 ad cI cZ _) rfl 2 (by decide) hf_9 rfl rfl dX3_lookAtBounds_22 ?_
      refine lv_iload_n hx hb dX3_lookAtBounds_25 rfl (lv_at hl 3 rfl) ?_
      obtain ⟨b4, h⟩ := tf_gin h
      refine va_iald hx hb hK hI.1 31 0 (tf_xat_31 ad cI cZ _) rfl b4 dX3_lookAtBounds_26 ?_
      refine lv_iconst (v := -1) hx hb dX3_lookAtBounds_27 (by decide +kernel) ?_
      refine lv_icmp_eq (tgt := 72) hx hb dX3_lookAtBounds_28 (by decide) (fun c5 => ?_) (fun c5 => ?_)
      · replace h := tf_pos c5 h
        obtain ⟨v6, ev6, h⟩ := tf_glet h
        refine lv_iinc (v := v6) (lv' := [(2, .int v6), (3, .int v3), (0, .ref (ad 6)), (1, .int x1)]) hx hb dX3_lookAtBounds_72 hl (k := 3) rfl (by rw [ev6]; rfl) (by decide) rfl (fun ls hl => ?_)
        refine lv_goto (tgt := 2) hx hb dX3_lookAtBounds_75 (by decide) ?_
        exact ih _ _ _ _ _ h hI (lv_sub hl [2, 3, 0] rfl)
      replace h := tf_neg c5 h
      refine lv_iload_n hx hb dX3_lookAtBounds_31 rfl (lv_at hl 0 rfl) ?_
      refine lv_iconst (v := -1) hx hb dX3_lookAtBounds_32 (by decide +kernel) ?_
      refine lv_icmp_eq (tgt := 72) hx hb dX3_lookAtBounds_33 (by decide) (fun c7 => ?_) (fun c7 => ?_)
      · replace h := tf_pos c7 h
        obtain ⟨v8, ev8, h⟩ := tf_glet h
        refine lv_iinc (v := v8) (lv' := [(2, .int v8), (3, .int v3), (0, .ref (ad 6)), (1, .int x1)]) hx hb dX3_lookAtBounds_72 hl (k := 3) rfl (by rw [ev8]; rfl) (by decide) rfl (fun ls hl => ?_)
        refine lv_goto (tgt := 2) hx hb dX3_lookAtBounds_75 (by decide) ?_
        exact ih _ _ _ _ _ h hI (lv_sub hl [2, 3, 0] rfl)
      replace h := tf_neg c7 h
      refine lv_aload_n hx hb dX3_lookAtBounds_36 rfl (lv_at hl 1 rfl) ?_
      refine tf_get (C := RX3) (T := TX3) (N := 7) hx hb hts hn_X3 hown hK hI 6 (tf_xat_6 ad cI cZ _) rfl 0 (by decide) hf_28 rfl rfl dX3_lookAtBounds_37 ?_
      refine lv_aload_n hx hb dX3_lookAtBounds_40 rfl (lv_at hl 1 rfl) ?_
      refine tf_get (C := RX3) (T := TX3) (N := 7) hx hb hts hn_X3 hown hK hI 6 (tf_xat_6 ad cI cZ _) rfl 2 (by decide) hf_9 rfl rfl dX3_lookAtBounds_41 ?_
      refine lv_iload_n hx hb dX3_lookAtBounds_44 rfl (lv_at hl 3 rfl) ?_
      obtain ⟨b9, h⟩ := tf_gin h
      refine va_iald hx hb hK hI.1 31 0 (tf_xat_31 ad cI cZ _) rfl b9 dX3_lookAtBounds_45 ?_
      refine lv_iload_n hx hb dX3_lookAtBounds_46 rfl (lv_at hl 0 rfl) ?_
      obtain ⟨u10, q11, h⟩ := tf_gbind h
      refine tf_callV (rest := []) ⟨hx, hb, hml, hown, hts⟩ hK hN hI (kX_X4_goesFor l D ad cI cZ _ _ _ _ q11) (cwV 2 hts gX3_lookAtBounds_X4_goesFor rfl rfl rfl (by decide +kernel) ⟨Nat.le_of_ble_eq_true rfl, Nat.le_of_ble_eq_true rfl⟩) 1 4 (tf_xat_1 ad cI cZ _) rfl rfl hl.1 rfl (Nat.le_of_ble_eq_true rfl) dX3_lookAtBounds_47 (fun H locs hI => ?_)
      obtain ⟨v12, ev12, h⟩ := tf_glet h
      refine tf_top ev12 ?_
      refine lv_istore (lv' := [(4, .int v12), (3, .int v3), (0, .ref (ad 6)), (1, .int x1), (2, .int y2)]) hx hb dX3_lookAtBounds_50 hl (by decide) rfl (fun ls hl => ?_)
      refine lv_iload hx hb dX3_lookAtBounds_52 (lv_at hl 0 rfl) ?_
      refine lv_iconst (v := 1) hx hb dX3_lookAtBounds_54 (by decide +kernel) ?_
      refine lv_icmp_eq (tgt := 72) hx hb dX3_lookAtBounds_55 (by decide) (fun c13 => ?_) (fun c13 => ?_)
      · replace h := tf_pos c13 h
        obtain ⟨v14, ev14, h⟩ := tf_glet h
        refine lv_iinc (v := v14) (lv' := [(2, .int v14), (4, .int v12), (3, .int v3), (0, .ref (ad 6)), (1, .int x1)]) hx hb dX3_lookAtBounds_72 hl (k := 4) rfl (by rw [ev14]; rfl) (by decide) rfl (fun ls hl => ?_)
        refine lv_goto (tgt := 2) hx hb dX3_lookAtBounds_75 (by decide) ?_
        exact ih _ _ _ _ _ h hI (lv_sub hl [3, 4, 0] rfl)
      replace h := tf_neg c13 h
      refine lv_iload hx hb dX3_lookAtBounds_58 (lv_at hl 0 rfl) ?_
      refine lv_bipush (v := -3) hx hb dX3_lookAtBounds_60 (by decide +kernel) ?_
      refine lv_icmp_ne (tgt := 70) hx hb dX3_lookAtBounds_62 (by decide) (fun c15 => ?_) (fun c15 => ?_)
      · replace h := tf_neg c15 h
        refine lv_iconst (v := 3) hx hb dX3_lookAtBounds_70 (by decide +kernel) ?_
        exact tf_iret hx hb hr hI h dX3_lookAtBounds_71 hlocks
      replace h := tf_pos c15 h
      refine lv_bipush (v := 8) hx hb dX3_lookAtBounds_65 (by decide +kernel) ?_
      refine lv_goto (tgt := 71) hx hb dX3_lookAtBounds_67 (by decide) ?_
      exact tf_iret hx hb hr hI h dX3_lookAtBounds_71 hlocks
  unfold fX3_lookAtBounds at h
  refine lv_iconst (v := 0) hx hb dX3_lookAtBounds_0 (by decide +kernel) ?_
  refine lv_istore_n (lv' := [(2, .int (0 : Int32)), (0, .ref (ad 6)), (1, .int x1)]) hx hb dX3_lookAtBounds_1 rfl hl (by decide) rfl (fun ls hl => ?_)
  exact j2  _ _ _ _ _ _ h hI (lv_sub hl [1, 2, 0] rfl)

set_option maxHeartbeats 4000000 in
set_option maxRecDepth 100000 in
theorem kX_X3_isBoundWithin (l : Launch) (D : va_G) (ad : Nat → Nat) (cI cZ : ClassId) (σ : tf_S) (x1 : Int32) (z : Int32 × tf_S) (h : fX3_isBoundWithin σ x1 = some z) : tf_C l D (tf_wx ad cI cZ) [(cI, .int), (cZ, .boolean)] tf_nest yX3_isBoundWithin wsX3_isBoundWithin ({ frames := 0, cells := 0, slots := 0, locals := 0 }) [.ref (ad 6), .int x1] σ z := by
  intro sz
  refine Met.ofW (cc := cX3_isBoundWithin) (maxL := 3) (ret := (some .boolean)) (by decide) rfl ?_
  intro p e s m args below meth c s₁ B hml hv
  obtain ⟨rfl, hsz, hP, hK, hN, hD0⟩ := hv
  have hx := B.exec
  have hb := B.bytes
  have hr := B.returns
  have hts := atoms_spec (ws := wsX3_isBoundWithin) B.pre
  have hown : s.vm.findClass RX3 = some m.cls := findClass_of_methodNamed B.named
  have hlocks := B.notSynchronized
  subst hsz
  have hI := tf_start (D := D) (tf_x_ad ad cI cZ) hP hD0
  have hl := lv_entry ([.ref (ad 6), .int x1]) (n := 3) (Nat.le_of_ble_eq_true rfl)
  rw [lg_entry_eq]
  generalize (lg_sl ([.ref (ad 6), .int x1]) ++ List.replicate (3 - (lg_sl ([.ref (ad 6), .int x1])).length) Slot.unset).toArray = ls at hl ⊢
  have hl : lv_has ls 3 [(0, .ref (ad 6)), (1, .int x1)] := hl
  have hn_X3 : ∀ w ∈ u_ws RX3 TX3 7, w ∈ wsX3_isBoundWithin := by decide +kernel
  have hn_X4 : ∀ w ∈ u_ws RX4 TX4 10, w ∈ wsX3_isBoundWithin := by decide +kernel
  have hf_9 := hts (.fieldLink RX3 9 "TypeFlow$Putting" "bound" "[I") (by decide +kernel)
  have hf_28 := hts (.fieldLink RX3 28 "TypeFlow$Putting" "types" "LTypeFlow$Types;") (by decide +kernel)
  have hf_104 := hts (.fieldLink RX3 104 "TypeFlow$Types" "within" "[I") (by decide +kernel)
  have j30 : ∀ (σ : tf_S) (t0 t1 : Int32) (H : Heap) (locs : List Loc) (ls : Array Slot), fX3_isBoundWithin_30 x1 σ t0 t1 = some z → tf_I D (tf_wx ad cI cZ) s.heap σ H locs → lv_has ls 3 [(0, .ref (ad 6)), (1, .int x1)] → W p l e (headSpec wsX3_isBoundWithin ({ frames := 0, cells := 0, slots := 0, locals := 0 })).room s m ([.ref (ad 6), .int x1] : List Value).toArray below meth c H locs 0 0 (tf_Q below D (tf_wx ad cI cZ) z ([.ref (ad 6), .int x1] : List Value).toArray s) (F0 m 30 ls [.int t0, .int t1]) := by
    intro σ t0 t1 H locs ls h hI hl
    unfold fX3_isBoundWithin_30 at h
    refine lv_ior hx hb dX3_isBoundWithin_30 ?_
    obtain ⟨v5, ev5, h⟩ := tf_glet h
    refine tf_top ev5 ?_
    refine lv_istore_n (lv' := [(2, .int v5), (0, .ref (ad 6)), (1, .int x1)]) hx hb dX3_isBoundWithin_31 rfl hl (by decide) rfl (fun ls hl => ?_)
    refine lv_aload_n hx hb dX3_isBoundWithin_32 rfl (lv_at hl 1 rfl) ?_
    refine tf_get (C := RX3) (T := TX3) (N := 7) hx hb hts hn_X3 hown hK hI 6 (tf_xat_6 ad cI cZ _) rfl 0 (by decide) hf_28 rfl rfl dX3_isBoundWithin_33 ?_
    refine tf_get (C := RX4) (T := TX4) (N := 10) hx hb hts hn_X4 hown hK hI 1 (tf_xat_1 ad cI cZ _) rfl 7 (by decide) hf_104 rfl rfl dX3_isBoundWithin_36 ?_
    refine lv_iload_n hx hb dX3_isBoundWithin_39 rfl (lv_at hl 2 rfl) ?_
    obtain ⟨b6, h⟩ := tf_gin h
    refine va_iald hx hb hK hI.1 12 0 (tf_xat_12 ad cI cZ _) rfl b6 dX3_isBoundWithin_40 ?_
    refine lv_iload_n hx hb dX3_isBoundWithin_41 rfl (lv_at hl 0 rfl) ?_
    refine lv_iconst (v := -1) hx hb dX3_isBoundWithin_42 (by decide +kernel) ?_
    refine lv_ixor hx hb dX3_isBoundWithin_43 ?_
    refine lv_iand hx hb dX3_isBoundWithin_44 ?_
    refine lv_if_ne (tgt := 52) hx hb dX3_isBoundWithin_45 (by decide) (fun c7 => ?_) (fun c7 => ?_)
    · replace h := tf_neg c7 h
      refine lv_iconst (v := 0) hx hb dX3_isBoundWithin_52 (by decide +kernel) ?_
      exact tf_zret hx hb hr (Or.inl rfl) hI h dX3_isBoundWithin_53 hlocks
    replace h := tf_pos c7 h
    refine lv_iconst (v := 1) hx hb dX3_isBoundWithin_48 (by decide +kernel) ?_
    refine lv_goto (tgt := 53) hx hb dX3_isBoundWithin_49 (by decide) ?_
    exact tf_zret hx hb hr (Or.inr rfl) hI h dX3_isBoundWithin_53 hlocks
  unfold fX3_isBoundWithin at h
  refine lv_aload_n hx hb dX3_isBoundWithin_0 rfl (lv_at hl 0 rfl) ?_
  refine tf_get (C := RX3) (T := TX3) (N := 7) hx hb hts hn_X3 hown hK hI 6 (tf_xat_6 ad cI cZ _) rfl 2 (by decide) hf_9 rfl rfl dX3_isBoundWithin_1 ?_
  refine lv_iconst (v := 0) hx hb dX3_isBoundWithin_4 (by decide +kernel) ?_
  obtain ⟨b1, h⟩ := tf_gin h
  refine va_iald hx hb hK hI.1 31 0 (tf_xat_31 ad cI cZ _) rfl b1 dX3_isBoundWithin_5 ?_
  refine lv_iconst (v := -1) hx hb dX3_isBoundWithin_6 (by decide +kernel) ?_
  refine lv_icmp_ne (tgt := 14) hx hb dX3_isBoundWithin_7 (by decide) (fun c2 => ?_) (fun c2 => ?_)
  · replace h := tf_neg c2 h
    refine lv_iconst (v := 1) hx hb dX3_isBoundWithin_14 (by decide +kernel) ?_
    refine lv_aload_n hx hb dX3_isBoundWithin_15 rfl (lv_at hl 0 rfl) ?_
    refine tf_get (C := RX3) (T := TX3) (N := 7) hx hb hts hn_X3 hown hK hI 6 (tf_xat_6 ad cI cZ _) rfl 2 (by decide) hf_9 rfl rfl dX3_isBoundWithin_16 ?_
    refine lv_iconst (v := 1) hx hb dX3_isBoundWithin_19 (by decide +kernel) ?_
    obtain ⟨b3, h⟩ := tf_gin h
    refine va_iald hx hb hK hI.1 31 0 (tf_xat_31 ad cI cZ _) rfl b3 dX3_isBoundWithin_20 ?_
    refine lv_iconst (v := -1) hx hb dX3_isBoundWithin_21 (by decide +kernel) ?_
    refine lv_icmp_ne (tgt := 29) hx hb dX3_isBoundWithin_22 (by decide) (fun c4 => ?_) (fun c4 => ?_)
    · replace h := tf_neg c4 h
      refine lv_iconst (v := 2) hx hb dX3_isBoundWithin_29 (by decide +kernel) ?_
      exact j30  _ _ _ _ _ _ h hI (lv_sub hl [0, 1] rfl)
    replace h := tf_pos c4 h
    refine lv_iconst (v := 0) hx hb dX3_isBoundWithin_25 (by decide +kernel) ?_
    refine lv_goto (tgt := 30) hx hb dX3_isBoundWithin_26 (by decide) ?_
    exact j30  _ _ _ _ _ _ h hI (lv_sub hl [0, 1] rfl)
  replace h := tf_pos c2 h
  refine lv_iconst (v := 0) hx hb dX3_isBoundWithin_10 (by decide +kernel) ?_
  refine lv_goto (tgt := 15) hx hb dX3_isBoundWithin_11 (by decide) ?_
  refine lv_aload_n hx hb dX3_isBoundWithin_15 rfl (lv_at hl 0 rfl) ?_
  refine tf_get (C := RX3) (T := TX3) (N := 7) hx hb hts hn_X3 hown hK hI 6 (tf_xat_6 ad cI cZ _) rfl 2 (by decide) hf_9 rfl rfl dX3_isBoundWithin_16 ?_
  refine lv_iconst (v := 1) hx hb dX3_isBoundWithin_19 (by decide +kernel) ?_
  obtain ⟨b8, h⟩ := tf_gin h
  refine va_iald hx hb hK hI.1 31 0 (tf_xat_31 ad cI cZ _) rfl b8 dX3_isBoundWithin_20 ?_
  refine lv_iconst (v := -1) hx hb dX3_isBoundWithin_21 (by decide +kernel) ?_
  refine lv_icmp_ne (tgt := 29) hx hb dX3_isBoundWithin_22 (by decide) (fun c9 => ?_) (fun c9 => ?_)
  · replace h := tf_neg c9 h
    refine lv_iconst (v := 2) hx hb dX3_isBoundWithin_29 (by decide +kernel) ?_
    exact j30  _ _ _ _ _ _ h hI (lv_sub hl [0, 1] rfl)
  replace h := tf_pos c9 h
  refine lv_iconst (v := 0) hx hb dX3_isBoundWithin_25 (by decide +kernel) ?_
  refine lv_goto (tgt := 30) hx hb dX3_isBoundWithin_26 (by decide) ?_
  exact j30  _ _ _ _ _ _ h hI (lv_sub hl [0, 1] rfl)

set_option maxHeartbeats 4000000 in
set_option maxRecDepth 100000 in
theorem kX_X3_putTo (l : Launch) (D : va_G) (ad : Nat → Nat) (cI cZ : ClassId) (σ : tf_S) (x1 x2 x3 : Int32) (z : Int32 × tf_S) (h : fX3_putTo σ x1 x2 x3 = some z) : tf_C l D (tf_wx ad cI cZ) [(cI, .int), (cZ, .boolean)] tf_nest yX3_putTo wsX3_putTo ({ frames := 5, cells := 0, slots := 0, locals := 123 }) [.ref (ad 6), .int x1, .int x2, .int x3] σ z := by
  intro sz
  refine Met.ofW (cc := cX3_putTo) (maxL := 6) (ret := (some .int)) (by decide) rfl ?_
  intro p e s m args below meth c s₁ B hml hv
  obtain ⟨rfl, hsz, hP, hK, hN, hD0⟩ := hv
  have hx := B.exec
  have hb := B.bytes
  have hr := B.returns
  have hts := atoms_spec (ws := wsX3_putTo) B.pre
  have hown : s.vm.findClass RX3 = some m.cls := findClass_of_methodNamed B.named
  have hlocks := B.notSynchronized
  subst hsz
  have hI := tf_start (D := D) (tf_x_ad ad cI cZ) hP hD0
  have hl := lv_entry ([.ref (ad 6), .int x1, .int x2, .int x3]) (n := 6) (Nat.le_of_ble_eq_true rfl)
  rw [lg_entry_eq]
  generalize (lg_sl ([.ref (ad 6), .int x1, .int x2, .int x3]) ++ List.replicate (6 - (lg_sl ([.ref (ad 6), .int x1, .int x2, .int x3])).length) Slot.unset).toArray = ls at hl ⊢
  have hl : lv_has ls 6 [(0, .ref (ad 6)), (1, .int x1), (2, .int x2), (3, .int x3)] := hl
  have hn_X0 : ∀ w ∈ u_ws RX0 TX0 5, w ∈ wsX3_putTo := by decide +kernel
  have hn_X3 : ∀ w ∈ u_ws RX3 TX3 7, w ∈ wsX3_putTo := by decide +kernel
  have hf_9 := hts (.fieldLink RX3 9 "TypeFlow$Putting" "bound" "[I") (by decide +kernel)
  have hf_15 := hts (.fieldLink RX3 15 "TypeFlow$Putting" "fault" "I") (by decide +kernel)
  have hf_19 := hts (.fieldLink RX3 19 "TypeFlow$Putting" "alike" "[I") (by decide +kernel)
  have hf_28 := hts (.fieldLink RX3 28 "TypeFlow$Putting" "types" "LTypeFlow$Types;") (by decide +kernel)
  have hf_32 := hts (.fieldLink RX3 32 "TypeFlow$Putting" "functions" "LTypeFlow$Functions;") (by decide +kernel)
  have hf_42 := hts (.fieldLink RX3 42 "TypeFlow$Functions" "first" "[I") (by decide +kernel)
  have hf_51 := hts (.fieldLink RX3 51 "TypeFlow$Functions" "second" "[I") (by decide +kernel)
  have hf_58 := hts (.fieldLink RX3 58 "TypeFlow$Functions" "result" "[I") (by decide +kernel)
  have j112 : ∀ (σ : tf_S) (y4 : Int32) (H : Heap) (locs : List Loc) (ls : Array Slot), fX3_putTo_112 x1 x2 x3 σ y4 = some z → tf_I D (tf_wx ad cI cZ) s.heap σ H locs → lv_has ls 6 [(0, .ref (ad 6)), (4, .int y4)] → W p l e (headSpec wsX3_putTo ({ frames := 5, cells := 0, slots := 0, locals := 123 })).room s m ([.ref (ad 6), .int x1, .int x2, .int x3] : List Value).toArray below meth c H locs 0 0 (tf_Q below D (tf_wx ad cI cZ) z ([.ref (ad 6), .int x1, .int x2, .int x3] : List Value).toArray s) (F0 m 112 ls []) := by
    intro σ y4 H locs ls h hI hl
    unfold fX3_putTo_112 at h
    refine lv_aload_n hx hb dX3_putTo_112 rfl (lv_at hl 0 rfl) ?_
    refine tf_get (C := RX3) (T := TX3) (N := 7) hx hb hts hn_X3 hown hK hI 6 (tf_xat_6 ad cI cZ _) rfl 3 (by decide) hf_15 rfl rfl dX3_putTo_113 ?_
    refine lv_if_eq (tgt := 121) hx hb dX3_putTo_116 (by decide) (fun c12 => ?_) (fun c12 => ?_)
    · replace h := tf_pos c12 h
      refine lv_aload_n hx hb dX3_putTo_121 rfl (lv_at hl 0 rfl) ?_
      refine tf_get (C := RX3) (T := TX3) (N := 7) hx hb hts hn_X3 hown hK hI 6 (tf_xat_6 ad cI cZ _) rfl 0 (by decide) hf_28 rfl rfl dX3_putTo_122 ?_
      refine lv_iload hx hb dX3_putTo_125 (lv_at hl 1 rfl) ?_
      refine lv_aload_n hx hb dX3_putTo_127 rfl (lv_at hl 0 rfl) ?_
      refine tf_get (C := RX3) (T := TX3) (N := 7) hx hb hts hn_X3 hown hK hI 6 (tf_xat_6 ad cI cZ _) rfl 2 (by decide) hf_9 rfl rfl dX3_putTo_128 ?_
      refine lv_iconst (v := 0) hx hb dX3_putTo_131 (by decide +kernel) ?_
      obtain ⟨b13, h⟩ := tf_gin h
      refine va_iald hx hb hK hI.1 31 0 (tf_xat_31 ad cI cZ _) rfl b13 dX3_putTo_132 ?_
      refine lv_aload_n hx hb dX3_putTo_133 rfl (lv_at hl 0 rfl) ?_
      refine tf_get (C := RX3) (T := TX3) (N := 7) hx hb hts hn_X3 hown hK hI 6 (tf_xat_6 ad cI cZ _) rfl 2 (by decide) hf_9 rfl rfl dX3_putTo_134 ?_
      refine lv_iconst (v := 1) hx hb dX3_putTo_137 (by decide +kernel) ?_
      obtain ⟨b14, h⟩ := tf_gin h
      refine va_iald hx hb hK hI.1 31 0 (tf_xat_31 ad cI cZ _) rfl b14 dX3_putTo_138 ?_
      obtain ⟨u15, q16, h⟩ := tf_gbind h
      refine tf_callV (rest := []) ⟨hx, hb, hml, hown, hts⟩ hK hN hI (kX_X4_putIn l D ad cI cZ _ _ _ _ _ q16) (cwV 3 hts gX3_putTo_X4_putIn rfl rfl rfl (by decide +kernel) ⟨Nat.le_of_ble_eq_true rfl, Nat.le_of_ble_eq_true rfl⟩) 1 4 (tf_xat_1 ad cI cZ _) rfl rfl hl.1 rfl (Nat.le_of_ble_eq_true rfl) dX3_putTo_139 (fun H locs hI => ?_)
      obtain ⟨v17, ev17, h⟩ := tf_glet h
      refine tf_top ev17 ?_
      refine lv_istore (lv' := [(5, .int v17), (0, .ref (ad 6)), (4, .int y4)]) hx hb dX3_putTo_142 hl (by decide) rfl (fun ls hl => ?_)
      refine lv_aload_n hx hb dX3_putTo_144 rfl (lv_at hl 1 rfl) ?_
      refine lv_iload hx hb dX3_putTo_145 (lv_at hl 0 rfl) ?_
      refine lv_bipush (v := -3) hx hb dX3_putTo_147 (by decide +kernel) ?_
      refine lv_icmp_ne (tgt := 157) hx hb dX3_putTo_149 (by decide) (fun c18 => ?_) (fun c18 => ?_)
      · replace h := tf_neg c18 h
        refine lv_iconst (v := 0) hx hb dX3_putTo_157 (by decide +kernel) ?_
        obtain ⟨s19, es19, h⟩ := tf_glet h
        refine tf_put (C := RX3) (T := TX3) (N := 7) (ty := .int) hx hb hts hn_X3 tyX3 tyX3_ok nmX3 hown hK hI 6 (tf_xat_6 ad cI cZ _) rfl 3 (by decide) hf_15 rfl rfl (by decide +kernel) rfl rfl (Nat.le_of_ble_eq_true rfl) (tf_xput_6_3 ad cI cZ _ _) es19 dX3_putTo_158 (fun H locs hI => ?_)
        refine lv_iload hx hb dX3_putTo_161 (lv_at hl 0 rfl) ?_
        refine lv_bipush (v := -3) hx hb dX3_putTo_163 (by decide +kernel) ?_
        refine lv_icmp_ne (tgt := 172) hx hb dX3_putTo_165 (by decide) (fun c20 => ?_) (fun c20 => ?_)
        · replace h := tf_neg c20 h
          refine lv_iload hx hb dX3_putTo_172 (lv_at hl 0 rfl) ?_
          exact tf_iret hx hb hr hI h dX3_putTo_174 hlocks
        replace h := tf_pos c20 h
        refine lv_iconst (v := -1) hx hb dX3_putTo_168 (by decide +kernel) ?_
        refine lv_goto (tgt := 174) hx hb dX3_putTo_169 (by decide) ?_
        exact tf_iret hx hb hr hI h dX3_putTo_174 hlocks
      replace h := tf_pos c18 h
      refine lv_bipush (v := 8) hx hb dX3_putTo_152 (by decide +kernel) ?_
      refine lv_goto (tgt := 158) hx hb dX3_putTo_154 (by decide) ?_
      obtain ⟨s21, es21, h⟩ := tf_glet h
      refine tf_put (C := RX3) (T := TX3) (N := 7) (ty := .int) hx hb hts hn_X3 tyX3 tyX3_ok nmX3 hown hK hI 6 (tf_xat_6 ad cI cZ _) rfl 3 (by decide) hf_15 rfl rfl (by decide +kernel) rfl rfl (Nat.le_of_ble_eq_true rfl) (tf_xput_6_3 ad cI cZ _ _) es21 dX3_putTo_158 (fun H locs hI => ?_)
      refine lv_iload hx hb dX3_putTo_161 (lv_at hl 0 rfl) ?_
      refine lv_bipush (v := -3) hx hb dX3_putTo_163 (by decide +kernel) ?_
      refine lv_icmp_ne (tgt := 172) hx hb dX3_putTo_165 (by decide) (fun c22 => ?_) (fun c22 => ?_)
      · replace h := tf_neg c22 h
        refine lv_iload hx hb dX3_putTo_172 (lv_at hl 0 rfl) ?_
        exact tf_iret hx hb hr hI h dX3_putTo_174 hlocks
      replace h := tf_pos c22 h
      refine lv_iconst (v := -1) hx hb dX3_putTo_168 (by decide +kernel) ?_
      refine lv_goto (tgt := 174) hx hb dX3_putTo_169 (by decide) ?_
      exact tf_iret hx hb hr hI h dX3_putTo_174 hlocks
    replace h := tf_neg c12 h
    refine lv_iconst (v := -1) hx hb dX3_putTo_119 (by decide +kernel) ?_
    exact tf_iret hx hb hr hI h dX3_putTo_120 hlocks
  have j80 : ∀ (σ : tf_S) (H : Heap) (locs : List Loc) (ls : Array Slot), fX3_putTo_80 x1 x2 x3 σ = some z → tf_I D (tf_wx ad cI cZ) s.heap σ H locs → lv_has ls 6 [(0, .ref (ad 6)), (1, .int x1)] → W p l e (headSpec wsX3_putTo ({ frames := 5, cells := 0, slots := 0, locals := 123 })).room s m ([.ref (ad 6), .int x1, .int x2, .int x3] : List Value).toArray below meth c H locs 0 0 (tf_Q below D (tf_wx ad cI cZ) z ([.ref (ad 6), .int x1, .int x2, .int x3] : List Value).toArray s) (F0 m 80 ls []) := by
    intro σ H locs ls h hI hl
    unfold fX3_putTo_80 at h
    refine lv_aload_n hx hb dX3_putTo_80 rfl (lv_at hl 0 rfl) ?_
    refine tf_get (C := RX3) (T := TX3) (N := 7) hx hb hts hn_X3 hown hK hI 6 (tf_xat_6 ad cI cZ _) rfl 1 (by decide) hf_32 rfl rfl dX3_putTo_81 ?_
    refine tf_get (C := RX0) (T := TX0) (N := 5) hx hb hts hn_X0 hown hK hI 3 (tf_xat_3 ad cI cZ _) rfl 3 (by decide) hf_58 rfl rfl dX3_putTo_84 ?_
    refine lv_iload_n hx hb dX3_putTo_87 rfl (lv_at hl 1 rfl) ?_
    obtain ⟨b9, h⟩ := tf_gin h
    refine va_iald hx hb hK hI.1 19 0 (tf_xat_19 ad cI cZ _) rfl b9 dX3_putTo_88 ?_
    obtain ⟨v10, ev10, h⟩ := tf_glet h
    refine tf_top ev10 ?_
    refine lv_istore (lv' := [(4, .int v10), (0, .ref (ad 6)), (1, .int x1)]) hx hb dX3_putTo_89 hl (by decide) rfl (fun ls hl => ?_)
    refine lv_aload_n hx hb dX3_putTo_91 rfl (lv_at hl 1 rfl) ?_
    refine tf_get (C := RX3) (T := TX3) (N := 7) hx hb hts hn_X3 hown hK hI 6 (tf_xat_6 ad cI cZ _) rfl 3 (by decide) hf_15 rfl rfl dX3_putTo_92 ?_
    refine lv_if_ne (tgt := 112) hx hb dX3_putTo_95 (by decide) (fun c11 => ?_) (fun c11 => ?_)
    · replace h := tf_neg c11 h
      exact j112  _ _ _ _ _ h hI (lv_sub hl [1, 0] rfl)
    replace h := tf_pos c11 h
    refine lv_aload_n hx hb dX3_putTo_98 rfl (lv_at hl 1 rfl) ?_
    refine lv_iload hx hb dX3_putTo_99 (lv_at hl 0 rfl) ?_
    obtain ⟨u23, q24, h⟩ := tf_gbind h
    refine tf_callV (rest := []) ⟨hx, hb, hml, hown, hts⟩ hK hN hI (kX_X3_isBoundWithin l D ad cI cZ _ _ _ q24) (cwV 1 hts gX3_putTo_X3_isBoundWithin rfl rfl rfl (by decide +kernel) ⟨Nat.le_of_ble_eq_true rfl, Nat.le_of_ble_eq_true rfl⟩) 6 3 (tf_xat_6 ad cI cZ _) rfl rfl hl.1 rfl (Nat.le_of_ble_eq_true rfl) dX3_putTo_101 (fun H locs hI => ?_)
    refine lv_if_ne (tgt := 112) hx hb dX3_putTo_104 (by decide) (fun c25 => ?_) (fun c25 => ?_)
    · replace h := tf_neg c25 h
      exact j112  _ _ _ _ _ h hI (lv_sub hl [1, 0] rfl)
    replace h := tf_pos c25 h
    refine lv_aload_n hx hb dX3_putTo_107 rfl (lv_at hl 1 rfl) ?_
    refine lv_iconst (v := 4) hx hb dX3_putTo_108 (by decide +kernel) ?_
    obtain ⟨s26, es26, h⟩ := tf_glet h
    refine tf_put (C := RX3) (T := TX3) (N := 7) (ty := .int) hx hb hts hn_X3 tyX3 tyX3_ok nmX3 hown hK hI 6 (tf_xat_6 ad cI cZ _) rfl 3 (by decide) hf_15 rfl rfl (by decide +kernel) rfl rfl (Nat.le_of_ble_eq_true rfl) (tf_xput_6_3 ad cI cZ _ _) es26 dX3_putTo_109 (fun H locs hI => ?_)
    exact j112  _ _ _ _ _ h hI (lv_sub hl [1, 0] rfl)
  unfold fX3_putTo at h
  refine lv_aload_n hx hb dX3_putTo_0 rfl (lv_at hl 0 rfl) ?_
  refine tf_get (C := RX3) (T := TX3) (N := 7) hx hb hts hn_X3 hown hK hI 6 (tf_xat_6 ad cI cZ _) rfl 4 (by decide) hf_19 rfl rfl dX3_putTo_1 ?_
  refine lv_iconst (v := -1) hx hb dX3_putTo_4 (by decide +kernel) ?_
  obtain ⟨s1, es1, h⟩ := tf_glet h
  refine tf_fill (rest := []) ⟨hx, hb, hml, hown, hts⟩ hK hI 32 0 (tf_xat_32 ad cI cZ _) (tf_xset_32 ad cI cZ _) rfl (va_cwS 2 hts gX3_putTo_J7_fill_53178 rfl rfl rfl (by decide +kernel) ⟨Nat.le_of_ble_eq_true rfl, Nat.le_of_ble_eq_true rfl⟩) hl.1 (by decide) (Nat.le_of_ble_eq_true rfl) es1 dX3_putTo_5 (fun H locs hI => ?_)
  refine lv_aload_n hx hb dX3_putTo_8 rfl (lv_at hl 0 rfl) ?_
  refine tf_get (C := RX3) (T := TX3) (N := 7) hx hb hts hn_X3 hown hK hI 6 (tf_xat_6 ad cI cZ _) rfl 2 (by decide) hf_9 rfl rfl dX3_putTo_9 ?_
  refine lv_iconst (v := -1) hx hb dX3_putTo_12 (by decide +kernel) ?_
  obtain ⟨s2, es2, h⟩ := tf_glet h
  refine tf_fill (rest := []) ⟨hx, hb, hml, hown, hts⟩ hK hI 31 0 (tf_xat_31 ad cI cZ _) (tf_xset_31 ad cI cZ _) rfl (va_cwS 2 hts gX3_putTo_J7_fill_53178 rfl rfl rfl (by decide +kernel) ⟨Nat.le_of_ble_eq_true rfl, Nat.le_of_ble_eq_true rfl⟩) hl.1 (by decide) (Nat.le_of_ble_eq_true rfl) es2 dX3_putTo_13 (fun H locs hI => ?_)
  refine lv_aload_n hx hb dX3_putTo_16 rfl (lv_at hl 0 rfl) ?_
  refine lv_aload_n hx hb dX3_putTo_17 rfl (lv_at hl 0 rfl) ?_
  refine lv_aload_n hx hb dX3_putTo_18 rfl (lv_at hl 0 rfl) ?_
  refine tf_get (C := RX3) (T := TX3) (N := 7) hx hb hts hn_X3 hown hK hI 6 (tf_xat_6 ad cI cZ _) rfl 1 (by decide) hf_32 rfl rfl dX3_putTo_19 ?_
  refine tf_get (C := RX0) (T := TX0) (N := 5) hx hb hts hn_X0 hown hK hI 3 (tf_xat_3 ad cI cZ _) rfl 1 (by decide) hf_42 rfl rfl dX3_putTo_22 ?_
  refine lv_iload_n hx hb dX3_putTo_25 rfl (lv_at hl 1 rfl) ?_
  obtain ⟨b3, h⟩ := tf_gin h
  refine va_iald hx hb hK hI.1 17 0 (tf_xat_17 ad cI cZ _) rfl b3 dX3_putTo_26 ?_
  refine lv_iload_n hx hb dX3_putTo_27 rfl (lv_at hl 2 rfl) ?_
  obtain ⟨u4, q5, h⟩ := tf_gbind h
  refine tf_callV (rest := [.ref (ad 6)]) ⟨hx, hb, hml, hown, hts⟩ hK hN hI (kX_X3_take l D ad cI cZ _ _ _ _ q5) (cwV 2 hts gX3_putTo_X3_take rfl rfl rfl (by decide +kernel) ⟨Nat.le_of_ble_eq_true rfl, Nat.le_of_ble_eq_true rfl⟩) 6 3 (tf_xat_6 ad cI cZ _) rfl rfl hl.1 rfl (Nat.le_of_ble_eq_true rfl) dX3_putTo_28 (fun H locs hI => ?_)
  obtain ⟨s6, es6, h⟩ := tf_glet h
  refine tf_put (C := RX3) (T := TX3) (N := 7) (ty := .int) hx hb hts hn_X3 tyX3 tyX3_ok nmX3 hown hK hI 6 (tf_xat_6 ad cI cZ _) rfl 3 (by decide) hf_15 rfl rfl (by decide +kernel) rfl rfl (Nat.le_of_ble_eq_true rfl) (tf_xput_6_3 ad cI cZ _ _) es6 dX3_putTo_31 (fun H locs hI => ?_)
  refine lv_aload_n hx hb dX3_putTo_34 rfl (lv_at hl 0 rfl) ?_
  refine tf_get (C := RX3) (T := TX3) (N := 7) hx hb hts hn_X3 hown hK hI 6 (tf_xat_6 ad cI cZ _) rfl 3 (by decide) hf_15 rfl rfl dX3_putTo_35 ?_
  refine lv_if_ne (tgt := 64) hx hb dX3_putTo_38 (by decide) (fun c7 => ?_) (fun c7 => ?_)
  · replace h := tf_neg c7 h
    refine lv_aload_n hx hb dX3_putTo_64 rfl (lv_at hl 0 rfl) ?_
    refine tf_get (C := RX3) (T := TX3) (N := 7) hx hb hts hn_X3 hown hK hI 6 (tf_xat_6 ad cI cZ _) rfl 3 (by decide) hf_15 rfl rfl dX3_putTo_65 ?_
    refine lv_if_ne (tgt := 80) hx hb dX3_putTo_68 (by decide) (fun c8 => ?_) (fun c8 => ?_)
    · replace h := tf_neg c8 h
      exact j80  _ _ _ _ h hI (lv_sub hl [0, 1] rfl)
    replace h := tf_pos c8 h
    refine lv_aload_n hx hb dX3_putTo_71 rfl (lv_at hl 0 rfl) ?_
    refine lv_aload_n hx hb dX3_putTo_72 rfl (lv_at hl 0 rfl) ?_
    refine lv_iload_n hx hb dX3_putTo_73 rfl (lv_at hl 1 rfl) ?_
    obtain ⟨u27, q28, h⟩ := tf_gbind h
    refine tf_callV (rest := [.ref (ad 6)]) ⟨hx, hb, hml, hown, hts⟩ hK hN hI (kX_X3_lookAtBounds l D ad cI cZ _ _ _ q28) (cwV 1 hts gX3_putTo_X3_lookAtBounds rfl rfl rfl (by decide +kernel) ⟨Nat.le_of_ble_eq_true rfl, Nat.le_of_ble_eq_true rfl⟩) 6 3 (tf_xat_6 ad cI cZ _) rfl rfl hl.1 rfl (Nat.le_of_ble_eq_true rfl) dX3_putTo_74 (fun H locs hI => ?_)
    obtain ⟨s29, es29, h⟩ := tf_glet h
    refine tf_put (C := RX3) (T := TX3) (N := 7) (ty := .int) hx hb hts hn_X3 tyX3 tyX3_ok nmX3 hown hK hI 6 (tf_xat_6 ad cI cZ _) rfl 3 (by decide) hf_15 rfl rfl (by decide +kernel) rfl rfl (Nat.le_of_ble_eq_true rfl) (tf_xput_6_3 ad cI cZ _ _) es29 dX3_putTo_77 (fun H locs hI => ?_)
    exact j80  _ _ _ _ h hI (lv_sub hl [0, 1] rfl)
  replace h := tf_pos c7 h
  refine lv_iload_n hx hb dX3_putTo_41 rfl (lv_at hl 3 rfl) ?_
  refine lv_iconst (v := -1) hx hb dX3_putTo_42 (by decide +kernel) ?_
  refine lv_icmp_eq (tgt := 64) hx hb dX3_putTo_43 (by decide) (fun c30 => ?_) (fun c30 => ?_)
  · replace h := tf_pos c30 h
    refine lv_aload_n hx hb dX3_putTo_64 rfl (lv_at hl 0 rfl) ?_
    refine tf_get (C := RX3) (T := TX3) (N := 7) hx hb hts hn_X3 hown hK hI 6 (tf_xat_6 ad cI cZ _) rfl 3 (by decide) hf_15 rfl rfl dX3_putTo_65 ?_
    refine lv_if_ne (tgt := 80) hx hb dX3_putTo_68 (by decide) (fun c31 => ?_) (fun c31 => ?_)
    · replace h := tf_neg c31 h
      exact j80  _ _ _ _ h hI (lv_sub hl [0, 1] rfl)
    replace h := tf_pos c31 h
    refine lv_aload_n hx hb dX3_putTo_71 rfl (lv_at hl 0 rfl) ?_
    refine lv_aload_n hx hb dX3_putTo_72 rfl (lv_at hl 0 rfl) ?_
    refine lv_iload_n hx hb dX3_putTo_73 rfl (lv_at hl 1 rfl) ?_
    obtain ⟨u32, q33, h⟩ := tf_gbind h
    refine tf_callV (rest := [.ref (ad 6)]) ⟨hx, hb, hml, hown, hts⟩ hK hN hI (kX_X3_lookAtBounds l D ad cI cZ _ _ _ q33) (cwV 1 hts gX3_putTo_X3_lookAtBounds rfl rfl rfl (by decide +kernel) ⟨Nat.le_of_ble_eq_true rfl, Nat.le_of_ble_eq_true rfl⟩) 6 3 (tf_xat_6 ad cI cZ _) rfl rfl hl.1 rfl (Nat.le_of_ble_eq_true rfl) dX3_putTo_74 (fun H locs hI => ?_)
    obtain ⟨s34, es34, h⟩ := tf_glet h
    refine tf_put (C := RX3) (T := TX3) (N := 7) (ty := .int) hx hb hts hn_X3 tyX3 tyX3_ok nmX3 hown hK hI 6 (tf_xat_6 ad cI cZ _) rfl 3 (by decide) hf_15 rfl rfl (by decide +kernel) rfl rfl (Nat.le_of_ble_eq_true rfl) (tf_xput_6_3 ad cI cZ _ _) es34 dX3_putTo_77 (fun H locs hI => ?_)
    exact j80  _ _ _ _ h hI (lv_sub hl [0, 1] rfl)
  replace h := tf_neg c30 h
  refine lv_aload_n hx hb dX3_putTo_46 rfl (lv_at hl 0 rfl) ?_
  refine lv_aload_n hx hb dX3_putTo_47 rfl (lv_at hl 0 rfl) ?_
  refine lv_aload_n hx hb dX3_putTo_48 rfl (lv_at hl 0 rfl) ?_
  refine tf_get (C := RX3) (T := TX3) (N := 7) hx hb hts hn_X3 hown hK hI 6 (tf_xat_6 ad cI cZ _) rfl 1 (by decide) hf_32 rfl rfl dX3_putTo_49 ?_
  refine tf_get (C := RX0) (T := TX0) (N := 5) hx hb hts hn_X0 hown hK hI 3 (tf_xat_3 ad cI cZ _) rfl 2 (by decide) hf_51 rfl rfl dX3_putTo_52 ?_
  refine lv_iload_n hx hb dX3_putTo_55 rfl (lv_at hl 1 rfl) ?_
  obtain ⟨b35, h⟩ := tf_gin h
  refine va_iald hx hb hK hI.1 18 0 (tf_xat_18 ad cI cZ _) rfl b35 dX3_putTo_56 ?_
  refine lv_iload_n hx hb dX3_putTo_57 rfl (lv_at hl 3 rfl) ?_
  obtain ⟨u36, q37, h⟩ := tf_gbind h
  refine tf_callV (rest := [.ref (ad 6)]) ⟨hx, hb, hml, hown, hts⟩ hK hN hI (kX_X3_take l D ad cI cZ _ _ _ _ q37) (cwV 2 hts gX3_putTo_X3_take rfl rfl rfl (by decide +kernel) ⟨Nat.le_of_ble_eq_true rfl, Nat.le_of_ble_eq_true rfl⟩) 6 3 (tf_xat_6 ad cI cZ _) rfl rfl hl.1 rfl (Nat.le_of_ble_eq_true rfl) dX3_putTo_58 (fun H locs hI => ?_)
  obtain ⟨s38, es38, h⟩ := tf_glet h
  refine tf_put (C := RX3) (T := TX3) (N := 7) (ty := .int) hx hb hts hn_X3 tyX3 tyX3_ok nmX3 hown hK hI 6 (tf_xat_6 ad cI cZ _) rfl 3 (by decide) hf_15 rfl rfl (by decide +kernel) rfl rfl (Nat.le_of_ble_eq_true rfl) (tf_xput_6_3 ad cI cZ _ _) es38 dX3_putTo_61 (fun H locs hI => ?_)
  refine lv_aload_n hx hb dX3_putTo_64 rfl (lv_at hl 0 rfl) ?_
  refine tf_get (C := RX3) (T := TX3) (N := 7) hx hb hts hn_X3 hown hK hI 6 (tf_xat_6 ad cI cZ _) rfl 3 (by decide) hf_15 rfl rfl dX3_putTo_65 ?_
  refine lv_if_ne (tgt := 80) hx hb dX3_putTo_68 (by decide) (fun c39 => ?_) (fun c39 => ?_)
  · replace h := tf_neg c39 h
    exact j80  _ _ _ _ h hI (lv_sub hl [0, 1] rfl)
  replace h := tf_pos c39 h
  refine lv_aload_n hx hb dX3_putTo_71 rfl (lv_at hl 0 rfl) ?_
  refine lv_aload_n hx hb dX3_putTo_72 rfl (lv_at hl 0 rfl) ?_
  refine lv_iload_n hx hb dX3_putTo_73 rfl (lv_at hl 1 rfl) ?_
  obtain ⟨u40, q41, h⟩ := tf_gbind h
  refine tf_callV (rest := [.ref (ad 6)]) ⟨hx, hb, hml, hown, hts⟩ hK hN hI (kX_X3_lookAtBounds l D ad cI cZ _ _ _ q41) (cwV 1 hts gX3_putTo_X3_lookAtBounds rfl rfl rfl (by decide +kernel) ⟨Nat.le_of_ble_eq_true rfl, Nat.le_of_ble_eq_true rfl⟩) 6 3 (tf_xat_6 ad cI cZ _) rfl rfl hl.1 rfl (Nat.le_of_ble_eq_true rfl) dX3_putTo_74 (fun H locs hI => ?_)
  obtain ⟨s42, es42, h⟩ := tf_glet h
  refine tf_put (C := RX3) (T := TX3) (N := 7) (ty := .int) hx hb hts hn_X3 tyX3 tyX3_ok nmX3 hown hK hI 6 (tf_xat_6 ad cI cZ _) rfl 3 (by decide) hf_15 rfl rfl (by decide +kernel) rfl rfl (Nat.le_of_ble_eq_true rfl) (tf_xput_6_3 ad cI cZ _ _) es42 dX3_putTo_77 (fun H locs hI => ?_)
  exact j80  _ _ _ _ h hI (lv_sub hl [0, 1] rfl)

set_option maxHeartbeats 4000000 in
set_option maxRecDepth 100000 in
theorem kX_X4_isClass (l : Launch) (D : va_G) (ad : Nat → Nat) (cI cZ : ClassId) (σ : tf_S) (x1 : Int32) (z : Int32 × tf_S) (h : fX4_isClass σ x1 = some z) : tf_C l D (tf_wx ad cI cZ) [(cI, .int), (cZ, .boolean)] tf_nest yX4_isClass wsX4_isClass ({ frames := 0, cells := 0, slots := 0, locals := 0 }) [.ref (ad 1), .int x1] σ z := by
  intro sz
  refine Met.ofW (cc := cX4_isClass) (maxL := 2) (ret := (some .boolean)) (by decide) rfl ?_
  intro p e s m args below meth c s₁ B hml hv
  obtain ⟨rfl, hsz, hP, hK, hN, hD0⟩ := hv
  have hx := B.exec
  have hb := B.bytes
  have hr := B.returns
  have hts := atoms_spec (ws := wsX4_isClass) B.pre
  have hown : s.vm.findClass RX4 = some m.cls := findClass_of_methodNamed B.named
  have hlocks := B.notSynchronized
  subst hsz
  have hI := tf_start (D := D) (tf_x_ad ad cI cZ) hP hD0
  have hl := lv_entry ([.ref (ad 1), .int x1]) (n := 2) (Nat.le_of_ble_eq_true rfl)
  rw [lg_entry_eq]
  generalize (lg_sl ([.ref (ad 1), .int x1]) ++ List.replicate (2 - (lg_sl ([.ref (ad 1), .int x1])).length) Slot.unset).toArray = ls at hl ⊢
  have hl : lv_has ls 2 [(0, .ref (ad 1)), (1, .int x1)] := hl
  have hn_X4 : ∀ w ∈ u_ws RX4 TX4 10, w ∈ wsX4_isClass := by decide +kernel
  have hf_9 := hts (.fieldLink RX4 9 "TypeFlow$Types" "classes" "I") (by decide +kernel)
  unfold fX4_isClass at h
  refine lv_iload_n hx hb dX4_isClass_0 rfl (lv_at hl 1 rfl) ?_
  refine lv_if_lt (tgt := 16) hx hb dX4_isClass_1 (by decide) (fun c1 => ?_) (fun c1 => ?_)
  · replace h := tf_pos c1 h
    refine lv_iconst (v := 0) hx hb dX4_isClass_16 (by decide +kernel) ?_
    exact tf_zret hx hb hr (Or.inl rfl) hI h dX4_isClass_17 hlocks
  replace h := tf_neg c1 h
  refine lv_iload_n hx hb dX4_isClass_4 rfl (lv_at hl 1 rfl) ?_
  refine lv_aload_n hx hb dX4_isClass_5 rfl (lv_at hl 0 rfl) ?_
  refine tf_get (C := RX4) (T := TX4) (N := 10) hx hb hts hn_X4 hown hK hI 1 (tf_xat_1 ad cI cZ _) rfl 0 (by decide) hf_9 rfl rfl dX4_isClass_6 ?_
  refine lv_icmp_ge (tgt := 16) hx hb dX4_isClass_9 (by decide) (fun c2 => ?_) (fun c2 => ?_)
  · replace h := tf_pos c2 h
    refine lv_iconst (v := 0) hx hb dX4_isClass_16 (by decide +kernel) ?_
    exact tf_zret hx hb hr (Or.inl rfl) hI h dX4_isClass_17 hlocks
  replace h := tf_neg c2 h
  refine lv_iconst (v := 1) hx hb dX4_isClass_12 (by decide +kernel) ?_
  refine lv_goto (tgt := 17) hx hb dX4_isClass_13 (by decide) ?_
  exact tf_zret hx hb hr (Or.inr rfl) hI h dX4_isClass_17 hlocks

set_option maxHeartbeats 4000000 in
set_option maxRecDepth 100000 in
theorem kX_X4_isType (l : Launch) (D : va_G) (ad : Nat → Nat) (cI cZ : ClassId) (σ : tf_S) (x1 : Int32) (z : Int32 × tf_S) (h : fX4_isType σ x1 = some z) : tf_C l D (tf_wx ad cI cZ) [(cI, .int), (cZ, .boolean)] tf_nest yX4_isType wsX4_isType ({ frames := 0, cells := 0, slots := 0, locals := 0 }) [.ref (ad 1), .int x1] σ z := by
  intro sz
  refine Met.ofW (cc := cX4_isType) (maxL := 2) (ret := (some .boolean)) (by decide) rfl ?_
  intro p e s m args below meth c s₁ B hml hv
  obtain ⟨rfl, hsz, hP, hK, hN, hD0⟩ := hv
  have hx := B.exec
  have hb := B.bytes
  have hr := B.returns
  have hts := atoms_spec (ws := wsX4_isType) B.pre
  have hown : s.vm.findClass RX4 = some m.cls := findClass_of_methodNamed B.named
  have hlocks := B.notSynchronized
  subst hsz
  have hI := tf_start (D := D) (tf_x_ad ad cI cZ) hP hD0
  have hl := lv_entry ([.ref (ad 1), .int x1]) (n := 2) (Nat.le_of_ble_eq_true rfl)
  rw [lg_entry_eq]
  generalize (lg_sl ([.ref (ad 1), .int x1]) ++ List.replicate (2 - (lg_sl ([.ref (ad 1), .int x1])).length) Slot.unset).toArray = ls at hl ⊢
  have hl : lv_has ls 2 [(0, .ref (ad 1)), (1, .int x1)] := hl
  have hn_X4 : ∀ w ∈ u_ws RX4 TX4 10, w ∈ wsX4_isType := by decide +kernel
  have hf_22 := hts (.fieldLink RX4 22 "TypeFlow$Types" "size" "I") (by decide +kernel)
  unfold fX4_isType at h
  refine lv_iload_n hx hb dX4_isType_0 rfl (lv_at hl 1 rfl) ?_
  refine lv_if_lt (tgt := 16) hx hb dX4_isType_1 (by decide) (fun c1 => ?_) (fun c1 => ?_)
  · replace h := tf_pos c1 h
    refine lv_iconst (v := 0) hx hb dX4_isType_16 (by decide +kernel) ?_
    exact tf_zret hx hb hr (Or.inl rfl) hI h dX4_isType_17 hlocks
  replace h := tf_neg c1 h
  refine lv_iload_n hx hb dX4_isType_4 rfl (lv_at hl 1 rfl) ?_
  refine lv_aload_n hx hb dX4_isType_5 rfl (lv_at hl 0 rfl) ?_
  refine tf_get (C := RX4) (T := TX4) (N := 10) hx hb hts hn_X4 hown hK hI 1 (tf_xat_1 ad cI cZ _) rfl 3 (by decide) hf_22 rfl rfl dX4_isType_6 ?_
  refine lv_icmp_ge (tgt := 16) hx hb dX4_isType_9 (by decide) (fun c2 => ?_) (fun c2 => ?_)
  · replace h := tf_pos c2 h
    refine lv_iconst (v := 0) hx hb dX4_isType_16 (by decide +kernel) ?_
    exact tf_zret hx hb hr (Or.inl rfl) hI h dX4_isType_17 hlocks
  replace h := tf_neg c2 h
  refine lv_iconst (v := 1) hx hb dX4_isType_12 (by decide +kernel) ?_
  refine lv_goto (tgt := 17) hx hb dX4_isType_13 (by decide) ?_
  exact tf_zret hx hb hr (Or.inr rfl) hI h dX4_isType_17 hlocks

set_option maxHeartbeats 4000000 in
set_option maxRecDepth 100000 in
theorem kX_X4_isClassType (l : Launch) (D : va_G) (ad : Nat → Nat) (cI cZ : ClassId) (σ : tf_S) (x1 : Int32) (z : Int32 × tf_S) (h : fX4_isClassType σ x1 = some z) : tf_C l D (tf_wx ad cI cZ) [(cI, .int), (cZ, .boolean)] tf_nest yX4_isClassType wsX4_isClassType ({ frames := 0, cells := 0, slots := 0, locals := 0 }) [.ref (ad 1), .int x1] σ z := by
  intro sz
  refine Met.ofW (cc := cX4_isClassType) (maxL := 2) (ret := (some .boolean)) (by decide) rfl ?_
  intro p e s m args below meth c s₁ B hml hv
  obtain ⟨rfl, hsz, hP, hK, hN, hD0⟩ := hv
  have hx := B.exec
  have hb := B.bytes
  have hr := B.returns
  have hts := atoms_spec (ws := wsX4_isClassType) B.pre
  have hown : s.vm.findClass RX4 = some m.cls := findClass_of_methodNamed B.named
  have hlocks := B.notSynchronized
  subst hsz
  have hI := tf_start (D := D) (tf_x_ad ad cI cZ) hP hD0
  have hl := lv_entry ([.ref (ad 1), .int x1]) (n := 2) (Nat.le_of_ble_eq_true rfl)
  rw [lg_entry_eq]
  generalize (lg_sl ([.ref (ad 1), .int x1]) ++ List.replicate (2 - (lg_sl ([.ref (ad 1), .int x1])).length) Slot.unset).toArray = ls at hl ⊢
  have hl : lv_has ls 2 [(0, .ref (ad 1)), (1, .int x1)] := hl
  have hn_X4 : ∀ w ∈ u_ws RX4 TX4 10, w ∈ wsX4_isClassType := by decide +kernel
  have hf_22 := hts (.fieldLink RX4 22 "TypeFlow$Types" "size" "I") (by decide +kernel)
  unfold fX4_isClassType at h
  refine lv_iload_n hx hb dX4_isClassType_0 rfl (lv_at hl 1 rfl) ?_
  refine lv_bipush (v := 6) hx hb dX4_isClassType_1 (by decide +kernel) ?_
  refine lv_icmp_lt (tgt := 18) hx hb dX4_isClassType_3 (by decide) (fun c1 => ?_) (fun c1 => ?_)
  · replace h := tf_pos c1 h
    refine lv_iconst (v := 0) hx hb dX4_isClassType_18 (by decide +kernel) ?_
    exact tf_zret hx hb hr (Or.inl rfl) hI h dX4_isClassType_19 hlocks
  replace h := tf_neg c1 h
  refine lv_iload_n hx hb dX4_isClassType_6 rfl (lv_at hl 1 rfl) ?_
  refine lv_aload_n hx hb dX4_isClassType_7 rfl (lv_at hl 0 rfl) ?_
  refine tf_get (C := RX4) (T := TX4) (N := 10) hx hb hts hn_X4 hown hK hI 1 (tf_xat_1 ad cI cZ _) rfl 3 (by decide) hf_22 rfl rfl dX4_isClassType_8 ?_
  refine lv_icmp_ge (tgt := 18) hx hb dX4_isClassType_11 (by decide) (fun c2 => ?_) (fun c2 => ?_)
  · replace h := tf_pos c2 h
    refine lv_iconst (v := 0) hx hb dX4_isClassType_18 (by decide +kernel) ?_
    exact tf_zret hx hb hr (Or.inl rfl) hI h dX4_isClassType_19 hlocks
  replace h := tf_neg c2 h
  refine lv_iconst (v := 1) hx hb dX4_isClassType_14 (by decide +kernel) ?_
  refine lv_goto (tgt := 19) hx hb dX4_isClassType_15 (by decide) ?_
  exact tf_zret hx hb hr (Or.inr rfl) hI h dX4_isClassType_19 hlocks

set_option maxHeartbeats 4000000 in
set_option maxRecDepth 100000 in
theorem kX_X4_isArgument (l : Launch) (D : va_G) (ad : Nat → Nat) (cI cZ : ClassId) (σ : tf_S) (x1 : Int32) (z : Int32 × tf_S) (h : fX4_isArgument σ x1 = some z) : tf_C l D (tf_wx ad cI cZ) [(cI, .int), (cZ, .boolean)] tf_nest yX4_isArgument wsX4_isArgument ({ frames := 0, cells := 0, slots := 0, locals := 0 }) [.ref (ad 1), .int x1] σ z := by
  intro sz
  refine Met.ofW (cc := cX4_isArgument) (maxL := 2) (ret := (some .boolean)) (by decide) rfl ?_
  intro p e s m args below meth c s₁ B hml hv
  obtain ⟨rfl, hsz, hP, hK, hN, hD0⟩ := hv
  have hx := B.exec
  have hb := B.bytes
  have hr := B.returns
  have hts := atoms_spec (ws := wsX4_isArgument) B.pre
  have hown : s.vm.findClass RX4 = some m.cls := findClass_of_methodNamed B.named
  have hlocks := B.notSynchronized
  subst hsz
  have hI := tf_start (D := D) (tf_x_ad ad cI cZ) hP hD0
  have hl := lv_entry ([.ref (ad 1), .int x1]) (n := 2) (Nat.le_of_ble_eq_true rfl)
  rw [lg_entry_eq]
  generalize (lg_sl ([.ref (ad 1), .int x1]) ++ List.replicate (2 - (lg_sl ([.ref (ad 1), .int x1])).length) Slot.unset).toArray = ls at hl ⊢
  have hl : lv_has ls 2 [(0, .ref (ad 1)), (1, .int x1)] := hl
  have hn_X4 : ∀ w ∈ u_ws RX4 TX4 10, w ∈ wsX4_isArgument := by decide +kernel
  have hf_22 := hts (.fieldLink RX4 22 "TypeFlow$Types" "size" "I") (by decide +kernel)
  unfold fX4_isArgument at h
  refine lv_iload_n hx hb dX4_isArgument_0 rfl (lv_at hl 1 rfl) ?_
  refine lv_iconst (v := 4) hx hb dX4_isArgument_1 (by decide +kernel) ?_
  refine lv_icmp_lt (tgt := 17) hx hb dX4_isArgument_2 (by decide) (fun c1 => ?_) (fun c1 => ?_)
  · replace h := tf_pos c1 h
    refine lv_iconst (v := 0) hx hb dX4_isArgument_17 (by decide +kernel) ?_
    exact tf_zret hx hb hr (Or.inl rfl) hI h dX4_isArgument_18 hlocks
  replace h := tf_neg c1 h
  refine lv_iload_n hx hb dX4_isArgument_5 rfl (lv_at hl 1 rfl) ?_
  refine lv_aload_n hx hb dX4_isArgument_6 rfl (lv_at hl 0 rfl) ?_
  refine tf_get (C := RX4) (T := TX4) (N := 10) hx hb hts hn_X4 hown hK hI 1 (tf_xat_1 ad cI cZ _) rfl 3 (by decide) hf_22 rfl rfl dX4_isArgument_7 ?_
  refine lv_icmp_ge (tgt := 17) hx hb dX4_isArgument_10 (by decide) (fun c2 => ?_) (fun c2 => ?_)
  · replace h := tf_pos c2 h
    refine lv_iconst (v := 0) hx hb dX4_isArgument_17 (by decide +kernel) ?_
    exact tf_zret hx hb hr (Or.inl rfl) hI h dX4_isArgument_18 hlocks
  replace h := tf_neg c2 h
  refine lv_iconst (v := 1) hx hb dX4_isArgument_13 (by decide +kernel) ?_
  refine lv_goto (tgt := 18) hx hb dX4_isArgument_14 (by decide) ?_
  exact tf_zret hx hb hr (Or.inr rfl) hI h dX4_isArgument_18 hlocks

set_option maxHeartbeats 4000000 in
set_option maxRecDepth 100000 in
theorem kX_X4_isClosed (l : Launch) (D : va_G) (ad : Nat → Nat) (cI cZ : ClassId) (σ : tf_S) (x1 : Int32) (z : Int32 × tf_S) (h : fX4_isClosed σ x1 = some z) : tf_C l D (tf_wx ad cI cZ) [(cI, .int), (cZ, .boolean)] tf_nest yX4_isClosed wsX4_isClosed ({ frames := 1, cells := 0, slots := 0, locals := 21 }) [.ref (ad 1), .int x1] σ z := by
  intro sz
  refine Met.ofW (cc := cX4_isClosed) (maxL := 2) (ret := (some .boolean)) (by decide) rfl ?_
  intro p e s m args below meth c s₁ B hml hv
  obtain ⟨rfl, hsz, hP, hK, hN, hD0⟩ := hv
  have hx := B.exec
  have hb := B.bytes
  have hr := B.returns
  have hts := atoms_spec (ws := wsX4_isClosed) B.pre
  have hown : s.vm.findClass RX4 = some m.cls := findClass_of_methodNamed B.named
  have hlocks := B.notSynchronized
  subst hsz
  have hI := tf_start (D := D) (tf_x_ad ad cI cZ) hP hD0
  have hl := lv_entry ([.ref (ad 1), .int x1]) (n := 2) (Nat.le_of_ble_eq_true rfl)
  rw [lg_entry_eq]
  generalize (lg_sl ([.ref (ad 1), .int x1]) ++ List.replicate (2 - (lg_sl ([.ref (ad 1), .int x1])).length) Slot.unset).toArray = ls at hl ⊢
  have hl : lv_has ls 2 [(0, .ref (ad 1)), (1, .int x1)] := hl
  have hn_X4 : ∀ w ∈ u_ws RX4 TX4 10, w ∈ wsX4_isClosed := by decide +kernel
  have hf_34 := hts (.fieldLink RX4 34 "TypeFlow$Types" "within" "[I") (by decide +kernel)
  unfold fX4_isClosed at h
  refine lv_aload_n hx hb dX4_isClosed_0 rfl (lv_at hl 0 rfl) ?_
  refine lv_iload_n hx hb dX4_isClosed_1 rfl (lv_at hl 1 rfl) ?_
  obtain ⟨u1, q2, h⟩ := tf_gbind h
  refine tf_callV (rest := []) ⟨hx, hb, hml, hown, hts⟩ hK hN hI (kX_X4_isType l D ad cI cZ _ _ _ q2) (cwV 1 hts gX4_isClosed_X4_isType rfl rfl rfl (by decide +kernel) ⟨Nat.le_of_ble_eq_true rfl, Nat.le_of_ble_eq_true rfl⟩) 1 4 (tf_xat_1 ad cI cZ _) rfl rfl hl.1 rfl (Nat.le_of_ble_eq_true rfl) dX4_isClosed_2 (fun H locs hI => ?_)
  refine lv_if_eq (tgt := 21) hx hb dX4_isClosed_5 (by decide) (fun c3 => ?_) (fun c3 => ?_)
  · replace h := tf_pos c3 h
    refine lv_iconst (v := 0) hx hb dX4_isClosed_21 (by decide +kernel) ?_
    exact tf_zret hx hb hr (Or.inl rfl) hI h dX4_isClosed_22 hlocks
  replace h := tf_neg c3 h
  refine lv_aload_n hx hb dX4_isClosed_8 rfl (lv_at hl 0 rfl) ?_
  refine tf_get (C := RX4) (T := TX4) (N := 10) hx hb hts hn_X4 hown hK hI 1 (tf_xat_1 ad cI cZ _) rfl 7 (by decide) hf_34 rfl rfl dX4_isClosed_9 ?_
  refine lv_iload_n hx hb dX4_isClosed_12 rfl (lv_at hl 1 rfl) ?_
  obtain ⟨b4, h⟩ := tf_gin h
  refine va_iald hx hb hK hI.1 12 0 (tf_xat_12 ad cI cZ _) rfl b4 dX4_isClosed_13 ?_
  refine lv_if_ne (tgt := 21) hx hb dX4_isClosed_14 (by decide) (fun c5 => ?_) (fun c5 => ?_)
  · replace h := tf_neg c5 h
    refine lv_iconst (v := 0) hx hb dX4_isClosed_21 (by decide +kernel) ?_
    exact tf_zret hx hb hr (Or.inl rfl) hI h dX4_isClosed_22 hlocks
  replace h := tf_pos c5 h
  refine lv_iconst (v := 1) hx hb dX4_isClosed_17 (by decide +kernel) ?_
  refine lv_goto (tgt := 22) hx hb dX4_isClosed_18 (by decide) ?_
  exact tf_zret hx hb hr (Or.inr rfl) hI h dX4_isClosed_22 hlocks

set_option maxHeartbeats 4000000 in
set_option maxRecDepth 100000 in
theorem kX_X4_hasOnly (l : Launch) (D : va_G) (ad : Nat → Nat) (cI cZ : ClassId) (σ : tf_S) (x1 x2 : Int32) (z : Int32 × tf_S) (h : fX4_hasOnly σ x1 x2 = some z) : tf_C l D (tf_wx ad cI cZ) [(cI, .int), (cZ, .boolean)] tf_nest yX4_hasOnly wsX4_hasOnly ({ frames := 0, cells := 0, slots := 0, locals := 0 }) [.ref (ad 1), .int x1, .int x2] σ z := by
  intro sz
  refine Met.ofW (cc := cX4_hasOnly) (maxL := 3) (ret := (some .boolean)) (by decide) rfl ?_
  intro p e s m args below meth c s₁ B hml hv
  obtain ⟨rfl, hsz, hP, hK, hN, hD0⟩ := hv
  have hx := B.exec
  have hb := B.bytes
  have hr := B.returns
  have hts := atoms_spec (ws := wsX4_hasOnly) B.pre
  have hown : s.vm.findClass RX4 = some m.cls := findClass_of_methodNamed B.named
  have hlocks := B.notSynchronized
  subst hsz
  have hI := tf_start (D := D) (tf_x_ad ad cI cZ) hP hD0
  have hl := lv_entry ([.ref (ad 1), .int x1, .int x2]) (n := 3) (Nat.le_of_ble_eq_true rfl)
  rw [lg_entry_eq]
  generalize (lg_sl ([.ref (ad 1), .int x1, .int x2]) ++ List.replicate (3 - (lg_sl ([.ref (ad 1), .int x1, .int x2])).length) Slot.unset).toArray = ls at hl ⊢
  have hl : lv_has ls 3 [(0, .ref (ad 1)), (1, .int x1), (2, .int x2)] := hl
  have hn_X4 : ∀ w ∈ u_ws RX4 TX4 10, w ∈ wsX4_hasOnly := by decide +kernel
  have hf_34 := hts (.fieldLink RX4 34 "TypeFlow$Types" "within" "[I") (by decide +kernel)
  unfold fX4_hasOnly at h
  refine lv_aload_n hx hb dX4_hasOnly_0 rfl (lv_at hl 0 rfl) ?_
  refine tf_get (C := RX4) (T := TX4) (N := 10) hx hb hts hn_X4 hown hK hI 1 (tf_xat_1 ad cI cZ _) rfl 7 (by decide) hf_34 rfl rfl dX4_hasOnly_1 ?_
  refine lv_iload_n hx hb dX4_hasOnly_4 rfl (lv_at hl 1 rfl) ?_
  obtain ⟨b1, h⟩ := tf_gin h
  refine va_iald hx hb hK hI.1 12 0 (tf_xat_12 ad cI cZ _) rfl b1 dX4_hasOnly_5 ?_
  refine lv_iload_n hx hb dX4_hasOnly_6 rfl (lv_at hl 2 rfl) ?_
  refine lv_ishr hx hb dX4_hasOnly_7 ?_
  refine lv_if_ne (tgt := 15) hx hb dX4_hasOnly_8 (by decide) (fun c2 => ?_) (fun c2 => ?_)
  · replace h := tf_neg c2 h
    refine lv_iconst (v := 0) hx hb dX4_hasOnly_15 (by decide +kernel) ?_
    exact tf_zret hx hb hr (Or.inl rfl) hI h dX4_hasOnly_16 hlocks
  replace h := tf_pos c2 h
  refine lv_iconst (v := 1) hx hb dX4_hasOnly_11 (by decide +kernel) ?_
  refine lv_goto (tgt := 16) hx hb dX4_hasOnly_12 (by decide) ?_
  exact tf_zret hx hb hr (Or.inr rfl) hI h dX4_hasOnly_16 hlocks

set_option maxHeartbeats 4000000 in
set_option maxRecDepth 100000 in
theorem kX_X4_addClass (l : Launch) (D : va_G) (ad : Nat → Nat) (cI cZ : ClassId) (σ : tf_S) (x1 x2 : Int32) (z : Int32 × tf_S) (h : fX4_addClass σ x1 x2 = some z) : tf_C l D (tf_wx ad cI cZ) [(cI, .int), (cZ, .boolean)] tf_nest yX4_addClass wsX4_addClass ({ frames := 0, cells := 0, slots := 0, locals := 0 }) [.ref (ad 1), .int x1, .int x2] σ z := by
  intro sz
  refine Met.ofW (cc := cX4_addClass) (maxL := 3) (ret := (some .int)) (by decide) rfl ?_
  intro p e s m args below meth c s₁ B hml hv
  obtain ⟨rfl, hsz, hP, hK, hN, hD0⟩ := hv
  have hx := B.exec
  have hb := B.bytes
  have hr := B.returns
  have hts := atoms_spec (ws := wsX4_addClass) B.pre
  have hown : s.vm.findClass RX4 = some m.cls := findClass_of_methodNamed B.named
  have hlocks := B.notSynchronized
  subst hsz
  have hI := tf_start (D := D) (tf_x_ad ad cI cZ) hP hD0
  have hl := lv_entry ([.ref (ad 1), .int x1, .int x2]) (n := 3) (Nat.le_of_ble_eq_true rfl)
  rw [lg_entry_eq]
  generalize (lg_sl ([.ref (ad 1), .int x1, .int x2]) ++ List.replicate (3 - (lg_sl ([.ref (ad 1), .int x1, .int x2])).length) Slot.unset).toArray = ls at hl ⊢
  have hl : lv_has ls 3 [(0, .ref (ad 1)), (1, .int x1), (2, .int x2)] := hl
  have hn_X4 : ∀ w ∈ u_ws RX4 TX4 10, w ∈ wsX4_addClass := by decide +kernel
  have hf_9 := hts (.fieldLink RX4 9 "TypeFlow$Types" "classes" "I") (by decide +kernel)
  have hf_15 := hts (.fieldLink RX4 15 "TypeFlow$Types" "variables" "[I") (by decide +kernel)
  have hf_19 := hts (.fieldLink RX4 19 "TypeFlow$Types" "parent" "[I") (by decide +kernel)
  unfold fX4_addClass at h
  refine lv_aload_n hx hb dX4_addClass_0 rfl (lv_at hl 0 rfl) ?_
  refine tf_get (C := RX4) (T := TX4) (N := 10) hx hb hts hn_X4 hown hK hI 1 (tf_xat_1 ad cI cZ _) rfl 0 (by decide) hf_9 rfl rfl dX4_addClass_1 ?_
  refine lv_bipush (v := 12) hx hb dX4_addClass_4 (by decide +kernel) ?_
  refine lv_icmp_lt (tgt := 12) hx hb dX4_addClass_6 (by decide) (fun c1 => ?_) (fun c1 => ?_)
  · replace h := tf_pos c1 h
    refine lv_aload_n hx hb dX4_addClass_12 rfl (lv_at hl 0 rfl) ?_
    refine tf_get (C := RX4) (T := TX4) (N := 10) hx hb hts hn_X4 hown hK hI 1 (tf_xat_1 ad cI cZ _) rfl 1 (by decide) hf_15 rfl rfl dX4_addClass_13 ?_
    refine lv_aload_n hx hb dX4_addClass_16 rfl (lv_at hl 0 rfl) ?_
    refine tf_get (C := RX4) (T := TX4) (N := 10) hx hb hts hn_X4 hown hK hI 1 (tf_xat_1 ad cI cZ _) rfl 0 (by decide) hf_9 rfl rfl dX4_addClass_17 ?_
    refine lv_iload_n hx hb dX4_addClass_20 rfl (lv_at hl 1 rfl) ?_
    obtain ⟨b2, h⟩ := tf_gin h
    obtain ⟨s3, es3, h⟩ := tf_glet h
    refine tf_iast hx hb hK hI 7 0 (tf_xat_7 ad cI cZ _) (tf_xset_7 ad cI cZ _) rfl b2 es3 dX4_addClass_21 (fun H locs hI => ?_)
    refine lv_aload_n hx hb dX4_addClass_22 rfl (lv_at hl 0 rfl) ?_
    refine tf_get (C := RX4) (T := TX4) (N := 10) hx hb hts hn_X4 hown hK hI 1 (tf_xat_1 ad cI cZ _) rfl 2 (by decide) hf_19 rfl rfl dX4_addClass_23 ?_
    refine lv_aload_n hx hb dX4_addClass_26 rfl (lv_at hl 0 rfl) ?_
    refine tf_get (C := RX4) (T := TX4) (N := 10) hx hb hts hn_X4 hown hK hI 1 (tf_xat_1 ad cI cZ _) rfl 0 (by decide) hf_9 rfl rfl dX4_addClass_27 ?_
    refine lv_iload_n hx hb dX4_addClass_30 rfl (lv_at hl 2 rfl) ?_
    obtain ⟨b4, h⟩ := tf_gin h
    obtain ⟨s5, es5, h⟩ := tf_glet h
    refine tf_iast hx hb hK hI 8 0 (tf_xat_8 ad cI cZ _) (tf_xset_8 ad cI cZ _) rfl b4 es5 dX4_addClass_31 (fun H locs hI => ?_)
    refine lv_aload_n hx hb dX4_addClass_32 rfl (lv_at hl 0 rfl) ?_
    refine lv_dup hx hb dX4_addClass_33 rfl ?_
    refine tf_get (C := RX4) (T := TX4) (N := 10) hx hb hts hn_X4 hown hK hI 1 (tf_xat_1 ad cI cZ _) rfl 0 (by decide) hf_9 rfl rfl dX4_addClass_34 ?_
    refine lv_dup_x1 hx hb dX4_addClass_37 rfl rfl ?_
    refine lv_iconst (v := 1) hx hb dX4_addClass_38 (by decide +kernel) ?_
    refine lv_iadd hx hb dX4_addClass_39 ?_
    obtain ⟨s6, es6, h⟩ := tf_glet h
    refine tf_put (C := RX4) (T := TX4) (N := 10) (ty := .int) hx hb hts hn_X4 tyX4 tyX4_ok nmX4 hown hK hI 1 (tf_xat_1 ad cI cZ _) rfl 0 (by decide) hf_9 rfl rfl (by decide +kernel) rfl rfl (Nat.le_of_ble_eq_true rfl) (tf_xput_1_0 ad cI cZ _ _) es6 dX4_addClass_40 (fun H locs hI => ?_)
    exact tf_iret hx hb hr hI h dX4_addClass_43 hlocks
  replace h := tf_neg c1 h
  refine lv_bipush (v := -3) hx hb dX4_addClass_9 (by decide +kernel) ?_
  exact tf_iret hx hb hr hI h dX4_addClass_11 hlocks

set_option maxHeartbeats 4000000 in
set_option maxRecDepth 100000 in
theorem kX_X4_commonOf (l : Launch) (D : va_G) (ad : Nat → Nat) (cI cZ : ClassId) (σ : tf_S) (x1 x2 : Int32) (z : Int32 × tf_S) (h : fX4_commonOf σ x1 x2 = some z) : tf_C l D (tf_wx ad cI cZ) [(cI, .int), (cZ, .boolean)] tf_nest yX4_commonOf wsX4_commonOf ({ frames := 3, cells := 0, slots := 0, locals := 76 }) [.ref (ad 1), .int x1, .int x2] σ z := by
  intro sz
  refine Met.ofW (cc := cX4_commonOf) (maxL := 7) (ret := (some .int)) (by decide) rfl ?_
  intro p e s m args below meth c s₁ B hml hv
  obtain ⟨rfl, hsz, hP, hK, hN, hD0⟩ := hv
  have hx := B.exec
  have hb := B.bytes
  have hr := B.returns
  have hts := atoms_spec (ws := wsX4_commonOf) B.pre
  have hown : s.vm.findClass RX4 = some m.cls := findClass_of_methodNamed B.named
  have hlocks := B.notSynchronized
  subst hsz
  have hI := tf_start (D := D) (tf_x_ad ad cI cZ) hP hD0
  have hl := lv_entry ([.ref (ad 1), .int x1, .int x2]) (n := 7) (Nat.le_of_ble_eq_true rfl)
  rw [lg_entry_eq]
  generalize (lg_sl ([.ref (ad 1), .int x1, .int x2]) ++ List.replicate (7 - (lg_sl ([.ref (ad 1), .int x1, .int x2])).length) Slot.unset).toArray = ls at hl ⊢
  have hl : lv_has ls 7 [(0, .ref (ad 1)), (1, .int x1), (2, .int x2)] := hl
  have hn_X4 : ∀ w ∈ u_ws RX4 TX4 10, w ∈ wsX4_commonOf := by decide +kernel
  have hf_25 := hts (.fieldLink RX4 25 "TypeFlow$Types" "ofClass" "[I") (by decide +kernel)
  have j51 : ∀ n : Nat, ∀ (σ : tf_S) (y3 y4 : Int32) (H : Heap) (locs : List Loc) (ls : Array Slot), fX4_commonOf_51 x1 x2 n σ y3 y4 = some z → tf_I D (tf_wx ad cI cZ) s.heap σ H locs → lv_has ls 7 [(0, .ref (ad 1)), (1, .int x1), (2, .int x2), (3, .int y3), (4, .int y4)] → W p l e (headSpec wsX4_commonOf ({ frames := 3, cells := 0, slots := 0, locals := 76 })).room s m ([.ref (ad 1), .int x1, .int x2] : List Value).toArray below meth c H locs 0 0 (tf_Q below D (tf_wx ad cI cZ) z ([.ref (ad 1), .int x1, .int x2] : List Value).toArray s) (F0 m 51 ls []) := by
    intro n
    induction n with
    | zero =>
      intro σ y3 y4 H locs ls h
      rw [fX4_commonOf_51] at h
      cases h
    | succ n ih =>
      intro σ y3 y4 H locs ls h hI hl
      rw [fX4_commonOf_51] at h
      refine lv_iload_n hx hb dX4_commonOf_51 rfl (lv_at hl 3 rfl) ?_
      refine lv_iconst (v := -1) hx hb dX4_commonOf_52 (by decide +kernel) ?_
      refine lv_icmp_eq (tgt := 132) hx hb dX4_commonOf_53 (by decide) (fun c16 => ?_) (fun c16 => ?_)
      · replace h := tf_pos c16 h
        refine lv_iconst (v := -1) hx hb dX4_commonOf_132 (by decide +kernel) ?_
        exact tf_iret hx hb hr hI h dX4_commonOf_133 hlocks
      replace h := tf_neg c16 h
      refine lv_iload hx hb dX4_commonOf_56 (lv_at hl 4 rfl) ?_
      refine lv_bipush (v := 12) hx hb dX4_commonOf_58 (by decide +kernel) ?_
      refine lv_icmp_ge (tgt := 132) hx hb dX4_commonOf_60 (by decide) (fun c17 => ?_) (fun c17 => ?_)
      · replace h := tf_pos c17 h
        refine lv_iconst (v := -1) hx hb dX4_commonOf_132 (by decide +kernel) ?_
        exact tf_iret hx hb hr hI h dX4_commonOf_133 hlocks
      replace h := tf_neg c17 h
      refine lv_aload_n hx hb dX4_commonOf_63 rfl (lv_at hl 0 rfl) ?_
      refine lv_aload_n hx hb dX4_commonOf_64 rfl (lv_at hl 0 rfl) ?_
      refine tf_get (C := RX4) (T := TX4) (N := 10) hx hb hts hn_X4 hown hK hI 1 (tf_xat_1 ad cI cZ _) rfl 4 (by decide) hf_25 rfl rfl dX4_commonOf_65 ?_
      refine lv_iload_n hx hb dX4_commonOf_68 rfl (lv_at hl 2 rfl) ?_
      obtain ⟨b18, h⟩ := tf_gin h
      refine va_iald hx hb hK hI.1 9 0 (tf_xat_9 ad cI cZ _) rfl b18 dX4_commonOf_69 ?_
      refine lv_iload_n hx hb dX4_commonOf_70 rfl (lv_at hl 3 rfl) ?_
      obtain ⟨u19, q20, h⟩ := tf_gbind h
      refine tf_callV (rest := []) ⟨hx, hb, hml, hown, hts⟩ hK hN hI (kX_X4_isFrom l D ad cI cZ _ _ _ _ q20) (cwV 2 hts gX4_commonOf_X4_isFrom rfl rfl rfl (by decide +kernel) ⟨Nat.le_of_ble_eq_true rfl, Nat.le_of_ble_eq_true rfl⟩) 1 4 (tf_xat_1 ad cI cZ _) rfl rfl hl.1 rfl (Nat.le_of_ble_eq_true rfl) dX4_commonOf_71 (fun H locs hI => ?_)
      refine lv_if_eq (tgt := 120) hx hb dX4_commonOf_74 (by decide) (fun c21 => ?_) (fun c21 => ?_)
      · replace h := tf_pos c21 h
        refine lv_aload_n hx hb dX4_commonOf_120 rfl (lv_at hl 0 rfl) ?_
        refine lv_iload_n hx hb dX4_commonOf_121 rfl (lv_at hl 3 rfl) ?_
        obtain ⟨u22, q23, h⟩ := tf_gbind h
        refine tf_callV (rest := []) ⟨hx, hb, hml, hown, hts⟩ hK hN hI (kX_X4_classAbove l D ad cI cZ _ _ _ q23) (cwV 1 hts gX4_commonOf_X4_classAbove rfl rfl rfl (by decide +kernel) ⟨Nat.le_of_ble_eq_true rfl, Nat.le_of_ble_eq_true rfl⟩) 1 4 (tf_xat_1 ad cI cZ _) rfl rfl hl.1 rfl (Nat.le_of_ble_eq_true rfl) dX4_commonOf_122 (fun H locs hI => ?_)
        obtain ⟨v24, ev24, h⟩ := tf_glet h
        refine tf_top ev24 ?_
        refine lv_istore_n (lv' := [(3, .int v24), (0, .ref (ad 1)), (1, .int x1), (2, .int x2), (4, .int y4)]) hx hb dX4_commonOf_125 rfl hl (by decide) rfl (fun ls hl => ?_)
        obtain ⟨v25, ev25, h⟩ := tf_glet h
        refine lv_iinc (v := v25) (lv' := [(4, .int v25), (3, .int v24), (0, .ref (ad 1)), (1, .int x1), (2, .int x2)]) hx hb dX4_commonOf_126 hl (k := 4) rfl (by rw [ev25]; rfl) (by decide) rfl (fun ls hl => ?_)
        refine lv_goto (tgt := 51) hx hb dX4_commonOf_129 (by decide) ?_
        exact ih _ _ _ _ _ _ h hI (lv_sub hl [2, 3, 4, 1, 0] rfl)
      replace h := tf_neg c21 h
      refine lv_aload_n hx hb dX4_commonOf_77 rfl (lv_at hl 0 rfl) ?_
      refine lv_iload_n hx hb dX4_commonOf_78 rfl (lv_at hl 1 rfl) ?_
      refine lv_iload_n hx hb dX4_commonOf_79 rfl (lv_at hl 3 rfl) ?_
      obtain ⟨u26, q27, h⟩ := tf_gbind h
      refine tf_callV (rest := []) ⟨hx, hb, hml, hown, hts⟩ hK hN hI (kX_X4_seenAs l D ad cI cZ _ _ _ _ q27) (cwV 2 hts gX4_commonOf_X4_seenAs rfl rfl rfl (by decide +kernel) ⟨Nat.le_of_ble_eq_true rfl, Nat.le_of_ble_eq_true rfl⟩) 1 4 (tf_xat_1 ad cI cZ _) rfl rfl hl.1 rfl (Nat.le_of_ble_eq_true rfl) dX4_commonOf_80 (fun H locs hI => ?_)
      obtain ⟨v28, ev28, h⟩ := tf_glet h
      refine tf_top ev28 ?_
      refine lv_istore (lv' := [(5, .int v28), (0, .ref (ad 1)), (1, .int x1), (2, .int x2), (3, .int y3), (4, .int y4)]) hx hb dX4_commonOf_83 hl (by decide) rfl (fun ls hl => ?_)
      refine lv_iload hx hb dX4_commonOf_85 (lv_at hl 0 rfl) ?_
      refine lv_bipush (v := -3) hx hb dX4_commonOf_87 (by decide +kernel) ?_
      refine lv_icmp_ne (tgt := 95) hx hb dX4_commonOf_89 (by decide) (fun c29 => ?_) (fun c29 => ?_)
      · replace h := tf_neg c29 h
        refine lv_aload_n hx hb dX4_commonOf_95 rfl (lv_at hl 1 rfl) ?_
        refine lv_iload_n hx hb dX4_commonOf_96 rfl (lv_at hl 3 rfl) ?_
        refine lv_iload_n hx hb dX4_commonOf_97 rfl (lv_at hl 4 rfl) ?_
        obtain ⟨u30, q31, h⟩ := tf_gbind h
        refine tf_callV (rest := []) ⟨hx, hb, hml, hown, hts⟩ hK hN hI (kX_X4_seenAs l D ad cI cZ _ _ _ _ q31) (cwV 2 hts gX4_commonOf_X4_seenAs rfl rfl rfl (by decide +kernel) ⟨Nat.le_of_ble_eq_true rfl, Nat.le_of_ble_eq_true rfl⟩) 1 4 (tf_xat_1 ad cI cZ _) rfl rfl hl.1 rfl (Nat.le_of_ble_eq_true rfl) dX4_commonOf_98 (fun H locs hI => ?_)
        obtain ⟨v32, ev32, h⟩ := tf_glet h
        refine tf_top ev32 ?_
        refine lv_istore (lv' := [(6, .int v32), (5, .int v28), (0, .ref (ad 1)), (1, .int x1), (2, .int x2), (3, .int y3), (4, .int y4)]) hx hb dX4_commonOf_101 hl (by decide) rfl (fun ls hl => ?_)
        refine lv_iload hx hb dX4_commonOf_103 (lv_at hl 0 rfl) ?_
        refine lv_bipush (v := -3) hx hb dX4_commonOf_105 (by decide +kernel) ?_
        refine lv_icmp_eq (tgt := 117) hx hb dX4_commonOf_107 (by decide) (fun c33 => ?_) (fun c33 => ?_)
        · replace h := tf_pos c33 h
          refine lv_iload hx hb dX4_commonOf_117 (lv_at hl 0 rfl) ?_
          exact tf_iret hx hb hr hI h dX4_commonOf_119 hlocks
        replace h := tf_neg c33 h
        refine lv_iload hx hb dX4_commonOf_110 (lv_at hl 0 rfl) ?_
        refine lv_iload hx hb dX4_commonOf_112 (lv_at hl 1 rfl) ?_
        refine lv_icmp_ne (tgt := 120) hx hb dX4_commonOf_114 (by decide) (fun c34 => ?_) (fun c34 => ?_)
        · replace h := tf_neg c34 h
          refine lv_aload_n hx hb dX4_commonOf_120 rfl (lv_at hl 2 rfl) ?_
          refine lv_iload_n hx hb dX4_commonOf_121 rfl (lv_at hl 5 rfl) ?_
          obtain ⟨u35, q36, h⟩ := tf_gbind h
          refine tf_callV (rest := []) ⟨hx, hb, hml, hown, hts⟩ hK hN hI (kX_X4_classAbove l D ad cI cZ _ _ _ q36) (cwV 1 hts gX4_commonOf_X4_classAbove rfl rfl rfl (by decide +kernel) ⟨Nat.le_of_ble_eq_true rfl, Nat.le_of_ble_eq_true rfl⟩) 1 4 (tf_xat_1 ad cI cZ _) rfl rfl hl.1 rfl (Nat.le_of_ble_eq_true rfl) dX4_commonOf_122 (fun H locs hI => ?_)
          obtain ⟨v37, ev37, h⟩ := tf_glet h
          refine tf_top ev37 ?_
          refine lv_istore_n (lv' := [(3, .int v37), (6, .int v32), (5, .int v28), (0, .ref (ad 1)), (1, .int x1), (2, .int x2), (4, .int y4)]) hx hb dX4_commonOf_125 rfl hl (by decide) rfl (fun ls hl => ?_)
          obtain ⟨v38, ev38, h⟩ := tf_glet h
          refine lv_iinc (v := v38) (lv' := [(4, .int v38), (3, .int v37), (6, .int v32), (5, .int v28), (0, .ref (ad 1)), (1, .int x1), (2, .int x2)]) hx hb dX4_commonOf_126 hl (k := 6) rfl (by rw [ev38]; rfl) (by decide) rfl (fun ls hl => ?_)
          refine lv_goto (tgt := 51) hx hb dX4_commonOf_129 (by decide) ?_
          exact ih _ _ _ _ _ _ h hI (lv_sub hl [4, 5, 6, 1, 0] rfl)
        replace h := tf_pos c34 h
        refine lv_iload hx hb dX4_commonOf_117 (lv_at hl 0 rfl) ?_
        exact tf_iret hx hb hr hI h dX4_commonOf_119 hlocks
      replace h := tf_pos c29 h
      refine lv_bipush (v := -3) hx hb dX4_commonOf_92 (by decide +kernel) ?_
      exact tf_iret hx hb hr hI h dX4_commonOf_94 hlocks
  unfold fX4_commonOf at h
  refine lv_iload_n hx hb dX4_commonOf_0 rfl (lv_at hl 1 rfl) ?_
  refine lv_iload_n hx hb dX4_commonOf_1 rfl (lv_at hl 2 rfl) ?_
  refine lv_icmp_eq (tgt := 13) hx hb dX4_commonOf_2 (by decide) (fun c1 => ?_) (fun c1 => ?_)
  · replace h := tf_pos c1 h
    refine lv_iload_n hx hb dX4_commonOf_13 rfl (lv_at hl 1 rfl) ?_
    exact tf_iret hx hb hr hI h dX4_commonOf_14 hlocks
  replace h := tf_neg c1 h
  refine lv_iload_n hx hb dX4_commonOf_5 rfl (lv_at hl 2 rfl) ?_
  refine lv_iload_n hx hb dX4_commonOf_6 rfl (lv_at hl 1 rfl) ?_
  obtain ⟨u2, q3, h⟩ := tf_gbind h
  refine tf_callSN (rest := []) ⟨hx, hb, hml, hown, hts⟩ hK hN hI (kX_X6_widens l D ad cI cZ _ _ _ _ q3) ⟨va_cnB 2 hts gX4_commonOf_X6_widens_n78 rfl rfl rfl (hN (RX4, 78, yX6_widens, "TypeFlow") (by decide +kernel)) (hts (.initialized RX6) (by decide +kernel)) (by decide +kernel) ⟨Nat.le_of_ble_eq_true rfl, Nat.le_of_ble_eq_true rfl⟩, hts (.static yX6_widens) (by decide +kernel), trivial⟩ rfl hl.1 rfl (Nat.le_of_ble_eq_true rfl) dX4_commonOf_7 (fun H locs hI => ?_)
  refine lv_if_eq (tgt := 15) hx hb dX4_commonOf_10 (by decide) (fun c4 => ?_) (fun c4 => ?_)
  · replace h := tf_pos c4 h
    refine lv_iload_n hx hb dX4_commonOf_15 rfl (lv_at hl 1 rfl) ?_
    refine lv_iload_n hx hb dX4_commonOf_16 rfl (lv_at hl 2 rfl) ?_
    obtain ⟨u5, q6, h⟩ := tf_gbind h
    refine tf_callSN (rest := []) ⟨hx, hb, hml, hown, hts⟩ hK hN hI (kX_X6_widens l D ad cI cZ _ _ _ _ q6) ⟨va_cnB 2 hts gX4_commonOf_X6_widens_n78 rfl rfl rfl (hN (RX4, 78, yX6_widens, "TypeFlow") (by decide +kernel)) (hts (.initialized RX6) (by decide +kernel)) (by decide +kernel) ⟨Nat.le_of_ble_eq_true rfl, Nat.le_of_ble_eq_true rfl⟩, hts (.static yX6_widens) (by decide +kernel), trivial⟩ rfl hl.1 rfl (Nat.le_of_ble_eq_true rfl) dX4_commonOf_17 (fun H locs hI => ?_)
    refine lv_if_eq (tgt := 25) hx hb dX4_commonOf_20 (by decide) (fun c7 => ?_) (fun c7 => ?_)
    · replace h := tf_pos c7 h
      refine lv_iload_n hx hb dX4_commonOf_25 rfl (lv_at hl 1 rfl) ?_
      obtain ⟨u8, q9, h⟩ := tf_gbind h
      refine tf_callSN (rest := []) ⟨hx, hb, hml, hown, hts⟩ hK hN hI (kX_X6_isPrimitive l D ad cI cZ _ _ _ q9) ⟨va_cnB 1 hts gX4_commonOf_X6_isPrimitive_n81 rfl rfl rfl (hN (RX4, 81, yX6_isPrimitive, "TypeFlow") (by decide +kernel)) (hts (.initialized RX6) (by decide +kernel)) (by decide +kernel) ⟨Nat.le_of_ble_eq_true rfl, Nat.le_of_ble_eq_true rfl⟩, hts (.static yX6_isPrimitive) (by decide +kernel), trivial⟩ rfl hl.1 rfl (Nat.le_of_ble_eq_true rfl) dX4_commonOf_26 (fun H locs hI => ?_)
      refine lv_if_ne (tgt := 39) hx hb dX4_commonOf_29 (by decide) (fun c10 => ?_) (fun c10 => ?_)
      · replace h := tf_neg c10 h
        refine lv_iconst (v := -1) hx hb dX4_commonOf_39 (by decide +kernel) ?_
        exact tf_iret hx hb hr hI h dX4_commonOf_40 hlocks
      replace h := tf_pos c10 h
      refine lv_iload_n hx hb dX4_commonOf_32 rfl (lv_at hl 2 rfl) ?_
      obtain ⟨u11, q12, h⟩ := tf_gbind h
      refine tf_callSN (rest := []) ⟨hx, hb, hml, hown, hts⟩ hK hN hI (kX_X6_isPrimitive l D ad cI cZ _ _ _ q12) ⟨va_cnB 1 hts gX4_commonOf_X6_isPrimitive_n81 rfl rfl rfl (hN (RX4, 81, yX6_isPrimitive, "TypeFlow") (by decide +kernel)) (hts (.initialized RX6) (by decide +kernel)) (by decide +kernel) ⟨Nat.le_of_ble_eq_true rfl, Nat.le_of_ble_eq_true rfl⟩, hts (.static yX6_isPrimitive) (by decide +kernel), trivial⟩ rfl hl.1 rfl (Nat.le_of_ble_eq_true rfl) dX4_commonOf_33 (fun H locs hI => ?_)
      refine lv_if_eq (tgt := 41) hx hb dX4_commonOf_36 (by decide) (fun c13 => ?_) (fun c13 => ?_)
      · replace h := tf_pos c13 h
        refine lv_aload_n hx hb dX4_commonOf_41 rfl (lv_at hl 0 rfl) ?_
        refine tf_get (C := RX4) (T := TX4) (N := 10) hx hb hts hn_X4 hown hK hI 1 (tf_xat_1 ad cI cZ _) rfl 4 (by decide) hf_25 rfl rfl dX4_commonOf_42 ?_
        refine lv_iload_n hx hb dX4_commonOf_45 rfl (lv_at hl 1 rfl) ?_
        obtain ⟨b14, h⟩ := tf_gin h
        refine va_iald hx hb hK hI.1 9 0 (tf_xat_9 ad cI cZ _) rfl b14 dX4_commonOf_46 ?_
        obtain ⟨v15, ev15, h⟩ := tf_glet h
        refine tf_top ev15 ?_
        refine lv_istore_n (lv' := [(3, .int v15), (0, .ref (ad 1)), (1, .int x1), (2, .int x2)]) hx hb dX4_commonOf_47 rfl hl (by decide) rfl (fun ls hl => ?_)
        refine lv_iconst (v := 0) hx hb dX4_commonOf_48 (by decide +kernel) ?_
        refine lv_istore (lv' := [(4, .int (0 : Int32)), (3, .int v15), (0, .ref (ad 1)), (1, .int x1), (2, .int x2)]) hx hb dX4_commonOf_49 hl (by decide) rfl (fun ls hl => ?_)
        exact j51  _ _ _ _ _ _ _ h hI (lv_sub hl [2, 3, 4, 1, 0] rfl)
      replace h := tf_neg c13 h
      refine lv_iconst (v := -1) hx hb dX4_commonOf_39 (by decide +kernel) ?_
      exact tf_iret hx hb hr hI h dX4_commonOf_40 hlocks
    replace h := tf_neg c7 h
    refine lv_iload_n hx hb dX4_commonOf_23 rfl (lv_at hl 2 rfl) ?_
    exact tf_iret hx hb hr hI h dX4_commonOf_24 hlocks
  replace h := tf_neg c4 h
  refine lv_iload_n hx hb dX4_commonOf_13 rfl (lv_at hl 1 rfl) ?_
  exact tf_iret hx hb hr hI h dX4_commonOf_14 hlocks

set_option maxHeartbeats 4000000 in
set_option maxRecDepth 100000 in
theorem kX_X5_none (l : Launch) (D : va_G) (ad : Nat → Nat) (cI cZ : ClassId) (σ : tf_S) (x1 : Int32) (z : Int32 × tf_S) (h : fX5_none σ x1 = some z) : tf_C l D (tf_wx ad cI cZ) [(cI, .int), (cZ, .boolean)] tf_nest yX5_none wsX5_none ({ frames := 0, cells := 0, slots := 0, locals := 0 }) [.ref (ad 5), .int x1] σ z := by
  intro sz
  refine Met.ofW (cc := cX5_none) (maxL := 2) (ret := (some .int)) (by decide) rfl ?_
  intro p e s m args below meth c s₁ B hml hv
  obtain ⟨rfl, hsz, hP, hK, hN, hD0⟩ := hv
  have hx := B.exec
  have hb := B.bytes
  have hr := B.returns
  have hts := atoms_spec (ws := wsX5_none) B.pre
  have hown : s.vm.findClass RX5 = some m.cls := findClass_of_methodNamed B.named
  have hlocks := B.notSynchronized
  subst hsz
  have hI := tf_start (D := D) (tf_x_ad ad cI cZ) hP hD0
  have hl := lv_entry ([.ref (ad 5), .int x1]) (n := 2) (Nat.le_of_ble_eq_true rfl)
  rw [lg_entry_eq]
  generalize (lg_sl ([.ref (ad 5), .int x1]) ++ List.replicate (2 - (lg_sl ([.ref (ad 5), .int x1])).length) Slot.unset).toArray = ls at hl ⊢
  have hl : lv_has ls 2 [(0, .ref (ad 5)), (1, .int x1)] := hl
  have hn_X5 : ∀ w ∈ u_ws RX5 TX5 6, w ∈ wsX5_none := by decide +kernel
  have hf_9 := hts (.fieldLink RX5 9 "TypeFlow$Worker" "fault" "I") (by decide +kernel)
  unfold fX5_none at h
  refine lv_aload_n hx hb dX5_none_0 rfl (lv_at hl 0 rfl) ?_
  refine lv_iload_n hx hb dX5_none_1 rfl (lv_at hl 1 rfl) ?_
  obtain ⟨s1, es1, h⟩ := tf_glet h
  refine tf_put (C := RX5) (T := TX5) (N := 6) (ty := .int) hx hb hts hn_X5 tyX5 tyX5_ok nmX5 hown hK hI 5 (tf_xat_5 ad cI cZ _) rfl 4 (by decide) hf_9 rfl rfl (by decide +kernel) rfl rfl (Nat.le_of_ble_eq_true rfl) (tf_xput_5_4 ad cI cZ _ _) es1 dX5_none_2 (fun H locs hI => ?_)
  refine lv_iconst (v := -1) hx hb dX5_none_5 (by decide +kernel) ?_
  exact tf_iret hx hb hr hI h dX5_none_6 hlocks

set_option maxHeartbeats 4000000 in
set_option maxRecDepth 100000 in
theorem kX_X5_orFault (l : Launch) (D : va_G) (ad : Nat → Nat) (cI cZ : ClassId) (σ : tf_S) (x1 x2 : Int32) (z : Int32 × tf_S) (h : fX5_orFault σ x1 x2 = some z) : tf_C l D (tf_wx ad cI cZ) [(cI, .int), (cZ, .boolean)] tf_nest yX5_orFault wsX5_orFault ({ frames := 1, cells := 0, slots := 0, locals := 21 }) [.ref (ad 5), .int x1, .int x2] σ z := by
  intro sz
  refine Met.ofW (cc := cX5_orFault) (maxL := 3) (ret := (some .int)) (by decide) rfl ?_
  intro p e s m args below meth c s₁ B hml hv
  obtain ⟨rfl, hsz, hP, hK, hN, hD0⟩ := hv
  have hx := B.exec
  have hb := B.bytes
  have hr := B.returns
  have hts := atoms_spec (ws := wsX5_orFault) B.pre
  have hown : s.vm.findClass RX5 = some m.cls := findClass_of_methodNamed B.named
  have hlocks := B.notSynchronized
  subst hsz
  have hI := tf_start (D := D) (tf_x_ad ad cI cZ) hP hD0
  have hl := lv_entry ([.ref (ad 5), .int x1, .int x2]) (n := 3) (Nat.le_of_ble_eq_true rfl)
  rw [lg_entry_eq]
  generalize (lg_sl ([.ref (ad 5), .int x1, .int x2]) ++ List.replicate (3 - (lg_sl ([.ref (ad 5), .int x1, .int x2])).length) Slot.unset).toArray = ls at hl ⊢
  have hl : lv_has ls 3 [(0, .ref (ad 5)), (1, .int x1), (2, .int x2)] := hl
  unfold fX5_orFault at h
  refine lv_iload_n hx hb dX5_orFault_0 rfl (lv_at hl 1 rfl) ?_
  refine lv_if_lt (tgt := 6) hx hb dX5_orFault_1 (by decide) (fun c1 => ?_) (fun c1 => ?_)
  · replace h := tf_pos c1 h
    refine lv_aload_n hx hb dX5_orFault_6 rfl (lv_at hl 0 rfl) ?_
    refine lv_iload_n hx hb dX5_orFault_7 rfl (lv_at hl 1 rfl) ?_
    refine lv_bipush (v := -3) hx hb dX5_orFault_8 (by decide +kernel) ?_
    refine lv_icmp_ne (tgt := 18) hx hb dX5_orFault_10 (by decide) (fun c2 => ?_) (fun c2 => ?_)
    · replace h := tf_neg c2 h
      refine lv_iload_n hx hb dX5_orFault_18 rfl (lv_at hl 2 rfl) ?_
      obtain ⟨u3, q4, h⟩ := tf_gbind h
      refine tf_callV (rest := []) ⟨hx, hb, hml, hown, hts⟩ hK hN hI (kX_X5_none l D ad cI cZ _ _ _ q4) (cwV 1 hts gX5_orFault_X5_none rfl rfl rfl (by decide +kernel) ⟨Nat.le_of_ble_eq_true rfl, Nat.le_of_ble_eq_true rfl⟩) 5 5 (tf_xat_5 ad cI cZ _) rfl rfl hl.1 rfl (Nat.le_of_ble_eq_true rfl) dX5_orFault_19 (fun H locs hI => ?_)
      exact tf_iret hx hb hr hI h dX5_orFault_22 hlocks
    replace h := tf_pos c2 h
    refine lv_bipush (v := 8) hx hb dX5_orFault_13 (by decide +kernel) ?_
    refine lv_goto (tgt := 19) hx hb dX5_orFault_15 (by decide) ?_
    obtain ⟨u5, q6, h⟩ := tf_gbind h
    refine tf_callV (rest := []) ⟨hx, hb, hml, hown, hts⟩ hK hN hI (kX_X5_none l D ad cI cZ _ _ _ q6) (cwV 1 hts gX5_orFault_X5_none rfl rfl rfl (by decide +kernel) ⟨Nat.le_of_ble_eq_true rfl, Nat.le_of_ble_eq_true rfl⟩) 5 5 (tf_xat_5 ad cI cZ _) rfl rfl hl.1 rfl (Nat.le_of_ble_eq_true rfl) dX5_orFault_19 (fun H locs hI => ?_)
    exact tf_iret hx hb hr hI h dX5_orFault_22 hlocks
  replace h := tf_neg c1 h
  refine lv_iload_n hx hb dX5_orFault_4 rfl (lv_at hl 1 rfl) ?_
  exact tf_iret hx hb hr hI h dX5_orFault_5 hlocks

set_option maxHeartbeats 4000000 in
set_option maxRecDepth 100000 in
theorem kX_X5_filtered (l : Launch) (D : va_G) (ad : Nat → Nat) (cI cZ : ClassId) (σ : tf_S) (x1 x2 : Int32) (z : Int32 × tf_S) (h : fX5_filtered σ x1 x2 = some z) : tf_C l D (tf_wx ad cI cZ) [(cI, .int), (cZ, .boolean)] tf_nest yX5_filtered wsX5_filtered ({ frames := 1, cells := 0, slots := 0, locals := 21 }) [.ref (ad 5), .int x1, .int x2] σ z := by
  intro sz
  refine Met.ofW (cc := cX5_filtered) (maxL := 3) (ret := (some .int)) (by decide) rfl ?_
  intro p e s m args below meth c s₁ B hml hv
  obtain ⟨rfl, hsz, hP, hK, hN, hD0⟩ := hv
  have hx := B.exec
  have hb := B.bytes
  have hr := B.returns
  have hts := atoms_spec (ws := wsX5_filtered) B.pre
  have hown : s.vm.findClass RX5 = some m.cls := findClass_of_methodNamed B.named
  have hlocks := B.notSynchronized
  subst hsz
  have hI := tf_start (D := D) (tf_x_ad ad cI cZ) hP hD0
  have hl := lv_entry ([.ref (ad 5), .int x1, .int x2]) (n := 3) (Nat.le_of_ble_eq_true rfl)
  rw [lg_entry_eq]
  generalize (lg_sl ([.ref (ad 5), .int x1, .int x2]) ++ List.replicate (3 - (lg_sl ([.ref (ad 5), .int x1, .int x2])).length) Slot.unset).toArray = ls at hl ⊢
  have hl : lv_has ls 3 [(0, .ref (ad 5)), (1, .int x1), (2, .int x2)] := hl
  unfold fX5_filtered at h
  refine lv_iload_n hx hb dX5_filtered_0 rfl (lv_at hl 2 rfl) ?_
  refine lv_iconst (v := -1) hx hb dX5_filtered_1 (by decide +kernel) ?_
  refine lv_icmp_ne (tgt := 7) hx hb dX5_filtered_2 (by decide) (fun c1 => ?_) (fun c1 => ?_)
  · replace h := tf_neg c1 h
    refine lv_iload_n hx hb dX5_filtered_7 rfl (lv_at hl 2 rfl) ?_
    refine lv_if_ne (tgt := 15) hx hb dX5_filtered_8 (by decide) (fun c2 => ?_) (fun c2 => ?_)
    · replace h := tf_neg c2 h
      refine lv_aload_n hx hb dX5_filtered_15 rfl (lv_at hl 0 rfl) ?_
      refine lv_iconst (v := 1) hx hb dX5_filtered_16 (by decide +kernel) ?_
      obtain ⟨u3, q4, h⟩ := tf_gbind h
      refine tf_callV (rest := []) ⟨hx, hb, hml, hown, hts⟩ hK hN hI (kX_X5_none l D ad cI cZ _ _ _ q4) (cwV 1 hts gX5_filtered_X5_none rfl rfl rfl (by decide +kernel) ⟨Nat.le_of_ble_eq_true rfl, Nat.le_of_ble_eq_true rfl⟩) 5 5 (tf_xat_5 ad cI cZ _) rfl rfl hl.1 rfl (Nat.le_of_ble_eq_true rfl) dX5_filtered_17 (fun H locs hI => ?_)
      exact tf_iret hx hb hr hI h dX5_filtered_20 hlocks
    replace h := tf_pos c2 h
    refine lv_iload_n hx hb dX5_filtered_11 rfl (lv_at hl 1 rfl) ?_
    refine lv_goto (tgt := 20) hx hb dX5_filtered_12 (by decide) ?_
    exact tf_iret hx hb hr hI h dX5_filtered_20 hlocks
  replace h := tf_pos c1 h
  refine lv_iconst (v := -1) hx hb dX5_filtered_5 (by decide +kernel) ?_
  exact tf_iret hx hb hr hI h dX5_filtered_6 hlocks

set_option maxHeartbeats 4000000 in
set_option maxRecDepth 100000 in
theorem kX_X5_memberOf (l : Launch) (D : va_G) (ad : Nat → Nat) (cI cZ : ClassId) (σ : tf_S) (x1 x2 : Int32) (z : Int32 × tf_S) (h : fX5_memberOf σ x1 x2 = some z) : tf_C l D (tf_wx ad cI cZ) [(cI, .int), (cZ, .boolean)] tf_nest yX5_memberOf wsX5_memberOf ({ frames := 3, cells := 0, slots := 0, locals := 76 }) [.ref (ad 5), .int x1, .int x2] σ z := by
  intro sz
  refine Met.ofW (cc := cX5_memberOf) (maxL := 5) (ret := (some .int)) (by decide) rfl ?_
  intro p e s m args below meth c s₁ B hml hv
  obtain ⟨rfl, hsz, hP, hK, hN, hD0⟩ := hv
  have hx := B.exec
  have hb := B.bytes
  have hr := B.returns
  have hts := atoms_spec (ws := wsX5_memberOf) B.pre
  have hown : s.vm.findClass RX5 = some m.cls := findClass_of_methodNamed B.named
  have hlocks := B.notSynchronized
  subst hsz
  have hI := tf_start (D := D) (tf_x_ad ad cI cZ) hP hD0
  have hl := lv_entry ([.ref (ad 5), .int x1, .int x2]) (n := 5) (Nat.le_of_ble_eq_true rfl)
  rw [lg_entry_eq]
  generalize (lg_sl ([.ref (ad 5), .int x1, .int x2]) ++ List.replicate (5 - (lg_sl ([.ref (ad 5), .int x1, .int x2])).length) Slot.unset).toArray = ls at hl ⊢
  have hl : lv_has ls 5 [(0, .ref (ad 5)), (1, .int x1), (2, .int x2)] := hl
  have hn_X1 : ∀ w ∈ u_ws RX1 TX1 3, w ∈ wsX5_memberOf := by decide +kernel
  have hn_X4 : ∀ w ∈ u_ws RX4 TX4 10, w ∈ wsX5_memberOf := by decide +kernel
  have hn_X5 : ∀ w ∈ u_ws RX5 TX5 6, w ∈ wsX5_memberOf := by decide +kernel
  have hf_19 := hts (.fieldLink RX5 19 "TypeFlow$Worker" "types" "LTypeFlow$Types;") (by decide +kernel)
  have hf_23 := hts (.fieldLink RX5 23 "TypeFlow$Worker" "members" "LTypeFlow$Members;") (by decide +kernel)
  have hf_106 := hts (.fieldLink RX5 106 "TypeFlow$Members" "ofClass" "[I") (by decide +kernel)
  have hf_114 := hts (.fieldLink RX5 114 "TypeFlow$Members" "type" "[I") (by decide +kernel)
  have hf_115 := hts (.fieldLink RX5 115 "TypeFlow$Types" "first" "[I") (by decide +kernel)
  have hf_118 := hts (.fieldLink RX5 118 "TypeFlow$Types" "second" "[I") (by decide +kernel)
  unfold fX5_memberOf at h
  refine lv_iload_n hx hb dX5_memberOf_0 rfl (lv_at hl 1 rfl) ?_
  obtain ⟨u1, q2, h⟩ := tf_gbind h
  refine tf_callSN (rest := []) ⟨hx, hb, hml, hown, hts⟩ hK hN hI (kX_X6_isPrimitive l D ad cI cZ _ _ _ q2) ⟨va_cnB 1 hts gX5_memberOf_X6_isPrimitive_n103 rfl rfl rfl (hN (RX5, 103, yX6_isPrimitive, "TypeFlow") (by decide +kernel)) (hts (.initialized RX6) (by decide +kernel)) (by decide +kernel) ⟨Nat.le_of_ble_eq_true rfl, Nat.le_of_ble_eq_true rfl⟩, hts (.static yX6_isPrimitive) (by decide +kernel), trivial⟩ rfl hl.1 rfl (Nat.le_of_ble_eq_true rfl) dX5_memberOf_1 (fun H locs hI => ?_)
  refine lv_if_eq (tgt := 13) hx hb dX5_memberOf_4 (by decide) (fun c3 => ?_) (fun c3 => ?_)
  · replace h := tf_pos c3 h
    refine lv_aload_n hx hb dX5_memberOf_13 rfl (lv_at hl 0 rfl) ?_
    refine lv_aload_n hx hb dX5_memberOf_14 rfl (lv_at hl 0 rfl) ?_
    refine tf_get (C := RX5) (T := TX5) (N := 6) hx hb hts hn_X5 hown hK hI 5 (tf_xat_5 ad cI cZ _) rfl 0 (by decide) hf_19 rfl rfl dX5_memberOf_15 ?_
    refine lv_iload_n hx hb dX5_memberOf_18 rfl (lv_at hl 1 rfl) ?_
    refine lv_aload_n hx hb dX5_memberOf_19 rfl (lv_at hl 0 rfl) ?_
    refine tf_get (C := RX5) (T := TX5) (N := 6) hx hb hts hn_X5 hown hK hI 5 (tf_xat_5 ad cI cZ _) rfl 1 (by decide) hf_23 rfl rfl dX5_memberOf_20 ?_
    refine tf_get (C := RX1) (T := TX1) (N := 3) hx hb hts hn_X1 hown hK hI 2 (tf_xat_2 ad cI cZ _) rfl 1 (by decide) hf_106 rfl rfl dX5_memberOf_23 ?_
    refine lv_iload_n hx hb dX5_memberOf_26 rfl (lv_at hl 2 rfl) ?_
    obtain ⟨b4, h⟩ := tf_gin h
    refine va_iald hx hb hK hI.1 15 0 (tf_xat_15 ad cI cZ _) rfl b4 dX5_memberOf_27 ?_
    obtain ⟨u5, q6, h⟩ := tf_gbind h
    refine tf_callV (rest := [.ref (ad 5)]) ⟨hx, hb, hml, hown, hts⟩ hK hN hI (kX_X4_seenAs l D ad cI cZ _ _ _ _ q6) (cwV 2 hts gX5_memberOf_X4_seenAs rfl rfl rfl (by decide +kernel) ⟨Nat.le_of_ble_eq_true rfl, Nat.le_of_ble_eq_true rfl⟩) 1 4 (tf_xat_1 ad cI cZ _) rfl rfl hl.1 rfl (Nat.le_of_ble_eq_true rfl) dX5_memberOf_28 (fun H locs hI => ?_)
    refine lv_iconst (v := 5) hx hb dX5_memberOf_31 (by decide +kernel) ?_
    obtain ⟨u7, q8, h⟩ := tf_gbind h
    refine tf_callV (rest := []) ⟨hx, hb, hml, hown, hts⟩ hK hN hI (kX_X5_orFault l D ad cI cZ _ _ _ _ q8) (cwV 2 hts gX5_memberOf_X5_orFault rfl rfl rfl (by decide +kernel) ⟨Nat.le_of_ble_eq_true rfl, Nat.le_of_ble_eq_true rfl⟩) 5 5 (tf_xat_5 ad cI cZ _) rfl rfl hl.1 rfl (Nat.le_of_ble_eq_true rfl) dX5_memberOf_32 (fun H locs hI => ?_)
    obtain ⟨v9, ev9, h⟩ := tf_glet h
    refine tf_top ev9 ?_
    refine lv_istore_n (lv' := [(3, .int v9), (0, .ref (ad 5)), (1, .int x1), (2, .int x2)]) hx hb dX5_memberOf_35 rfl hl (by decide) rfl (fun ls hl => ?_)
    refine lv_iload_n hx hb dX5_memberOf_36 rfl (lv_at hl 0 rfl) ?_
    refine lv_iconst (v := -1) hx hb dX5_memberOf_37 (by decide +kernel) ?_
    refine lv_icmp_ne (tgt := 43) hx hb dX5_memberOf_38 (by decide) (fun c10 => ?_) (fun c10 => ?_)
    · replace h := tf_neg c10 h
      refine lv_aload_n hx hb dX5_memberOf_43 rfl (lv_at hl 1 rfl) ?_
      refine tf_get (C := RX5) (T := TX5) (N := 6) hx hb hts hn_X5 hown hK hI 5 (tf_xat_5 ad cI cZ _) rfl 1 (by decide) hf_23 rfl rfl dX5_memberOf_44 ?_
      refine tf_get (C := RX1) (T := TX1) (N := 3) hx hb hts hn_X1 hown hK hI 2 (tf_xat_2 ad cI cZ _) rfl 2 (by decide) hf_114 rfl rfl dX5_memberOf_47 ?_
      refine lv_iload_n hx hb dX5_memberOf_50 rfl (lv_at hl 3 rfl) ?_
      obtain ⟨b11, h⟩ := tf_gin h
      refine va_iald hx hb hK hI.1 16 0 (tf_xat_16 ad cI cZ _) rfl b11 dX5_memberOf_51 ?_
      obtain ⟨v12, ev12, h⟩ := tf_glet h
      refine tf_top ev12 ?_
      refine lv_istore (lv' := [(4, .int v12), (3, .int v9), (0, .ref (ad 5)), (1, .int x1), (2, .int x2)]) hx hb dX5_memberOf_52 hl (by decide) rfl (fun ls hl => ?_)
      refine lv_aload_n hx hb dX5_memberOf_54 rfl (lv_at hl 2 rfl) ?_
      refine lv_aload_n hx hb dX5_memberOf_55 rfl (lv_at hl 2 rfl) ?_
      refine tf_get (C := RX5) (T := TX5) (N := 6) hx hb hts hn_X5 hown hK hI 5 (tf_xat_5 ad cI cZ _) rfl 0 (by decide) hf_19 rfl rfl dX5_memberOf_56 ?_
      refine lv_iload hx hb dX5_memberOf_59 (lv_at hl 0 rfl) ?_
      refine lv_aload_n hx hb dX5_memberOf_61 rfl (lv_at hl 2 rfl) ?_
      refine tf_get (C := RX5) (T := TX5) (N := 6) hx hb hts hn_X5 hown hK hI 5 (tf_xat_5 ad cI cZ _) rfl 0 (by decide) hf_19 rfl rfl dX5_memberOf_62 ?_
      refine tf_get (C := RX4) (T := TX4) (N := 10) hx hb hts hn_X4 hown hK hI 1 (tf_xat_1 ad cI cZ _) rfl 5 (by decide) hf_115 rfl rfl dX5_memberOf_65 ?_
      refine lv_iload_n hx hb dX5_memberOf_68 rfl (lv_at hl 1 rfl) ?_
      obtain ⟨b13, h⟩ := tf_gin h
      refine va_iald hx hb hK hI.1 10 0 (tf_xat_10 ad cI cZ _) rfl b13 dX5_memberOf_69 ?_
      refine lv_aload_n hx hb dX5_memberOf_70 rfl (lv_at hl 2 rfl) ?_
      refine tf_get (C := RX5) (T := TX5) (N := 6) hx hb hts hn_X5 hown hK hI 5 (tf_xat_5 ad cI cZ _) rfl 0 (by decide) hf_19 rfl rfl dX5_memberOf_71 ?_
      refine tf_get (C := RX4) (T := TX4) (N := 10) hx hb hts hn_X4 hown hK hI 1 (tf_xat_1 ad cI cZ _) rfl 6 (by decide) hf_118 rfl rfl dX5_memberOf_74 ?_
      refine lv_iload_n hx hb dX5_memberOf_77 rfl (lv_at hl 1 rfl) ?_
      obtain ⟨b14, h⟩ := tf_gin h
      refine va_iald hx hb hK hI.1 11 0 (tf_xat_11 ad cI cZ _) rfl b14 dX5_memberOf_78 ?_
      obtain ⟨u15, q16, h⟩ := tf_gbind h
      refine tf_callV (rest := [.ref (ad 5)]) ⟨hx, hb, hml, hown, hts⟩ hK hN hI (kX_X4_putIn l D ad cI cZ _ _ _ _ _ q16) (cwV 3 hts gX5_memberOf_X4_putIn rfl rfl rfl (by decide +kernel) ⟨Nat.le_of_ble_eq_true rfl, Nat.le_of_ble_eq_true rfl⟩) 1 4 (tf_xat_1 ad cI cZ _) rfl rfl hl.1 rfl (Nat.le_of_ble_eq_true rfl) dX5_memberOf_79 (fun H locs hI => ?_)
      refine lv_bipush (v := 8) hx hb dX5_memberOf_82 (by decide +kernel) ?_
      obtain ⟨u17, q18, h⟩ := tf_gbind h
      refine tf_callV (rest := []) ⟨hx, hb, hml, hown, hts⟩ hK hN hI (kX_X5_orFault l D ad cI cZ _ _ _ _ q18) (cwV 2 hts gX5_memberOf_X5_orFault rfl rfl rfl (by decide +kernel) ⟨Nat.le_of_ble_eq_true rfl, Nat.le_of_ble_eq_true rfl⟩) 5 5 (tf_xat_5 ad cI cZ _) rfl rfl hl.1 rfl (Nat.le_of_ble_eq_true rfl) dX5_memberOf_84 (fun H locs hI => ?_)
      exact tf_iret hx hb hr hI h dX5_memberOf_87 hlocks
    replace h := tf_pos c10 h
    refine lv_iconst (v := -1) hx hb dX5_memberOf_41 (by decide +kernel) ?_
    exact tf_iret hx hb hr hI h dX5_memberOf_42 hlocks
  replace h := tf_neg c3 h
  refine lv_aload_n hx hb dX5_memberOf_7 rfl (lv_at hl 0 rfl) ?_
  refine lv_iconst (v := 5) hx hb dX5_memberOf_8 (by decide +kernel) ?_
  obtain ⟨u19, q20, h⟩ := tf_gbind h
  refine tf_callV (rest := []) ⟨hx, hb, hml, hown, hts⟩ hK hN hI (kX_X5_none l D ad cI cZ _ _ _ q20) (cwV 1 hts gX5_memberOf_X5_none rfl rfl rfl (by decide +kernel) ⟨Nat.le_of_ble_eq_true rfl, Nat.le_of_ble_eq_true rfl⟩) 5 5 (tf_xat_5 ad cI cZ _) rfl rfl hl.1 rfl (Nat.le_of_ble_eq_true rfl) dX5_memberOf_9 (fun H locs hI => ?_)
  exact tf_iret hx hb hr hI h dX5_memberOf_12 hlocks
