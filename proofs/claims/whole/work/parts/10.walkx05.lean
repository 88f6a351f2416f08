set_option maxHeartbeats 4000000 in
set_option maxRecDepth 100000 in
theorem kX_X6_count (l : Launch) (D : va_G) (ad : Nat → Nat) (cI cZ : ClassId) (σ : tf_S) (x1 : Int32) (z : Int32 × tf_S) (h : fX6_count σ x1 = some z) : tf_C l D (tf_wx ad cI cZ) [(cI, .int), (cZ, .boolean)] tf_nest yX6_count wsX6_count ({ frames := 1, cells := 0, slots := 0, locals := 22 }) [.ref (ad 0), .int x1] σ z := by
  intro sz
  refine Met.ofW (cc := cX6_count) (maxL := 2) (ret := (some .int)) (by decide) rfl ?_
  intro p e s m args below meth c s₁ B hml hv
  obtain ⟨rfl, hsz, hP, hK, hN, hD0⟩ := hv
  have hx := B.exec
  have hb := B.bytes
  have hr := B.returns
  have hts := atoms_spec (ws := wsX6_count) B.pre
  have hown : s.vm.findClass RX6 = some m.cls := findClass_of_methodNamed B.named
  have hlocks := B.notSynchronized
  subst hsz
  have hI := tf_start (D := D) (tf_x_ad ad cI cZ) hP hD0
  have hl := lv_entry ([.ref (ad 0), .int x1]) (n := 2) (Nat.le_of_ble_eq_true rfl)
  rw [lg_entry_eq]
  generalize (lg_sl ([.ref (ad 0), .int x1]) ++ List.replicate (2 - (lg_sl ([.ref (ad 0), .int x1])).length) Slot.unset).toArray = ls at hl ⊢
  have hl : lv_has ls 2 [(0, .ref (ad 0)), (1, .int x1)] := hl
  have hn_X0 : ∀ w ∈ u_ws RX0 TX0 5, w ∈ wsX6_count := by decide +kernel
  have hn_X1 : ∀ w ∈ u_ws RX1 TX1 3, w ∈ wsX6_count := by decide +kernel
  have hn_X2 : ∀ w ∈ u_ws RX2 TX2 11, w ∈ wsX6_count := by decide +kernel
  have hn_X4 : ∀ w ∈ u_ws RX4 TX4 10, w ∈ wsX6_count := by decide +kernel
  have hn_X6 : ∀ w ∈ u_ws RX6 TX6 5, w ∈ wsX6_count := by decide +kernel
  have hf_10 := hts (.fieldLink RX6 10 "TypeFlow" "types" "LTypeFlow$Types;") (by decide +kernel)
  have hf_19 := hts (.fieldLink RX6 19 "TypeFlow" "members" "LTypeFlow$Members;") (by decide +kernel)
  have hf_26 := hts (.fieldLink RX6 26 "TypeFlow" "functions" "LTypeFlow$Functions;") (by decide +kernel)
  have hf_33 := hts (.fieldLink RX6 33 "TypeFlow" "operators" "LTypeFlow$Operators;") (by decide +kernel)
  have hf_99 := hts (.fieldLink RX6 99 "TypeFlow$Operators" "size" "I") (by decide +kernel)
  have hf_143 := hts (.fieldLink RX6 143 "TypeFlow$Types" "classes" "I") (by decide +kernel)
  have hf_146 := hts (.fieldLink RX6 146 "TypeFlow$Types" "size" "I") (by decide +kernel)
  have hf_147 := hts (.fieldLink RX6 147 "TypeFlow$Members" "size" "I") (by decide +kernel)
  have hf_148 := hts (.fieldLink RX6 148 "TypeFlow$Functions" "size" "I") (by decide +kernel)
  unfold fX6_count at h
  refine lv_iload_n hx hb dX6_count_0 rfl (lv_at hl 1 rfl) ?_
  by_cases c1 : x1 = (0 : Int32)
  · replace h := tf_pos c1 h
    refine lv_tableIn (tgt := 40) (off := 39) hx hb dX6_count_1 (by rw [c1]; decide +kernel) (by rw [c1]; decide +kernel) (by rw [c1]; decide +kernel) (by decide) ?_
    refine lv_aload_n hx hb dX6_count_40 rfl (lv_at hl 0 rfl) ?_
    refine tf_get (C := RX6) (T := TX6) (N := 5) hx hb hts hn_X6 hown hK hI 0 (tf_xat_0 ad cI cZ _) rfl 0 (by decide) hf_10 rfl rfl dX6_count_41 ?_
    refine tf_get (C := RX4) (T := TX4) (N := 10) hx hb hts hn_X4 hown hK hI 1 (tf_xat_1 ad cI cZ _) rfl 0 (by decide) hf_143 rfl rfl dX6_count_44 ?_
    exact tf_iret hx hb hr hI h dX6_count_47 hlocks
  replace h := tf_neg c1 h
  by_cases c2 : x1 = (1 : Int32)
  · replace h := tf_pos c2 h
    refine lv_tableIn (tgt := 48) (off := 47) hx hb dX6_count_1 (by rw [c2]; decide +kernel) (by rw [c2]; decide +kernel) (by rw [c2]; decide +kernel) (by decide) ?_
    refine lv_aload_n hx hb dX6_count_48 rfl (lv_at hl 0 rfl) ?_
    refine tf_get (C := RX6) (T := TX6) (N := 5) hx hb hts hn_X6 hown hK hI 0 (tf_xat_0 ad cI cZ _) rfl 0 (by decide) hf_10 rfl rfl dX6_count_49 ?_
    refine tf_get (C := RX4) (T := TX4) (N := 10) hx hb hts hn_X4 hown hK hI 1 (tf_xat_1 ad cI cZ _) rfl 3 (by decide) hf_146 rfl rfl dX6_count_52 ?_
    exact tf_iret hx hb hr hI h dX6_count_55 hlocks
  replace h := tf_neg c2 h
  by_cases c3 : x1 = (2 : Int32)
  · replace h := tf_pos c3 h
    refine lv_tableIn (tgt := 56) (off := 55) hx hb dX6_count_1 (by rw [c3]; decide +kernel) (by rw [c3]; decide +kernel) (by rw [c3]; decide +kernel) (by decide) ?_
    refine lv_aload_n hx hb dX6_count_56 rfl (lv_at hl 0 rfl) ?_
    refine tf_get (C := RX6) (T := TX6) (N := 5) hx hb hts hn_X6 hown hK hI 0 (tf_xat_0 ad cI cZ _) rfl 1 (by decide) hf_19 rfl rfl dX6_count_57 ?_
    refine tf_get (C := RX1) (T := TX1) (N := 3) hx hb hts hn_X1 hown hK hI 2 (tf_xat_2 ad cI cZ _) rfl 0 (by decide) hf_147 rfl rfl dX6_count_60 ?_
    exact tf_iret hx hb hr hI h dX6_count_63 hlocks
  replace h := tf_neg c3 h
  by_cases c4 : x1 = (3 : Int32)
  · replace h := tf_pos c4 h
    refine lv_tableIn (tgt := 64) (off := 63) hx hb dX6_count_1 (by rw [c4]; decide +kernel) (by rw [c4]; decide +kernel) (by rw [c4]; decide +kernel) (by decide) ?_
    refine lv_aload_n hx hb dX6_count_64 rfl (lv_at hl 0 rfl) ?_
    refine tf_get (C := RX6) (T := TX6) (N := 5) hx hb hts hn_X6 hown hK hI 0 (tf_xat_0 ad cI cZ _) rfl 2 (by decide) hf_26 rfl rfl dX6_count_65 ?_
    refine tf_get (C := RX0) (T := TX0) (N := 5) hx hb hts hn_X0 hown hK hI 3 (tf_xat_3 ad cI cZ _) rfl 0 (by decide) hf_148 rfl rfl dX6_count_68 ?_
    exact tf_iret hx hb hr hI h dX6_count_71 hlocks
  replace h := tf_neg c4 h
  by_cases c5 : x1 = (4 : Int32)
  · replace h := tf_pos c5 h
    refine lv_tableIn (tgt := 72) (off := 71) hx hb dX6_count_1 (by rw [c5]; decide +kernel) (by rw [c5]; decide +kernel) (by rw [c5]; decide +kernel) (by decide) ?_
    refine lv_aload_n hx hb dX6_count_72 rfl (lv_at hl 0 rfl) ?_
    refine tf_get (C := RX6) (T := TX6) (N := 5) hx hb hts hn_X6 hown hK hI 0 (tf_xat_0 ad cI cZ _) rfl 3 (by decide) hf_33 rfl rfl dX6_count_73 ?_
    refine tf_get (C := RX2) (T := TX2) (N := 11) hx hb hts hn_X2 hown hK hI 4 (tf_xat_4 ad cI cZ _) rfl 0 (by decide) hf_99 rfl rfl dX6_count_76 ?_
    exact tf_iret hx hb hr hI h dX6_count_79 hlocks
  replace h := tf_neg c5 h
  by_cases c6 : x1 = (5 : Int32)
  · replace h := tf_pos c6 h
    refine lv_tableIn (tgt := 80) (off := 79) hx hb dX6_count_1 (by rw [c6]; decide +kernel) (by rw [c6]; decide +kernel) (by rw [c6]; decide +kernel) (by decide) ?_
    refine lv_aload_n hx hb dX6_count_80 rfl (lv_at hl 0 rfl) ?_
    refine tf_get (C := RX6) (T := TX6) (N := 5) hx hb hts hn_X6 hown hK hI 0 (tf_xat_0 ad cI cZ _) rfl 3 (by decide) hf_33 rfl rfl dX6_count_81 ?_
    obtain ⟨u7, q8, h⟩ := tf_gbind h
    refine tf_callV (rest := []) ⟨hx, hb, hml, hown, hts⟩ hK hN hI (kX_X2_howManyRisky l D ad cI cZ _ _ q8) (cwV 0 hts gX6_count_X2_howManyRisky rfl rfl rfl (by decide +kernel) ⟨Nat.le_of_ble_eq_true rfl, Nat.le_of_ble_eq_true rfl⟩) 4 2 (tf_xat_4 ad cI cZ _) rfl rfl hl.1 rfl (Nat.le_of_ble_eq_true rfl) dX6_count_84 (fun H locs hI => ?_)
    exact tf_iret hx hb hr hI h dX6_count_87 hlocks
  replace h := tf_neg c6 h
  refine lv_tableOut (tgt := 88) hx hb dX6_count_1 (by have ac1 := lv_neT c1 (a := 0) (by decide +kernel); have ac2 := lv_neT c2 (a := 1) (by decide +kernel); have ac3 := lv_neT c3 (a := 2) (by decide +kernel); have ac4 := lv_neT c4 (a := 3) (by decide +kernel); have ac5 := lv_neT c5 (a := 4) (by decide +kernel); have ac6 := lv_neT c6 (a := 5) (by decide +kernel); omega) (by decide) ?_
  refine lv_bipush (v := -2) hx hb dX6_count_88 (by decide +kernel) ?_
  exact tf_iret hx hb hr hI h dX6_count_90 hlocks
